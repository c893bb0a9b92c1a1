def tb_90 : List (Nat × ae_I) := [(0, .inl (o_al 0 1)),
  (1, .inl (o_il 1 2)),
  (2, .inr (.inr (.inl (88, 2, 5, some 4, [])))),
  (5, .inl (o_is 3 6)),
  (6, .inl (o_al 0 7)),
  (7, .inr (.inr (.inl (89, 1, 10, some 4, [])))),
  (10, .inl (o_is 4 12)),
  (12, .inl (o_push (.int 0) 13)),
  (13, .inl (o_is 5 15)),
  (15, .inl (o_il 5 17)),
  (17, .inl (o_il 3 18)),
  (18, .inl (o_ic (fun x y => decide (y ≤ x)) 134 21)),
  (21, .inl (o_al 0 22)),
  (22, .inl (o_get 4 11 25)),
  (25, .inl (o_push (.int 8) 27)),
  (27, .inl (o_ic (fun x y => decide (y ≤ x)) 134 30)),
  (30, .inl (o_al 0 31)),
  (31, .inl (o_get 4 9 34)),
  (34, .inl (o_al 0 35)),
  (35, .inl (o_get 4 10 38)),
  (38, .inl (o_al 0 39)),
  (39, .inl (o_get 4 11 42)),
  (42, .inl (o_bin (fun x y => x + y) 43)),
  (43, .inl (o_push (.int 8) 45)),
  (45, .inl (o_dv (fun x y => x - x / y * y) 46)),
  (46, .inl (o_aa 47)),
  (47, .inl (o_as 6 49)),
  (49, .inl (o_al 6 51)),
  (51, .inl (o_al 0 52)),
  (52, .inl (o_get 4 12 55)),
  (55, .inl (o_put 1 0 k_int 58)),
  (58, .inl (o_al 6 60)),
  (60, .inl (o_il 1 61)),
  (61, .inl (o_put 1 1 k_int 64)),
  (64, .inl (o_al 6 66)),
  (66, .inl (o_il 2 67)),
  (67, .inl (o_put 1 2 k_int 70)),
  (70, .inl (o_al 6 72)),
  (72, .inl (o_il 5 74)),
  (74, .inl (o_il 4 76)),
  (76, .inl (o_bin (fun x y => x * y) 77)),
  (77, .inl (o_put 1 3 k_int 80)),
  (80, .inl (o_al 6 82)),
  (82, .inl (o_il 4 84)),
  (84, .inl (o_push (.int 8) 86)),
  (86, .inl (o_il 1 87)),
  (87, .inl (o_bin (fun x y => x + y) 88)),
  (88, .inl (o_al 6 90)),
  (90, .inl (o_get 1 3 93)),
  (93, .inl (o_bin (fun x y => x - y) 94)),
  (94, .inl (o_mn 97)),
  (97, .inl (o_put 1 4 k_int 100)),
  (100, .inl (o_al 6 102)),
  (102, .inl (o_il 5 104)),
  (104, .inl (o_push (.int 1) 105)),
  (105, .inl (o_bin (fun x y => x + y) 106)),
  (106, .inl (o_il 3 107)),
  (107, .inl (o_ic (fun x y => decide (y ≤ x)) 114 110)),
  (110, .inl (o_push (.int 1) 111)),
  (111, .inl (o_goto 115)),
  (114, .inl (o_push (.int 0) 115)),
  (115, .inl (o_put 1 5 k_bool 118)),
  (118, .inl (o_al 0 119)),
  (119, .inl (o_dup 120)),
  (120, .inl (o_get 4 11 123)),
  (123, .inl (o_push (.int 1) 124)),
  (124, .inl (o_bin (fun x y => x + y) 125)),
  (125, .inl (o_put 4 11 k_int 128)),
  (128, .inl (o_inc 5 1 131)),
  (131, .inl (o_goto 15)),
  (134, .inl (o_al 0 135)),
  (135, .inl (o_al 0 136)),
  (136, .inl (o_get 4 12 139)),
  (139, .inl (o_push (.int 1) 140)),
  (140, .inl (o_bin (fun x y => x + y) 141)),
  (141, .inl (o_push (.int (65535 : Int32)) 143)),
  (143, .inl (o_bin (fun x y => x &&& y) 144)),
  (144, .inl (o_put 4 12 k_int 147)),
  (147, .inr (.inl none))]
theorem te_90 : ∀ q ∈ tb_90, ae_E am "TwinNetwork$Link" "addMessage" prog_6_method_6_code 7 (Option.none : Option Jvm.ClassFile.FieldType) [] q := by
  unfold tb_90
  refine List.forall_mem_cons.mpr ⟨ae_mk pu_al (fun X => ok_aload_n X (k := 0) rfl (by decide +kernel)), ?_⟩
  refine List.forall_mem_cons.mpr ⟨ae_mk pu_il (fun X => ok_iload_n X (k := 1) rfl (by decide +kernel)), ?_⟩
  refine List.forall_mem_cons.mpr ⟨ae_mkc (fun X => ok_callV X (mid := 88) (index := 81) (y := my_88) rfl (by decide) ⟨by decide, by decide⟩ (n := 1) (by decide +kernel) wd_741 wd_57 wd_750 wd_739 wd_740 (ci := 4) rfl (by decide +kernel)), ?_⟩
  refine List.forall_mem_cons.mpr ⟨ae_mk pu_is (fun X => ok_istore_n X (k := 3) rfl (by decide +kernel)), ?_⟩
  refine List.forall_mem_cons.mpr ⟨ae_mk pu_al (fun X => ok_aload_n X (k := 0) rfl (by decide +kernel)), ?_⟩
  refine List.forall_mem_cons.mpr ⟨ae_mkc (fun X => ok_callV X (mid := 89) (index := 77) (y := my_89) rfl (by decide) ⟨by decide, by decide⟩ (n := 0) (by decide +kernel) wd_745 wd_57 wd_742 wd_744 wd_19 (ci := 4) rfl (by decide +kernel)), ?_⟩
  refine List.forall_mem_cons.mpr ⟨ae_mk pu_is (fun X => ok_istore X (by decide +kernel)), ?_⟩
  refine List.forall_mem_cons.mpr ⟨ae_mk (pu_push (fun _ => trivial)) (fun X => ok_iconst X (n := 0) (by decide) (by decide +kernel)), ?_⟩
  refine List.forall_mem_cons.mpr ⟨ae_mk pu_is (fun X => ok_istore X (by decide +kernel)), ?_⟩
  refine List.forall_mem_cons.mpr ⟨ae_mk pu_il (fun X => ok_iload X (by decide +kernel)), ?_⟩
  refine List.forall_mem_cons.mpr ⟨ae_mk pu_il (fun X => ok_iload_n X (k := 3) rfl (by decide +kernel)), ?_⟩
  refine List.forall_mem_cons.mpr ⟨ae_mk pu_ic (fun X => ok_ic_ge X (off := 116) (by decide) (by decide +kernel)), ?_⟩
  refine List.forall_mem_cons.mpr ⟨ae_mk pu_al (fun X => ok_aload_n X (k := 0) rfl (by decide +kernel)), ?_⟩
  refine List.forall_mem_cons.mpr ⟨ae_mk pu_get (fun X => ok_get X (ci := 4) (kk := 11) (index := 31) rfl aw_c_Link (by decide) wd_694 (by decide +kernel)), ?_⟩
  refine List.forall_mem_cons.mpr ⟨ae_mk (pu_push (fun _ => trivial)) (fun X => ok_bipush X (n := 8) (by decide) (by decide +kernel)), ?_⟩
  refine List.forall_mem_cons.mpr ⟨ae_mk pu_ic (fun X => ok_ic_ge X (off := 107) (by decide) (by decide +kernel)), ?_⟩
  refine List.forall_mem_cons.mpr ⟨ae_mk pu_al (fun X => ok_aload_n X (k := 0) rfl (by decide +kernel)), ?_⟩
  refine List.forall_mem_cons.mpr ⟨ae_mk pu_get (fun X => ok_get X (ci := 4) (kk := 9) (index := 23) rfl aw_c_Link (by decide) wd_692 (by decide +kernel)), ?_⟩
  refine List.forall_mem_cons.mpr ⟨ae_mk pu_al (fun X => ok_aload_n X (k := 0) rfl (by decide +kernel)), ?_⟩
  refine List.forall_mem_cons.mpr ⟨ae_mk pu_get (fun X => ok_get X (ci := 4) (kk := 10) (index := 27) rfl aw_c_Link (by decide) wd_693 (by decide +kernel)), ?_⟩
  refine List.forall_mem_cons.mpr ⟨ae_mk pu_al (fun X => ok_aload_n X (k := 0) rfl (by decide +kernel)), ?_⟩
  refine List.forall_mem_cons.mpr ⟨ae_mk pu_get (fun X => ok_get X (ci := 4) (kk := 11) (index := 31) rfl aw_c_Link (by decide) wd_694 (by decide +kernel)), ?_⟩
  refine List.forall_mem_cons.mpr ⟨ae_mk pu_bin (fun X => ok_iadd X (by decide +kernel)), ?_⟩
  refine List.forall_mem_cons.mpr ⟨ae_mk (pu_push (fun _ => trivial)) (fun X => ok_bipush X (n := 8) (by decide) (by decide +kernel)), ?_⟩
  refine List.forall_mem_cons.mpr ⟨ae_mk pu_dv (fun X => ok_irem X (by decide +kernel)), ?_⟩
  refine List.forall_mem_cons.mpr ⟨ae_mk pu_aa (fun X => ok_aa X (by decide +kernel)), ?_⟩
  refine List.forall_mem_cons.mpr ⟨ae_mk pu_as (fun X => ok_astore X (by decide +kernel)), ?_⟩
  refine List.forall_mem_cons.mpr ⟨ae_mk pu_al (fun X => ok_aload X (by decide +kernel)), ?_⟩
  refine List.forall_mem_cons.mpr ⟨ae_mk pu_al (fun X => ok_aload_n X (k := 0) rfl (by decide +kernel)), ?_⟩
  refine List.forall_mem_cons.mpr ⟨ae_mk pu_get (fun X => ok_get X (ci := 4) (kk := 12) (index := 34) rfl aw_c_Link (by decide) wd_696 (by decide +kernel)), ?_⟩
  refine List.forall_mem_cons.mpr ⟨ae_mk pu_put (fun X => ok_putN X (ci := 1) (kk := 0) (index := 85) rfl aw_c_Fragment (by decide) wd_649 cy_Fragment cn_Fragment_ty cn_Fragment_nm rfl hk_int rfl (by decide +kernel)), ?_⟩
  refine List.forall_mem_cons.mpr ⟨ae_mk pu_al (fun X => ok_aload X (by decide +kernel)), ?_⟩
  refine List.forall_mem_cons.mpr ⟨ae_mk pu_il (fun X => ok_iload_n X (k := 1) rfl (by decide +kernel)), ?_⟩
  refine List.forall_mem_cons.mpr ⟨ae_mk pu_put (fun X => ok_putN X (ci := 1) (kk := 1) (index := 88) rfl aw_c_Fragment (by decide) wd_652 cy_Fragment cn_Fragment_ty cn_Fragment_nm rfl hk_int rfl (by decide +kernel)), ?_⟩
  refine List.forall_mem_cons.mpr ⟨ae_mk pu_al (fun X => ok_aload X (by decide +kernel)), ?_⟩
  refine List.forall_mem_cons.mpr ⟨ae_mk pu_il (fun X => ok_iload_n X (k := 2) rfl (by decide +kernel)), ?_⟩
  refine List.forall_mem_cons.mpr ⟨ae_mk pu_put (fun X => ok_putN X (ci := 1) (kk := 2) (index := 91) rfl aw_c_Fragment (by decide) wd_654 cy_Fragment cn_Fragment_ty cn_Fragment_nm rfl hk_int rfl (by decide +kernel)), ?_⟩
  refine List.forall_mem_cons.mpr ⟨ae_mk pu_al (fun X => ok_aload X (by decide +kernel)), ?_⟩
  refine List.forall_mem_cons.mpr ⟨ae_mk pu_il (fun X => ok_iload X (by decide +kernel)), ?_⟩
  refine List.forall_mem_cons.mpr ⟨ae_mk pu_il (fun X => ok_iload X (by decide +kernel)), ?_⟩
  refine List.forall_mem_cons.mpr ⟨ae_mk pu_bin (fun X => ok_imul X (by decide +kernel)), ?_⟩
  refine List.forall_mem_cons.mpr ⟨ae_mk pu_put (fun X => ok_putN X (ci := 1) (kk := 3) (index := 94) rfl aw_c_Fragment (by decide) wd_656 cy_Fragment cn_Fragment_ty cn_Fragment_nm rfl hk_int rfl (by decide +kernel)), ?_⟩
  refine List.forall_mem_cons.mpr ⟨ae_mk pu_al (fun X => ok_aload X (by decide +kernel)), ?_⟩
  refine List.forall_mem_cons.mpr ⟨ae_mk pu_il (fun X => ok_iload X (by decide +kernel)), ?_⟩
  refine List.forall_mem_cons.mpr ⟨ae_mk (pu_push (fun _ => trivial)) (fun X => ok_bipush X (n := 8) (by decide) (by decide +kernel)), ?_⟩
  refine List.forall_mem_cons.mpr ⟨ae_mk pu_il (fun X => ok_iload_n X (k := 1) rfl (by decide +kernel)), ?_⟩
  refine List.forall_mem_cons.mpr ⟨ae_mk pu_bin (fun X => ok_iadd X (by decide +kernel)), ?_⟩
  refine List.forall_mem_cons.mpr ⟨ae_mk pu_al (fun X => ok_aload X (by decide +kernel)), ?_⟩
  refine List.forall_mem_cons.mpr ⟨ae_mk pu_get (fun X => ok_getN X (ci := 1) (kk := 3) (index := 94) rfl aw_c_Fragment (by decide) wd_656 (by decide +kernel)), ?_⟩
  refine List.forall_mem_cons.mpr ⟨ae_mk pu_bin (fun X => ok_isub X (by decide +kernel)), ?_⟩
  refine List.forall_mem_cons.mpr ⟨ae_mk pu_mn (fun X => ok_mn X (index := 97) wd_203 aw_mn2 aw_mt3 aw_mn4 (by decide +kernel)), ?_⟩
  refine List.forall_mem_cons.mpr ⟨ae_mk pu_put (fun X => ok_putN X (ci := 1) (kk := 4) (index := 102) rfl aw_c_Fragment (by decide) wd_659 cy_Fragment cn_Fragment_ty cn_Fragment_nm rfl hk_int rfl (by decide +kernel)), ?_⟩
  refine List.forall_mem_cons.mpr ⟨ae_mk pu_al (fun X => ok_aload X (by decide +kernel)), ?_⟩
  refine List.forall_mem_cons.mpr ⟨ae_mk pu_il (fun X => ok_iload X (by decide +kernel)), ?_⟩
  refine List.forall_mem_cons.mpr ⟨ae_mk (pu_push (fun _ => trivial)) (fun X => ok_iconst X (n := 1) (by decide) (by decide +kernel)), ?_⟩
  refine List.forall_mem_cons.mpr ⟨ae_mk pu_bin (fun X => ok_iadd X (by decide +kernel)), ?_⟩
  refine List.forall_mem_cons.mpr ⟨ae_mk pu_il (fun X => ok_iload_n X (k := 3) rfl (by decide +kernel)), ?_⟩
  refine List.forall_mem_cons.mpr ⟨ae_mk pu_ic (fun X => ok_ic_ge X (off := 7) (by decide) (by decide +kernel)), ?_⟩
  refine List.forall_mem_cons.mpr ⟨ae_mk (pu_push (fun _ => trivial)) (fun X => ok_iconst X (n := 1) (by decide) (by decide +kernel)), ?_⟩
  refine List.forall_mem_cons.mpr ⟨ae_mk pu_goto (fun X => ok_goto X (off := 4) (by decide) (by decide +kernel)), ?_⟩
  refine List.forall_mem_cons.mpr ⟨ae_mk (pu_push (fun _ => trivial)) (fun X => ok_iconst X (n := 0) (by decide) (by decide +kernel)), ?_⟩
  refine List.forall_mem_cons.mpr ⟨ae_mk pu_put (fun X => ok_putN X (ci := 1) (kk := 5) (index := 105) rfl aw_c_Fragment (by decide) wd_662 cy_Fragment cn_Fragment_ty cn_Fragment_nm rfl hk_bool rfl (by decide +kernel)), ?_⟩
  refine List.forall_mem_cons.mpr ⟨ae_mk pu_al (fun X => ok_aload_n X (k := 0) rfl (by decide +kernel)), ?_⟩
  refine List.forall_mem_cons.mpr ⟨ae_mk pu_dup (fun X => ok_dup X (by decide +kernel)), ?_⟩
  refine List.forall_mem_cons.mpr ⟨ae_mk pu_get (fun X => ok_get X (ci := 4) (kk := 11) (index := 31) rfl aw_c_Link (by decide) wd_694 (by decide +kernel)), ?_⟩
  refine List.forall_mem_cons.mpr ⟨ae_mk (pu_push (fun _ => trivial)) (fun X => ok_iconst X (n := 1) (by decide) (by decide +kernel)), ?_⟩
  refine List.forall_mem_cons.mpr ⟨ae_mk pu_bin (fun X => ok_iadd X (by decide +kernel)), ?_⟩
  refine List.forall_mem_cons.mpr ⟨ae_mk pu_put (fun X => ok_put X (ci := 4) (kk := 11) (index := 31) rfl aw_c_Link (by decide) wd_694 cy_Link cn_Link_ty cn_Link_nm rfl hk_int rfl (by decide +kernel)), ?_⟩
  refine List.forall_mem_cons.mpr ⟨ae_mk pu_inc (fun X => ok_iinc X (n := 1) (by decide) (by decide +kernel)), ?_⟩
  refine List.forall_mem_cons.mpr ⟨ae_mk pu_goto (fun X => ok_goto X (off := (-116)) (by decide) (by decide +kernel)), ?_⟩
  refine List.forall_mem_cons.mpr ⟨ae_mk pu_al (fun X => ok_aload_n X (k := 0) rfl (by decide +kernel)), ?_⟩
  refine List.forall_mem_cons.mpr ⟨ae_mk pu_al (fun X => ok_aload_n X (k := 0) rfl (by decide +kernel)), ?_⟩
  refine List.forall_mem_cons.mpr ⟨ae_mk pu_get (fun X => ok_get X (ci := 4) (kk := 12) (index := 34) rfl aw_c_Link (by decide) wd_696 (by decide +kernel)), ?_⟩
  refine List.forall_mem_cons.mpr ⟨ae_mk (pu_push (fun _ => trivial)) (fun X => ok_iconst X (n := 1) (by decide) (by decide +kernel)), ?_⟩
  refine List.forall_mem_cons.mpr ⟨ae_mk pu_bin (fun X => ok_iadd X (by decide +kernel)), ?_⟩
  refine List.forall_mem_cons.mpr ⟨ae_mk (pu_push (fun _ => trivial)) (fun X => ok_ldc X (index := 108) wd_751 (by decide +kernel)), ?_⟩
  refine List.forall_mem_cons.mpr ⟨ae_mk pu_bin (fun X => ok_iand X (by decide +kernel)), ?_⟩
  refine List.forall_mem_cons.mpr ⟨ae_mk pu_put (fun X => ok_put X (ci := 4) (kk := 12) (index := 34) rfl aw_c_Link (by decide) wd_696 cy_Link cn_Link_ty cn_Link_nm rfl hk_int rfl (by decide +kernel)), ?_⟩
  refine List.forall_mem_cons.mpr ⟨⟨rfl, (by decide +kernel)⟩, ?_⟩
  exact fun _ h => absurd h List.not_mem_nil
def tb_91 : List (Nat × ae_I) := [(0, .inl (o_al 3 1)),
  (1, .inl (o_push (.int 0) 2)),
  (2, .inl (o_al 0 3)),
  (3, .inl (o_il 1 4)),
  (4, .inl (o_il 2 5)),
  (5, .inr (.inr (.inl (92, 3, 8, some 7, [(0, 15, 4)])))),
  (8, .inl (o_i2l 9)),
  (9, .inl (o_las 10)),
  (10, .inl (o_goto 17)),
  (15, .inl (o_push (.int 1) 16)),
  (16, .inr (.inl (some k_int))),
  (17, .inl (o_push (.int 0) 18)),
  (18, .inr (.inl (some k_int)))]
theorem te_91 : ∀ q ∈ tb_91, ae_E am "TwinNetworkLaw" "read" method_5_code 5 (Option.some Jvm.ClassFile.FieldType.int) [(0, 10, 13, 13)] q := by
  unfold tb_91
  refine List.forall_mem_cons.mpr ⟨ae_mk pu_al (fun X => ok_aload_n X (k := 3) rfl (by decide +kernel)), ?_⟩
  refine List.forall_mem_cons.mpr ⟨ae_mk (pu_push (fun _ => trivial)) (fun X => ok_iconst X (n := 0) (by decide) (by decide +kernel)), ?_⟩
  refine List.forall_mem_cons.mpr ⟨ae_mk pu_al (fun X => ok_aload_n X (k := 0) rfl (by decide +kernel)), ?_⟩
  refine List.forall_mem_cons.mpr ⟨ae_mk pu_il (fun X => ok_iload_n X (k := 1) rfl (by decide +kernel)), ?_⟩
  refine List.forall_mem_cons.mpr ⟨ae_mk pu_il (fun X => ok_iload_n X (k := 2) rfl (by decide +kernel)), ?_⟩
  refine List.forall_mem_cons.mpr ⟨ae_mkx (fun X => ok_callV X (mid := 92) (index := 21) (y := my_92) rfl (by decide) ⟨by decide, by decide⟩ (n := 2) (by decide +kernel) wd_758 wd_46 wd_755 wd_756 wd_757 (ci := 7) rfl (by decide +kernel)) (List.forall_mem_cons.mpr ⟨fun X => ok_catchV X (mid := 92) (index := 21) (y := my_92) rfl (by decide) ⟨by decide, by decide⟩ (n := 2) (by decide +kernel) wd_758 wd_46 wd_755 wd_756 wd_757 (ci := 7) rfl (by decide +kernel) (x := 0) (pre := []) (suf := []) rfl ⟨by decide, by decide⟩ (by decide) wd_502 wd_516 (Or.inl rfl) (by decide) (by decide +kernel), fun _ h => absurd h List.not_mem_nil⟩), ?_⟩
  refine List.forall_mem_cons.mpr ⟨ae_mk pu_i2l (fun X => ok_i2l X (by decide +kernel)), ?_⟩
  refine List.forall_mem_cons.mpr ⟨ae_mk pu_las (fun X => ok_las X (by decide +kernel)), ?_⟩
  refine List.forall_mem_cons.mpr ⟨ae_mk pu_goto (fun X => ok_goto X (off := 7) (by decide) (by decide +kernel)), ?_⟩
  refine List.forall_mem_cons.mpr ⟨ae_mk (pu_push (fun _ => trivial)) (fun X => ok_iconst X (n := 1) (by decide) (by decide +kernel)), ?_⟩
  refine List.forall_mem_cons.mpr ⟨Or.inl ⟨rfl, (by decide +kernel), rt_int⟩, ?_⟩
  refine List.forall_mem_cons.mpr ⟨ae_mk (pu_push (fun _ => trivial)) (fun X => ok_iconst X (n := 0) (by decide) (by decide +kernel)), ?_⟩
  refine List.forall_mem_cons.mpr ⟨Or.inl ⟨rfl, (by decide +kernel), rt_int⟩, ?_⟩
  exact fun _ h => absurd h List.not_mem_nil
def tb_92 : List (Nat × ae_I) := [(0, .inl (o_al 0 1)),
  (1, .inl (o_il 1 2)),
  (2, .inl (o_il 2 3)),
  (3, .inr (.inr (.inl (65, 3, 6, some 7, [])))),
  (6, .inl (o_as 3 7)),
  (7, .inl (o_al 3 8)),
  (8, .inl (o_nul 11 19)),
  (11, .inr (.inr (.inr (0, 1, 6)))),
  (19, .inl (o_al 3 20)),
  (20, .inr (.inr (.inl (93, 1, 23, some 5, [])))),
  (23, .inl (o_as 4 25)),
  (25, .inl (o_al 4 27)),
  (27, .inl (o_nul 30 32)),
  (30, .inl (o_push (.int 0) 31)),
  (31, .inr (.inl (some k_int))),
  (32, .inl (o_al 0 33)),
  (33, .inl (o_get 7 4 36)),
  (36, .inl (o_al 4 38)),
  (38, .inr (.inr (.inl (94, 2, 41, some 0, [])))),
  (41, .inl (o_al 0 42)),
  (42, .inl (o_get 7 4 45)),
  (45, .inl (o_get 0 1 48)),
  (48, .inl (o_push (.int 8) 50)),
  (50, .inl (o_bin (fun x y => x - y) 51)),
  (51, .inr (.inl (some k_int)))]
theorem te_92 : ∀ q ∈ tb_92, ae_E am "TwinNetwork" "read" prog_1_method_5_code 5 (Option.some Jvm.ClassFile.FieldType.int) [] q := by
  unfold tb_92
  refine List.forall_mem_cons.mpr ⟨ae_mk pu_al (fun X => ok_aload_n X (k := 0) rfl (by decide +kernel)), ?_⟩
  refine List.forall_mem_cons.mpr ⟨ae_mk pu_il (fun X => ok_iload_n X (k := 1) rfl (by decide +kernel)), ?_⟩
  refine List.forall_mem_cons.mpr ⟨ae_mk pu_il (fun X => ok_iload_n X (k := 2) rfl (by decide +kernel)), ?_⟩
  refine List.forall_mem_cons.mpr ⟨ae_mkc (fun X => ok_callV X (mid := 65) (index := 101) (y := my_65) rfl (by decide) ⟨by decide, by decide⟩ (n := 2) (by decide +kernel) wd_444 wd_46 wd_441 wd_443 wd_16 (ci := 7) rfl (by decide +kernel)), ?_⟩
  refine List.forall_mem_cons.mpr ⟨ae_mk pu_as (fun X => ok_astore_n X (k := 3) rfl (by decide +kernel)), ?_⟩
  refine List.forall_mem_cons.mpr ⟨ae_mk pu_al (fun X => ok_aload_n X (k := 3) rfl (by decide +kernel)), ?_⟩
  refine List.forall_mem_cons.mpr ⟨ae_mk pu_nul (fun X => ok_ifnonnull X (off := 11) (by decide) (by decide +kernel)), ?_⟩
  refine List.forall_mem_cons.mpr ⟨⟨rfl, rfl, 60, 62, by decide +kernel, by decide +kernel, by decide +kernel, by decide +kernel, wd_514, wd_55, ae_tw (by decide +kernel), rfl, by decide +kernel⟩, ?_⟩
  refine List.forall_mem_cons.mpr ⟨ae_mk pu_al (fun X => ok_aload_n X (k := 3) rfl (by decide +kernel)), ?_⟩
  refine List.forall_mem_cons.mpr ⟨ae_mkc (fun X => ok_callV X (mid := 93) (index := 105) (y := my_93) rfl (by decide) ⟨by decide, by decide⟩ (n := 0) (by decide +kernel) wd_762 wd_58 wd_759 wd_760 wd_761 (ci := 5) rfl (by decide +kernel)), ?_⟩
  refine List.forall_mem_cons.mpr ⟨ae_mk pu_as (fun X => ok_astore X (by decide +kernel)), ?_⟩
  refine List.forall_mem_cons.mpr ⟨ae_mk pu_al (fun X => ok_aload X (by decide +kernel)), ?_⟩
  refine List.forall_mem_cons.mpr ⟨ae_mk pu_nul (fun X => ok_ifnonnull X (off := 5) (by decide) (by decide +kernel)), ?_⟩
  refine List.forall_mem_cons.mpr ⟨ae_mk (pu_push (fun _ => trivial)) (fun X => ok_iconst X (n := 0) (by decide) (by decide +kernel)), ?_⟩
  refine List.forall_mem_cons.mpr ⟨Or.inl ⟨rfl, (by decide +kernel), rt_int⟩, ?_⟩
  refine List.forall_mem_cons.mpr ⟨ae_mk pu_al (fun X => ok_aload_n X (k := 0) rfl (by decide +kernel)), ?_⟩
  refine List.forall_mem_cons.mpr ⟨ae_mk pu_get (fun X => ok_get X (ci := 7) (kk := 4) (index := 35) rfl aw_c_Net (by decide) wd_168 (by decide +kernel)), ?_⟩
  refine List.forall_mem_cons.mpr ⟨ae_mk pu_al (fun X => ok_aload X (by decide +kernel)), ?_⟩
  refine List.forall_mem_cons.mpr ⟨ae_mkc (fun X => ok_callV X (mid := 94) (index := 111) (y := my_94) rfl (by decide) ⟨by decide, by decide⟩ (n := 1) (by decide +kernel) wd_766 wd_48 wd_763 wd_764 wd_765 (ci := 0) rfl (by decide +kernel)), ?_⟩
  refine List.forall_mem_cons.mpr ⟨ae_mk pu_al (fun X => ok_aload_n X (k := 0) rfl (by decide +kernel)), ?_⟩
  refine List.forall_mem_cons.mpr ⟨ae_mk pu_get (fun X => ok_get X (ci := 7) (kk := 4) (index := 35) rfl aw_c_Net (by decide) wd_168 (by decide +kernel)), ?_⟩
  refine List.forall_mem_cons.mpr ⟨ae_mk pu_get (fun X => ok_getN X (ci := 0) (kk := 1) (index := 115) rfl aw_c_Datagram (by decide) wd_99 (by decide +kernel)), ?_⟩
  refine List.forall_mem_cons.mpr ⟨ae_mk (pu_push (fun _ => trivial)) (fun X => ok_bipush X (n := 8) (by decide) (by decide +kernel)), ?_⟩
  refine List.forall_mem_cons.mpr ⟨ae_mk pu_bin (fun X => ok_isub X (by decide +kernel)), ?_⟩
  refine List.forall_mem_cons.mpr ⟨Or.inl ⟨rfl, (by decide +kernel), rt_int⟩, ?_⟩
  exact fun _ h => absurd h List.not_mem_nil
def tb_93 : List (Nat × ae_I) := [(0, .inl (o_al 0 1)),
  (1, .inl (o_get 5 10 4)),
  (4, .inl (o_if (fun x => decide (¬ x = 0)) 9 7)),
  (7, .inl (o_push .null 8)),
  (8, .inr (.inl (some k_ref))),
  (9, .inl (o_al 0 10)),
  (10, .inl (o_get 5 8 13)),
  (13, .inl (o_al 0 14)),
  (14, .inl (o_get 5 9 17)),
  (17, .inl (o_aa 18)),
  (18, .inl (o_as 1 19)),
  (19, .inl (o_al 0 20)),
  (20, .inl (o_get 5 0 23)),
  (23, .inl (o_if (fun x => decide (x = 0)) 48 26)),
  (26, .inl (o_al 0 27)),
  (27, .inl (o_dup 28)),
  (28, .inl (o_get 5 10 31)),
  (31, .inl (o_push (.int 1) 32)),
  (32, .inl (o_bin (fun x y => x - y) 33)),
  (33, .inl (o_put 5 10 k_int 36)),
  (36, .inl (o_al 0 37)),
  (37, .inl (o_al 0 38)),
  (38, .inl (o_get 5 9 41)),
  (41, .inl (o_push (.int 1) 42)),
  (42, .inl (o_bin (fun x y => x + y) 43)),
  (43, .inl (o_push (.int 4) 44)),
  (44, .inl (o_dv (fun x y => x - x / y * y) 45)),
  (45, .inl (o_put 5 9 k_int 48)),
  (48, .inl (o_al 1 49)),
  (49, .inr (.inl (some k_ref)))]
theorem te_93 : ∀ q ∈ tb_93, ae_E am "TwinNetwork$Port" "nextMessage" prog_7_method_8_code 2 (Option.some (Jvm.ClassFile.FieldType.object "TwinNetwork$Datagram")) [] q := by
  unfold tb_93
  refine List.forall_mem_cons.mpr ⟨ae_mk pu_al (fun X => ok_aload_n X (k := 0) rfl (by decide +kernel)), ?_⟩
  refine List.forall_mem_cons.mpr ⟨ae_mk pu_get (fun X => ok_get X (ci := 5) (kk := 10) (index := 39) rfl aw_c_Port (by decide) wd_616 (by decide +kernel)), ?_⟩
  refine List.forall_mem_cons.mpr ⟨ae_mk pu_if (fun X => ok_if_ne X (off := 5) (by decide) (by decide +kernel)), ?_⟩
  refine List.forall_mem_cons.mpr ⟨ae_mk (pu_push (fun _ => trivial)) (fun X => ok_null X (by decide +kernel)), ?_⟩
  refine List.forall_mem_cons.mpr ⟨Or.inr (Or.inr ⟨Or.inl ⟨_, rfl⟩, (by decide +kernel), rt_ref⟩), ?_⟩
  refine List.forall_mem_cons.mpr ⟨ae_mk pu_al (fun X => ok_aload_n X (k := 0) rfl (by decide +kernel)), ?_⟩
  refine List.forall_mem_cons.mpr ⟨ae_mk pu_get (fun X => ok_get X (ci := 5) (kk := 8) (index := 51) rfl aw_c_Port (by decide) wd_614 (by decide +kernel)), ?_⟩
  refine List.forall_mem_cons.mpr ⟨ae_mk pu_al (fun X => ok_aload_n X (k := 0) rfl (by decide +kernel)), ?_⟩
  refine List.forall_mem_cons.mpr ⟨ae_mk pu_get (fun X => ok_get X (ci := 5) (kk := 9) (index := 36) rfl aw_c_Port (by decide) wd_615 (by decide +kernel)), ?_⟩
  refine List.forall_mem_cons.mpr ⟨ae_mk pu_aa (fun X => ok_aa X (by decide +kernel)), ?_⟩
  refine List.forall_mem_cons.mpr ⟨ae_mk pu_as (fun X => ok_astore_n X (k := 1) rfl (by decide +kernel)), ?_⟩
  refine List.forall_mem_cons.mpr ⟨ae_mk pu_al (fun X => ok_aload_n X (k := 0) rfl (by decide +kernel)), ?_⟩
  refine List.forall_mem_cons.mpr ⟨ae_mk pu_get (fun X => ok_get X (ci := 5) (kk := 0) (index := 45) rfl aw_c_Port (by decide) wd_606 (by decide +kernel)), ?_⟩
  refine List.forall_mem_cons.mpr ⟨ae_mk pu_if (fun X => ok_if_eq X (off := 25) (by decide) (by decide +kernel)), ?_⟩
  refine List.forall_mem_cons.mpr ⟨ae_mk pu_al (fun X => ok_aload_n X (k := 0) rfl (by decide +kernel)), ?_⟩
  refine List.forall_mem_cons.mpr ⟨ae_mk pu_dup (fun X => ok_dup X (by decide +kernel)), ?_⟩
  refine List.forall_mem_cons.mpr ⟨ae_mk pu_get (fun X => ok_get X (ci := 5) (kk := 10) (index := 39) rfl aw_c_Port (by decide) wd_616 (by decide +kernel)), ?_⟩
  refine List.forall_mem_cons.mpr ⟨ae_mk (pu_push (fun _ => trivial)) (fun X => ok_iconst X (n := 1) (by decide) (by decide +kernel)), ?_⟩
  refine List.forall_mem_cons.mpr ⟨ae_mk pu_bin (fun X => ok_isub X (by decide +kernel)), ?_⟩
  refine List.forall_mem_cons.mpr ⟨ae_mk pu_put (fun X => ok_put X (ci := 5) (kk := 10) (index := 39) rfl aw_c_Port (by decide) wd_616 cy_Port cn_Port_ty cn_Port_nm rfl hk_int rfl (by decide +kernel)), ?_⟩
  refine List.forall_mem_cons.mpr ⟨ae_mk pu_al (fun X => ok_aload_n X (k := 0) rfl (by decide +kernel)), ?_⟩
  refine List.forall_mem_cons.mpr ⟨ae_mk pu_al (fun X => ok_aload_n X (k := 0) rfl (by decide +kernel)), ?_⟩
  refine List.forall_mem_cons.mpr ⟨ae_mk pu_get (fun X => ok_get X (ci := 5) (kk := 9) (index := 36) rfl aw_c_Port (by decide) wd_615 (by decide +kernel)), ?_⟩
  refine List.forall_mem_cons.mpr ⟨ae_mk (pu_push (fun _ => trivial)) (fun X => ok_iconst X (n := 1) (by decide) (by decide +kernel)), ?_⟩
  refine List.forall_mem_cons.mpr ⟨ae_mk pu_bin (fun X => ok_iadd X (by decide +kernel)), ?_⟩
  refine List.forall_mem_cons.mpr ⟨ae_mk (pu_push (fun _ => trivial)) (fun X => ok_iconst X (n := 4) (by decide) (by decide +kernel)), ?_⟩
  refine List.forall_mem_cons.mpr ⟨ae_mk pu_dv (fun X => ok_irem X (by decide +kernel)), ?_⟩
  refine List.forall_mem_cons.mpr ⟨ae_mk pu_put (fun X => ok_put X (ci := 5) (kk := 9) (index := 36) rfl aw_c_Port (by decide) wd_615 cy_Port cn_Port_ty cn_Port_nm rfl hk_int rfl (by decide +kernel)), ?_⟩
  refine List.forall_mem_cons.mpr ⟨ae_mk pu_al (fun X => ok_aload_n X (k := 1) rfl (by decide +kernel)), ?_⟩
  refine List.forall_mem_cons.mpr ⟨Or.inr (Or.inr ⟨Or.inl ⟨_, rfl⟩, (by decide +kernel), rt_ref⟩), ?_⟩
  exact fun _ h => absurd h List.not_mem_nil
def tb_94 : List (Nat × ae_I) := [(0, .inl (o_al 1 1)),
  (1, .inl (o_get 0 0 4)),
  (4, .inl (o_push (.int 0) 5)),
  (5, .inl (o_al 0 6)),
  (6, .inl (o_get 0 0 9)),
  (9, .inl (o_push (.int 0) 10)),
  (10, .inl (o_al 1 11)),
  (11, .inl (o_get 0 1 14)),
  (14, .inl (o_cp 17)),
  (17, .inl (o_al 0 18)),
  (18, .inl (o_al 1 19)),
  (19, .inl (o_get 0 1 22)),
  (22, .inl (o_put 0 1 k_int 25)),
  (25, .inr (.inl none))]
theorem te_94 : ∀ q ∈ tb_94, ae_E am "TwinNetwork$Datagram" "copyFrom" prog_2_method_3_code 2 (Option.none : Option Jvm.ClassFile.FieldType) [] q := by
  unfold tb_94
  refine List.forall_mem_cons.mpr ⟨ae_mk pu_al (fun X => ok_aload_n X (k := 1) rfl (by decide +kernel)), ?_⟩
  refine List.forall_mem_cons.mpr ⟨ae_mk pu_get (fun X => ok_get X (ci := 0) (kk := 0) (index := 9) rfl aw_c_Datagram (by decide) wd_97 (by decide +kernel)), ?_⟩
  refine List.forall_mem_cons.mpr ⟨ae_mk (pu_push (fun _ => trivial)) (fun X => ok_iconst X (n := 0) (by decide) (by decide +kernel)), ?_⟩
  refine List.forall_mem_cons.mpr ⟨ae_mk pu_al (fun X => ok_aload_n X (k := 0) rfl (by decide +kernel)), ?_⟩
  refine List.forall_mem_cons.mpr ⟨ae_mk pu_get (fun X => ok_get X (ci := 0) (kk := 0) (index := 9) rfl aw_c_Datagram (by decide) wd_97 (by decide +kernel)), ?_⟩
  refine List.forall_mem_cons.mpr ⟨ae_mk (pu_push (fun _ => trivial)) (fun X => ok_iconst X (n := 0) (by decide) (by decide +kernel)), ?_⟩
  refine List.forall_mem_cons.mpr ⟨ae_mk pu_al (fun X => ok_aload_n X (k := 1) rfl (by decide +kernel)), ?_⟩
  refine List.forall_mem_cons.mpr ⟨ae_mk pu_get (fun X => ok_get X (ci := 0) (kk := 1) (index := 15) rfl aw_c_Datagram (by decide) wd_98 (by decide +kernel)), ?_⟩
  refine List.forall_mem_cons.mpr ⟨ae_mk pu_cp (fun X => ok_cp X (index := 19) wd_767 aw_cp2 aw_cp3 aw_cp4 (by decide +kernel) (by decide +kernel)), ?_⟩
  refine List.forall_mem_cons.mpr ⟨ae_mk pu_al (fun X => ok_aload_n X (k := 0) rfl (by decide +kernel)), ?_⟩
  refine List.forall_mem_cons.mpr ⟨ae_mk pu_al (fun X => ok_aload_n X (k := 1) rfl (by decide +kernel)), ?_⟩
  refine List.forall_mem_cons.mpr ⟨ae_mk pu_get (fun X => ok_get X (ci := 0) (kk := 1) (index := 15) rfl aw_c_Datagram (by decide) wd_98 (by decide +kernel)), ?_⟩
  refine List.forall_mem_cons.mpr ⟨ae_mk pu_put (fun X => ok_put X (ci := 0) (kk := 1) (index := 15) rfl aw_c_Datagram (by decide) wd_98 cy_Datagram cn_Datagram_ty cn_Datagram_nm rfl hk_int rfl (by decide +kernel)), ?_⟩
  refine List.forall_mem_cons.mpr ⟨⟨rfl, (by decide +kernel)⟩, ?_⟩
  exact fun _ h => absurd h List.not_mem_nil
def tb_95 : List (Nat × ae_I) := [(0, .inl (o_al 0 1)),
  (1, .inl (o_oi 4)),
  (4, .inl (o_al 0 5)),
  (5, .inl (o_push (.int 8) 7)),
  (7, .inl (o_na 2 9)),
  (9, .inl (o_put 8 2 k_ref 12)),
  (12, .inl (o_al 0 13)),
  (13, .inl (o_push (.int 8) 15)),
  (15, .inl (o_na 2 17)),
  (17, .inl (o_put 8 3 k_ref 20)),
  (20, .inl (o_al 0 21)),
  (21, .inl (o_push (.int 8) 23)),
  (23, .inl (o_na 2 25)),
  (25, .inl (o_put 8 4 k_ref 28)),
  (28, .inl (o_al 0 29)),
  (29, .inl (o_push (.int 8) 31)),
  (31, .inl (o_na 0 33)),
  (33, .inl (o_put 8 5 k_ref 36)),
  (36, .inl (o_al 0 37)),
  (37, .inl (o_push (.int 8) 39)),
  (39, .inl (o_na 0 41)),
  (41, .inl (o_put 8 6 k_ref 44)),
  (44, .inl (o_al 0 45)),
  (45, .inl (o_push (.int 8) 47)),
  (47, .inl (o_na 0 49)),
  (49, .inl (o_put 8 7 k_ref 52)),
  (52, .inl (o_al 0 53)),
  (53, .inl (o_push (.int 8) 55)),
  (55, .inl (o_na 0 57)),
  (57, .inl (o_put 8 8 k_ref 60)),
  (60, .inl (o_al 0 61)),
  (61, .inl (o_push (.int 8) 63)),
  (63, .inl (o_na 0 65)),
  (65, .inl (o_put 8 9 k_ref 68)),
  (68, .inl (o_al 0 69)),
  (69, .inl (o_push (.int 8) 71)),
  (71, .inl (o_na 0 73)),
  (73, .inl (o_put 8 10 k_ref 76)),
  (76, .inl (o_al 0 77)),
  (77, .inl (o_push (.int 8) 79)),
  (79, .inl (o_na 0 81)),
  (81, .inl (o_put 8 11 k_ref 84)),
  (84, .inl (o_al 0 85)),
  (85, .inl (o_push (.int 8) 87)),
  (87, .inl (o_na 0 89)),
  (89, .inl (o_put 8 12 k_ref 92)),
  (92, .inl (o_al 0 93)),
  (93, .inl (o_push (.int 16) 95)),
  (95, .inl (o_na 0 97)),
  (97, .inl (o_put 8 13 k_ref 100)),
  (100, .inl (o_al 0 101)),
  (101, .inl (o_push (.int 8) 103)),
  (103, .inl (o_na 0 105)),
  (105, .inl (o_put 8 14 k_ref 108)),
  (108, .inl (o_al 0 109)),
  (109, .inl (o_push (.int 64) 111)),
  (111, .inl (o_na 0 113)),
  (113, .inl (o_put 8 15 k_ref 116)),
  (116, .inl (o_al 0 117)),
  (117, .inl (o_push (.int 64) 119)),
  (119, .inl (o_na 0 121)),
  (121, .inl (o_put 8 16 k_ref 124)),
  (124, .inl (o_al 0 125)),
  (125, .inl (o_push (.int 64) 127)),
  (127, .inl (o_na 0 129)),
  (129, .inl (o_put 8 17 k_ref 132)),
  (132, .inl (o_al 0 133)),
  (133, .inl (o_push (.int 64) 135)),
  (135, .inl (o_na 0 137)),
  (137, .inl (o_put 8 18 k_ref 140)),
  (140, .inl (o_al 0 141)),
  (141, .inl (o_push (.int (80000 : Int32)) 143)),
  (143, .inl (o_na 0 145)),
  (145, .inl (o_put 8 19 k_ref 148)),
  (148, .inl (o_al 0 149)),
  (149, .inl (o_push (.int 400) 152)),
  (152, .inl (o_na 0 154)),
  (154, .inl (o_put 8 20 k_ref 157)),
  (157, .inl (o_al 0 158)),
  (158, .inl (o_push (.int 400) 161)),
  (161, .inl (o_na 2 163)),
  (163, .inl (o_put 8 21 k_ref 166)),
  (166, .inl (o_al 0 167)),
  (167, .inl (o_push (.int 768) 170)),
  (170, .inl (o_na 0 172)),
  (172, .inl (o_put 8 22 k_ref 175)),
  (175, .inl (o_al 0 176)),
  (176, .inl (o_push (.int 48) 178)),
  (178, .inl (o_na 0 180)),
  (180, .inl (o_put 8 23 k_ref 183)),
  (183, .inl (o_al 0 184)),
  (184, .inl (o_push (.int 24) 186)),
  (186, .inl (o_na 0 188)),
  (188, .inl (o_put 8 24 k_ref 191)),
  (191, .inl (o_al 0 192)),
  (192, .inl (o_push (.int 24) 194)),
  (194, .inl (o_na 0 196)),
  (196, .inl (o_put 8 25 k_ref 199)),
  (199, .inl (o_al 0 200)),
  (200, .inl (o_push (.int 24) 202)),
  (202, .inl (o_na 0 204)),
  (204, .inl (o_put 8 26 k_ref 207)),
  (207, .inl (o_al 0 208)),
  (208, .inl (o_push (.int 24) 210)),
  (210, .inl (o_na 0 212)),
  (212, .inl (o_put 8 27 k_ref 215)),
  (215, .inl (o_al 0 216)),
  (216, .inl (o_push (.int 64) 218)),
  (218, .inl (o_na 0 220)),
  (220, .inl (o_put 8 28 k_ref 223)),
  (223, .inl (o_al 0 224)),
  (224, .inl (o_push (.int 32) 226)),
  (226, .inl (o_na 0 228)),
  (228, .inl (o_put 8 29 k_ref 231)),
  (231, .inl (o_al 0 232)),
  (232, .inl (o_push (.int 32) 234)),
  (234, .inl (o_na 0 236)),
  (236, .inl (o_put 8 30 k_ref 239)),
  (239, .inl (o_al 0 240)),
  (240, .inl (o_push (.int 32) 242)),
  (242, .inl (o_na 0 244)),
  (244, .inl (o_put 8 31 k_ref 247)),
  (247, .inl (o_al 0 248)),
  (248, .inl (o_push (.int 32) 250)),
  (250, .inl (o_na 0 252)),
  (252, .inl (o_put 8 32 k_ref 255)),
  (255, .inl (o_al 0 256)),
  (256, .inl (o_push (.int 32000) 259)),
  (259, .inl (o_na 0 261)),
  (261, .inl (o_put 8 33 k_ref 264)),
  (264, .inl (o_al 0 265)),
  (265, .inl (o_push (.int 32) 267)),
  (267, .inl (o_na 0 269)),
  (269, .inl (o_put 8 34 k_ref 272)),
  (272, .inl (o_al 0 273)),
  (273, .inl (o_push (.int 128) 276)),
  (276, .inl (o_na 0 278)),
  (278, .inl (o_put 8 35 k_ref 281)),
  (281, .inl (o_al 0 282)),
  (282, .inl (o_push (.int (128000 : Int32)) 284)),
  (284, .inl (o_na 0 286)),
  (286, .inl (o_put 8 36 k_ref 289)),
  (289, .inl (o_al 0 290)),
  (290, .inl (o_push (.int 32) 292)),
  (292, .inl (o_na 0 294)),
  (294, .inl (o_put 8 37 k_ref 297)),
  (297, .inl (o_al 0 298)),
  (298, .inl (o_push (.int 12) 300)),
  (300, .inl (o_na 0 302)),
  (302, .inl (o_put 8 38 k_ref 305)),
  (305, .inl (o_al 0 306)),
  (306, .inl (o_push (.int 1000) 309)),
  (309, .inl (o_na 0 311)),
  (311, .inl (o_put 8 39 k_ref 314)),
  (314, .inl (o_push (.int 0) 315)),
  (315, .inl (o_is 1 316)),
  (316, .inl (o_il 1 317)),
  (317, .inl (o_push (.int 24) 319)),
  (319, .inl (o_ic (fun x y => decide (y ≤ x)) 342 322)),
  (322, .inl (o_al 0 323)),
  (323, .inl (o_get 8 24 326)),
  (326, .inl (o_il 1 327)),
  (327, .inl (o_push (.int (-1)) 328)),
  (328, .inl (o_ias 329)),
  (329, .inl (o_al 0 330)),
  (330, .inl (o_get 8 27 333)),
  (333, .inl (o_il 1 334)),
  (334, .inl (o_push (.int (-1)) 335)),
  (335, .inl (o_ias 336)),
  (336, .inl (o_inc 1 1 339)),
  (339, .inl (o_goto 316)),
  (342, .inl (o_push (.int 0) 343)),
  (343, .inl (o_is 1 344)),
  (344, .inl (o_il 1 345)),
  (345, .inl (o_push (.int 64) 347)),
  (347, .inl (o_ic (fun x y => decide (y ≤ x)) 363 350)),
  (350, .inl (o_al 0 351)),
  (351, .inl (o_get 8 28 354)),
  (354, .inl (o_il 1 355)),
  (355, .inl (o_push (.int (-1)) 356)),
  (356, .inl (o_ias 357)),
  (357, .inl (o_inc 1 1 360)),
  (360, .inl (o_goto 344)),
  (363, .inl (o_push (.int 0) 364)),
  (364, .inl (o_is 1 365)),
  (365, .inl (o_il 1 366)),
  (366, .inl (o_push (.int 32) 368)),
  (368, .inl (o_ic (fun x y => decide (y ≤ x)) 391 371)),
  (371, .inl (o_al 0 372)),
  (372, .inl (o_get 8 29 375)),
  (375, .inl (o_il 1 376)),
  (376, .inl (o_push (.int (-1)) 377)),
  (377, .inl (o_ias 378)),
  (378, .inl (o_al 0 379)),
  (379, .inl (o_get 8 31 382)),
  (382, .inl (o_il 1 383)),
  (383, .inl (o_push (.int (-1)) 384)),
  (384, .inl (o_ias 385)),
  (385, .inl (o_inc 1 1 388)),
  (388, .inl (o_goto 365)),
  (391, .inr (.inl none))]
theorem te_95 : ∀ q ∈ tb_95, ae_E am "TwinNetworkModel" "<init>" prog_10_method_1_code 2 (Option.none : Option Jvm.ClassFile.FieldType) [] q := by
  unfold tb_95
  refine List.forall_mem_cons.mpr ⟨ae_mk pu_al (fun X => ok_aload_n X (k := 0) rfl (by decide +kernel)), ?_⟩
  refine List.forall_mem_cons.mpr ⟨ae_mk pu_oi (fun X => ok_oi X (index := 1) wd_773 aw_oi2 aw_oi3 (by decide +kernel)), ?_⟩
  refine List.forall_mem_cons.mpr ⟨ae_mk pu_al (fun X => ok_aload_n X (k := 0) rfl (by decide +kernel)), ?_⟩
  refine List.forall_mem_cons.mpr ⟨ae_mk (pu_push (fun _ => trivial)) (fun X => ok_bipush X (n := 8) (by decide) (by decide +kernel)), ?_⟩
  refine List.forall_mem_cons.mpr ⟨ae_mk pu_na (fun X => ok_na X (atype := .boolean) (t := 2) rfl (fun _ => rfl) wd_900 (fun _ _ => rfl) (by decide) (fun _ _ => rfl) (by decide +kernel)), ?_⟩
  refine List.forall_mem_cons.mpr ⟨ae_mk pu_put (fun X => ok_putF X (ci := 8) (kk := 2) (index := 7) rfl aw_c_Model (by decide) wd_778 cy_Model cn_Model_ty cn_Model_nm rfl hk_arr rfl rfl rfl (by decide +kernel)), ?_⟩
  refine List.forall_mem_cons.mpr ⟨ae_mk pu_al (fun X => ok_aload_n X (k := 0) rfl (by decide +kernel)), ?_⟩
  refine List.forall_mem_cons.mpr ⟨ae_mk (pu_push (fun _ => trivial)) (fun X => ok_bipush X (n := 8) (by decide) (by decide +kernel)), ?_⟩
  refine List.forall_mem_cons.mpr ⟨ae_mk pu_na (fun X => ok_na X (atype := .boolean) (t := 2) rfl (fun _ => rfl) wd_900 (fun _ _ => rfl) (by decide) (fun _ _ => rfl) (by decide +kernel)), ?_⟩
  refine List.forall_mem_cons.mpr ⟨ae_mk pu_put (fun X => ok_putF X (ci := 8) (kk := 3) (index := 13) rfl aw_c_Model (by decide) wd_779 cy_Model cn_Model_ty cn_Model_nm rfl hk_arr rfl rfl rfl (by decide +kernel)), ?_⟩
  refine List.forall_mem_cons.mpr ⟨ae_mk pu_al (fun X => ok_aload_n X (k := 0) rfl (by decide +kernel)), ?_⟩
  refine List.forall_mem_cons.mpr ⟨ae_mk (pu_push (fun _ => trivial)) (fun X => ok_bipush X (n := 8) (by decide) (by decide +kernel)), ?_⟩
  refine List.forall_mem_cons.mpr ⟨ae_mk pu_na (fun X => ok_na X (atype := .boolean) (t := 2) rfl (fun _ => rfl) wd_900 (fun _ _ => rfl) (by decide) (fun _ _ => rfl) (by decide +kernel)), ?_⟩
  refine List.forall_mem_cons.mpr ⟨ae_mk pu_put (fun X => ok_putF X (ci := 8) (kk := 4) (index := 16) rfl aw_c_Model (by decide) wd_780 cy_Model cn_Model_ty cn_Model_nm rfl hk_arr rfl rfl rfl (by decide +kernel)), ?_⟩
  refine List.forall_mem_cons.mpr ⟨ae_mk pu_al (fun X => ok_aload_n X (k := 0) rfl (by decide +kernel)), ?_⟩
  refine List.forall_mem_cons.mpr ⟨ae_mk (pu_push (fun _ => trivial)) (fun X => ok_bipush X (n := 8) (by decide) (by decide +kernel)), ?_⟩
  refine List.forall_mem_cons.mpr ⟨ae_mk pu_na (fun X => ok_na X (atype := .int) (t := 0) rfl (fun _ => rfl) wd_89 (fun _ _ => rfl) (by decide) (fun _ _ => rfl) (by decide +kernel)), ?_⟩
  refine List.forall_mem_cons.mpr ⟨ae_mk pu_put (fun X => ok_putF X (ci := 8) (kk := 5) (index := 19) rfl aw_c_Model (by decide) wd_781 cy_Model cn_Model_ty cn_Model_nm rfl hk_arr rfl rfl rfl (by decide +kernel)), ?_⟩
  refine List.forall_mem_cons.mpr ⟨ae_mk pu_al (fun X => ok_aload_n X (k := 0) rfl (by decide +kernel)), ?_⟩
  refine List.forall_mem_cons.mpr ⟨ae_mk (pu_push (fun _ => trivial)) (fun X => ok_bipush X (n := 8) (by decide) (by decide +kernel)), ?_⟩
  refine List.forall_mem_cons.mpr ⟨ae_mk pu_na (fun X => ok_na X (atype := .int) (t := 0) rfl (fun _ => rfl) wd_89 (fun _ _ => rfl) (by decide) (fun _ _ => rfl) (by decide +kernel)), ?_⟩
  refine List.forall_mem_cons.mpr ⟨ae_mk pu_put (fun X => ok_putF X (ci := 8) (kk := 6) (index := 23) rfl aw_c_Model (by decide) wd_782 cy_Model cn_Model_ty cn_Model_nm rfl hk_arr rfl rfl rfl (by decide +kernel)), ?_⟩
  refine List.forall_mem_cons.mpr ⟨ae_mk pu_al (fun X => ok_aload_n X (k := 0) rfl (by decide +kernel)), ?_⟩
  refine List.forall_mem_cons.mpr ⟨ae_mk (pu_push (fun _ => trivial)) (fun X => ok_bipush X (n := 8) (by decide) (by decide +kernel)), ?_⟩
  refine List.forall_mem_cons.mpr ⟨ae_mk pu_na (fun X => ok_na X (atype := .int) (t := 0) rfl (fun _ => rfl) wd_89 (fun _ _ => rfl) (by decide) (fun _ _ => rfl) (by decide +kernel)), ?_⟩
  refine List.forall_mem_cons.mpr ⟨ae_mk pu_put (fun X => ok_putF X (ci := 8) (kk := 7) (index := 26) rfl aw_c_Model (by decide) wd_783 cy_Model cn_Model_ty cn_Model_nm rfl hk_arr rfl rfl rfl (by decide +kernel)), ?_⟩
  refine List.forall_mem_cons.mpr ⟨ae_mk pu_al (fun X => ok_aload_n X (k := 0) rfl (by decide +kernel)), ?_⟩
  refine List.forall_mem_cons.mpr ⟨ae_mk (pu_push (fun _ => trivial)) (fun X => ok_bipush X (n := 8) (by decide) (by decide +kernel)), ?_⟩
  refine List.forall_mem_cons.mpr ⟨ae_mk pu_na (fun X => ok_na X (atype := .int) (t := 0) rfl (fun _ => rfl) wd_89 (fun _ _ => rfl) (by decide) (fun _ _ => rfl) (by decide +kernel)), ?_⟩
  refine List.forall_mem_cons.mpr ⟨ae_mk pu_put (fun X => ok_putF X (ci := 8) (kk := 8) (index := 29) rfl aw_c_Model (by decide) wd_784 cy_Model cn_Model_ty cn_Model_nm rfl hk_arr rfl rfl rfl (by decide +kernel)), ?_⟩
  refine List.forall_mem_cons.mpr ⟨ae_mk pu_al (fun X => ok_aload_n X (k := 0) rfl (by decide +kernel)), ?_⟩
  refine List.forall_mem_cons.mpr ⟨ae_mk (pu_push (fun _ => trivial)) (fun X => ok_bipush X (n := 8) (by decide) (by decide +kernel)), ?_⟩
  refine List.forall_mem_cons.mpr ⟨ae_mk pu_na (fun X => ok_na X (atype := .int) (t := 0) rfl (fun _ => rfl) wd_89 (fun _ _ => rfl) (by decide) (fun _ _ => rfl) (by decide +kernel)), ?_⟩
  refine List.forall_mem_cons.mpr ⟨ae_mk pu_put (fun X => ok_putF X (ci := 8) (kk := 9) (index := 32) rfl aw_c_Model (by decide) wd_785 cy_Model cn_Model_ty cn_Model_nm rfl hk_arr rfl rfl rfl (by decide +kernel)), ?_⟩
  refine List.forall_mem_cons.mpr ⟨ae_mk pu_al (fun X => ok_aload_n X (k := 0) rfl (by decide +kernel)), ?_⟩
  refine List.forall_mem_cons.mpr ⟨ae_mk (pu_push (fun _ => trivial)) (fun X => ok_bipush X (n := 8) (by decide) (by decide +kernel)), ?_⟩
  refine List.forall_mem_cons.mpr ⟨ae_mk pu_na (fun X => ok_na X (atype := .int) (t := 0) rfl (fun _ => rfl) wd_89 (fun _ _ => rfl) (by decide) (fun _ _ => rfl) (by decide +kernel)), ?_⟩
  refine List.forall_mem_cons.mpr ⟨ae_mk pu_put (fun X => ok_putF X (ci := 8) (kk := 10) (index := 35) rfl aw_c_Model (by decide) wd_786 cy_Model cn_Model_ty cn_Model_nm rfl hk_arr rfl rfl rfl (by decide +kernel)), ?_⟩
  refine List.forall_mem_cons.mpr ⟨ae_mk pu_al (fun X => ok_aload_n X (k := 0) rfl (by decide +kernel)), ?_⟩
  refine List.forall_mem_cons.mpr ⟨ae_mk (pu_push (fun _ => trivial)) (fun X => ok_bipush X (n := 8) (by decide) (by decide +kernel)), ?_⟩
  refine List.forall_mem_cons.mpr ⟨ae_mk pu_na (fun X => ok_na X (atype := .int) (t := 0) rfl (fun _ => rfl) wd_89 (fun _ _ => rfl) (by decide) (fun _ _ => rfl) (by decide +kernel)), ?_⟩
  refine List.forall_mem_cons.mpr ⟨ae_mk pu_put (fun X => ok_putF X (ci := 8) (kk := 11) (index := 38) rfl aw_c_Model (by decide) wd_787 cy_Model cn_Model_ty cn_Model_nm rfl hk_arr rfl rfl rfl (by decide +kernel)), ?_⟩
  refine List.forall_mem_cons.mpr ⟨ae_mk pu_al (fun X => ok_aload_n X (k := 0) rfl (by decide +kernel)), ?_⟩
  refine List.forall_mem_cons.mpr ⟨ae_mk (pu_push (fun _ => trivial)) (fun X => ok_bipush X (n := 8) (by decide) (by decide +kernel)), ?_⟩
  refine List.forall_mem_cons.mpr ⟨ae_mk pu_na (fun X => ok_na X (atype := .int) (t := 0) rfl (fun _ => rfl) wd_89 (fun _ _ => rfl) (by decide) (fun _ _ => rfl) (by decide +kernel)), ?_⟩
  refine List.forall_mem_cons.mpr ⟨ae_mk pu_put (fun X => ok_putF X (ci := 8) (kk := 12) (index := 41) rfl aw_c_Model (by decide) wd_788 cy_Model cn_Model_ty cn_Model_nm rfl hk_arr rfl rfl rfl (by decide +kernel)), ?_⟩
  refine List.forall_mem_cons.mpr ⟨ae_mk pu_al (fun X => ok_aload_n X (k := 0) rfl (by decide +kernel)), ?_⟩
  refine List.forall_mem_cons.mpr ⟨ae_mk (pu_push (fun _ => trivial)) (fun X => ok_bipush X (n := 16) (by decide) (by decide +kernel)), ?_⟩
  refine List.forall_mem_cons.mpr ⟨ae_mk pu_na (fun X => ok_na X (atype := .int) (t := 0) rfl (fun _ => rfl) wd_89 (fun _ _ => rfl) (by decide) (fun _ _ => rfl) (by decide +kernel)), ?_⟩
  refine List.forall_mem_cons.mpr ⟨ae_mk pu_put (fun X => ok_putF X (ci := 8) (kk := 13) (index := 44) rfl aw_c_Model (by decide) wd_789 cy_Model cn_Model_ty cn_Model_nm rfl hk_arr rfl rfl rfl (by decide +kernel)), ?_⟩
  refine List.forall_mem_cons.mpr ⟨ae_mk pu_al (fun X => ok_aload_n X (k := 0) rfl (by decide +kernel)), ?_⟩
  refine List.forall_mem_cons.mpr ⟨ae_mk (pu_push (fun _ => trivial)) (fun X => ok_bipush X (n := 8) (by decide) (by decide +kernel)), ?_⟩
  refine List.forall_mem_cons.mpr ⟨ae_mk pu_na (fun X => ok_na X (atype := .int) (t := 0) rfl (fun _ => rfl) wd_89 (fun _ _ => rfl) (by decide) (fun _ _ => rfl) (by decide +kernel)), ?_⟩
  refine List.forall_mem_cons.mpr ⟨ae_mk pu_put (fun X => ok_putF X (ci := 8) (kk := 14) (index := 47) rfl aw_c_Model (by decide) wd_790 cy_Model cn_Model_ty cn_Model_nm rfl hk_arr rfl rfl rfl (by decide +kernel)), ?_⟩
  refine List.forall_mem_cons.mpr ⟨ae_mk pu_al (fun X => ok_aload_n X (k := 0) rfl (by decide +kernel)), ?_⟩
  refine List.forall_mem_cons.mpr ⟨ae_mk (pu_push (fun _ => trivial)) (fun X => ok_bipush X (n := 64) (by decide) (by decide +kernel)), ?_⟩
  refine List.forall_mem_cons.mpr ⟨ae_mk pu_na (fun X => ok_na X (atype := .int) (t := 0) rfl (fun _ => rfl) wd_89 (fun _ _ => rfl) (by decide) (fun _ _ => rfl) (by decide +kernel)), ?_⟩
  refine List.forall_mem_cons.mpr ⟨ae_mk pu_put (fun X => ok_putF X (ci := 8) (kk := 15) (index := 50) rfl aw_c_Model (by decide) wd_791 cy_Model cn_Model_ty cn_Model_nm rfl hk_arr rfl rfl rfl (by decide +kernel)), ?_⟩
  refine List.forall_mem_cons.mpr ⟨ae_mk pu_al (fun X => ok_aload_n X (k := 0) rfl (by decide +kernel)), ?_⟩
  refine List.forall_mem_cons.mpr ⟨ae_mk (pu_push (fun _ => trivial)) (fun X => ok_bipush X (n := 64) (by decide) (by decide +kernel)), ?_⟩
  refine List.forall_mem_cons.mpr ⟨ae_mk pu_na (fun X => ok_na X (atype := .int) (t := 0) rfl (fun _ => rfl) wd_89 (fun _ _ => rfl) (by decide) (fun _ _ => rfl) (by decide +kernel)), ?_⟩
  refine List.forall_mem_cons.mpr ⟨ae_mk pu_put (fun X => ok_putF X (ci := 8) (kk := 16) (index := 53) rfl aw_c_Model (by decide) wd_792 cy_Model cn_Model_ty cn_Model_nm rfl hk_arr rfl rfl rfl (by decide +kernel)), ?_⟩
  refine List.forall_mem_cons.mpr ⟨ae_mk pu_al (fun X => ok_aload_n X (k := 0) rfl (by decide +kernel)), ?_⟩
  refine List.forall_mem_cons.mpr ⟨ae_mk (pu_push (fun _ => trivial)) (fun X => ok_bipush X (n := 64) (by decide) (by decide +kernel)), ?_⟩
  refine List.forall_mem_cons.mpr ⟨ae_mk pu_na (fun X => ok_na X (atype := .int) (t := 0) rfl (fun _ => rfl) wd_89 (fun _ _ => rfl) (by decide) (fun _ _ => rfl) (by decide +kernel)), ?_⟩
  refine List.forall_mem_cons.mpr ⟨ae_mk pu_put (fun X => ok_putF X (ci := 8) (kk := 17) (index := 56) rfl aw_c_Model (by decide) wd_793 cy_Model cn_Model_ty cn_Model_nm rfl hk_arr rfl rfl rfl (by decide +kernel)), ?_⟩
  refine List.forall_mem_cons.mpr ⟨ae_mk pu_al (fun X => ok_aload_n X (k := 0) rfl (by decide +kernel)), ?_⟩
  refine List.forall_mem_cons.mpr ⟨ae_mk (pu_push (fun _ => trivial)) (fun X => ok_bipush X (n := 64) (by decide) (by decide +kernel)), ?_⟩
  refine List.forall_mem_cons.mpr ⟨ae_mk pu_na (fun X => ok_na X (atype := .int) (t := 0) rfl (fun _ => rfl) wd_89 (fun _ _ => rfl) (by decide) (fun _ _ => rfl) (by decide +kernel)), ?_⟩
  refine List.forall_mem_cons.mpr ⟨ae_mk pu_put (fun X => ok_putF X (ci := 8) (kk := 18) (index := 59) rfl aw_c_Model (by decide) wd_794 cy_Model cn_Model_ty cn_Model_nm rfl hk_arr rfl rfl rfl (by decide +kernel)), ?_⟩
  refine List.forall_mem_cons.mpr ⟨ae_mk pu_al (fun X => ok_aload_n X (k := 0) rfl (by decide +kernel)), ?_⟩
  refine List.forall_mem_cons.mpr ⟨ae_mk (pu_push (fun _ => trivial)) (fun X => ok_ldc X (index := 62) wd_774 (by decide +kernel)), ?_⟩
  refine List.forall_mem_cons.mpr ⟨ae_mk pu_na (fun X => ok_na X (atype := .int) (t := 0) rfl (fun _ => rfl) wd_89 (fun _ _ => rfl) (by decide) (fun _ _ => rfl) (by decide +kernel)), ?_⟩
  refine List.forall_mem_cons.mpr ⟨ae_mk pu_put (fun X => ok_putF X (ci := 8) (kk := 19) (index := 63) rfl aw_c_Model (by decide) wd_795 cy_Model cn_Model_ty cn_Model_nm rfl hk_arr rfl rfl rfl (by decide +kernel)), ?_⟩
  refine List.forall_mem_cons.mpr ⟨ae_mk pu_al (fun X => ok_aload_n X (k := 0) rfl (by decide +kernel)), ?_⟩
  refine List.forall_mem_cons.mpr ⟨ae_mk (pu_push (fun _ => trivial)) (fun X => ok_sipush X (n := 400) (by decide) (by decide +kernel)), ?_⟩
  refine List.forall_mem_cons.mpr ⟨ae_mk pu_na (fun X => ok_na X (atype := .int) (t := 0) rfl (fun _ => rfl) wd_89 (fun _ _ => rfl) (by decide) (fun _ _ => rfl) (by decide +kernel)), ?_⟩
  refine List.forall_mem_cons.mpr ⟨ae_mk pu_put (fun X => ok_putF X (ci := 8) (kk := 20) (index := 66) rfl aw_c_Model (by decide) wd_796 cy_Model cn_Model_ty cn_Model_nm rfl hk_arr rfl rfl rfl (by decide +kernel)), ?_⟩
  refine List.forall_mem_cons.mpr ⟨ae_mk pu_al (fun X => ok_aload_n X (k := 0) rfl (by decide +kernel)), ?_⟩
  refine List.forall_mem_cons.mpr ⟨ae_mk (pu_push (fun _ => trivial)) (fun X => ok_sipush X (n := 400) (by decide) (by decide +kernel)), ?_⟩
  refine List.forall_mem_cons.mpr ⟨ae_mk pu_na (fun X => ok_na X (atype := .boolean) (t := 2) rfl (fun _ => rfl) wd_900 (fun _ _ => rfl) (by decide) (fun _ _ => rfl) (by decide +kernel)), ?_⟩
  refine List.forall_mem_cons.mpr ⟨ae_mk pu_put (fun X => ok_putF X (ci := 8) (kk := 21) (index := 69) rfl aw_c_Model (by decide) wd_797 cy_Model cn_Model_ty cn_Model_nm rfl hk_arr rfl rfl rfl (by decide +kernel)), ?_⟩
  refine List.forall_mem_cons.mpr ⟨ae_mk pu_al (fun X => ok_aload_n X (k := 0) rfl (by decide +kernel)), ?_⟩
  refine List.forall_mem_cons.mpr ⟨ae_mk (pu_push (fun _ => trivial)) (fun X => ok_sipush X (n := 768) (by decide) (by decide +kernel)), ?_⟩
  refine List.forall_mem_cons.mpr ⟨ae_mk pu_na (fun X => ok_na X (atype := .int) (t := 0) rfl (fun _ => rfl) wd_89 (fun _ _ => rfl) (by decide) (fun _ _ => rfl) (by decide +kernel)), ?_⟩
  refine List.forall_mem_cons.mpr ⟨ae_mk pu_put (fun X => ok_putF X (ci := 8) (kk := 22) (index := 72) rfl aw_c_Model (by decide) wd_798 cy_Model cn_Model_ty cn_Model_nm rfl hk_arr rfl rfl rfl (by decide +kernel)), ?_⟩
  refine List.forall_mem_cons.mpr ⟨ae_mk pu_al (fun X => ok_aload_n X (k := 0) rfl (by decide +kernel)), ?_⟩
  refine List.forall_mem_cons.mpr ⟨ae_mk (pu_push (fun _ => trivial)) (fun X => ok_bipush X (n := 48) (by decide) (by decide +kernel)), ?_⟩
  refine List.forall_mem_cons.mpr ⟨ae_mk pu_na (fun X => ok_na X (atype := .int) (t := 0) rfl (fun _ => rfl) wd_89 (fun _ _ => rfl) (by decide) (fun _ _ => rfl) (by decide +kernel)), ?_⟩
  refine List.forall_mem_cons.mpr ⟨ae_mk pu_put (fun X => ok_putF X (ci := 8) (kk := 23) (index := 75) rfl aw_c_Model (by decide) wd_799 cy_Model cn_Model_ty cn_Model_nm rfl hk_arr rfl rfl rfl (by decide +kernel)), ?_⟩
  refine List.forall_mem_cons.mpr ⟨ae_mk pu_al (fun X => ok_aload_n X (k := 0) rfl (by decide +kernel)), ?_⟩
  refine List.forall_mem_cons.mpr ⟨ae_mk (pu_push (fun _ => trivial)) (fun X => ok_bipush X (n := 24) (by decide) (by decide +kernel)), ?_⟩
  refine List.forall_mem_cons.mpr ⟨ae_mk pu_na (fun X => ok_na X (atype := .int) (t := 0) rfl (fun _ => rfl) wd_89 (fun _ _ => rfl) (by decide) (fun _ _ => rfl) (by decide +kernel)), ?_⟩
  refine List.forall_mem_cons.mpr ⟨ae_mk pu_put (fun X => ok_putF X (ci := 8) (kk := 24) (index := 78) rfl aw_c_Model (by decide) wd_800 cy_Model cn_Model_ty cn_Model_nm rfl hk_arr rfl rfl rfl (by decide +kernel)), ?_⟩
  refine List.forall_mem_cons.mpr ⟨ae_mk pu_al (fun X => ok_aload_n X (k := 0) rfl (by decide +kernel)), ?_⟩
  refine List.forall_mem_cons.mpr ⟨ae_mk (pu_push (fun _ => trivial)) (fun X => ok_bipush X (n := 24) (by decide) (by decide +kernel)), ?_⟩
  refine List.forall_mem_cons.mpr ⟨ae_mk pu_na (fun X => ok_na X (atype := .int) (t := 0) rfl (fun _ => rfl) wd_89 (fun _ _ => rfl) (by decide) (fun _ _ => rfl) (by decide +kernel)), ?_⟩
  refine List.forall_mem_cons.mpr ⟨ae_mk pu_put (fun X => ok_putF X (ci := 8) (kk := 25) (index := 81) rfl aw_c_Model (by decide) wd_801 cy_Model cn_Model_ty cn_Model_nm rfl hk_arr rfl rfl rfl (by decide +kernel)), ?_⟩
  refine List.forall_mem_cons.mpr ⟨ae_mk pu_al (fun X => ok_aload_n X (k := 0) rfl (by decide +kernel)), ?_⟩
  refine List.forall_mem_cons.mpr ⟨ae_mk (pu_push (fun _ => trivial)) (fun X => ok_bipush X (n := 24) (by decide) (by decide +kernel)), ?_⟩
  refine List.forall_mem_cons.mpr ⟨ae_mk pu_na (fun X => ok_na X (atype := .int) (t := 0) rfl (fun _ => rfl) wd_89 (fun _ _ => rfl) (by decide) (fun _ _ => rfl) (by decide +kernel)), ?_⟩
  refine List.forall_mem_cons.mpr ⟨ae_mk pu_put (fun X => ok_putF X (ci := 8) (kk := 26) (index := 84) rfl aw_c_Model (by decide) wd_802 cy_Model cn_Model_ty cn_Model_nm rfl hk_arr rfl rfl rfl (by decide +kernel)), ?_⟩
  refine List.forall_mem_cons.mpr ⟨ae_mk pu_al (fun X => ok_aload_n X (k := 0) rfl (by decide +kernel)), ?_⟩
  refine List.forall_mem_cons.mpr ⟨ae_mk (pu_push (fun _ => trivial)) (fun X => ok_bipush X (n := 24) (by decide) (by decide +kernel)), ?_⟩
  refine List.forall_mem_cons.mpr ⟨ae_mk pu_na (fun X => ok_na X (atype := .int) (t := 0) rfl (fun _ => rfl) wd_89 (fun _ _ => rfl) (by decide) (fun _ _ => rfl) (by decide +kernel)), ?_⟩
  refine List.forall_mem_cons.mpr ⟨ae_mk pu_put (fun X => ok_putF X (ci := 8) (kk := 27) (index := 87) rfl aw_c_Model (by decide) wd_803 cy_Model cn_Model_ty cn_Model_nm rfl hk_arr rfl rfl rfl (by decide +kernel)), ?_⟩
  refine List.forall_mem_cons.mpr ⟨ae_mk pu_al (fun X => ok_aload_n X (k := 0) rfl (by decide +kernel)), ?_⟩
  refine List.forall_mem_cons.mpr ⟨ae_mk (pu_push (fun _ => trivial)) (fun X => ok_bipush X (n := 64) (by decide) (by decide +kernel)), ?_⟩
  refine List.forall_mem_cons.mpr ⟨ae_mk pu_na (fun X => ok_na X (atype := .int) (t := 0) rfl (fun _ => rfl) wd_89 (fun _ _ => rfl) (by decide) (fun _ _ => rfl) (by decide +kernel)), ?_⟩
  refine List.forall_mem_cons.mpr ⟨ae_mk pu_put (fun X => ok_putF X (ci := 8) (kk := 28) (index := 90) rfl aw_c_Model (by decide) wd_804 cy_Model cn_Model_ty cn_Model_nm rfl hk_arr rfl rfl rfl (by decide +kernel)), ?_⟩
  refine List.forall_mem_cons.mpr ⟨ae_mk pu_al (fun X => ok_aload_n X (k := 0) rfl (by decide +kernel)), ?_⟩
  refine List.forall_mem_cons.mpr ⟨ae_mk (pu_push (fun _ => trivial)) (fun X => ok_bipush X (n := 32) (by decide) (by decide +kernel)), ?_⟩
  refine List.forall_mem_cons.mpr ⟨ae_mk pu_na (fun X => ok_na X (atype := .int) (t := 0) rfl (fun _ => rfl) wd_89 (fun _ _ => rfl) (by decide) (fun _ _ => rfl) (by decide +kernel)), ?_⟩
  refine List.forall_mem_cons.mpr ⟨ae_mk pu_put (fun X => ok_putF X (ci := 8) (kk := 29) (index := 93) rfl aw_c_Model (by decide) wd_805 cy_Model cn_Model_ty cn_Model_nm rfl hk_arr rfl rfl rfl (by decide +kernel)), ?_⟩
  refine List.forall_mem_cons.mpr ⟨ae_mk pu_al (fun X => ok_aload_n X (k := 0) rfl (by decide +kernel)), ?_⟩
  refine List.forall_mem_cons.mpr ⟨ae_mk (pu_push (fun _ => trivial)) (fun X => ok_bipush X (n := 32) (by decide) (by decide +kernel)), ?_⟩
  refine List.forall_mem_cons.mpr ⟨ae_mk pu_na (fun X => ok_na X (atype := .int) (t := 0) rfl (fun _ => rfl) wd_89 (fun _ _ => rfl) (by decide) (fun _ _ => rfl) (by decide +kernel)), ?_⟩
  refine List.forall_mem_cons.mpr ⟨ae_mk pu_put (fun X => ok_putF X (ci := 8) (kk := 30) (index := 96) rfl aw_c_Model (by decide) wd_806 cy_Model cn_Model_ty cn_Model_nm rfl hk_arr rfl rfl rfl (by decide +kernel)), ?_⟩
  refine List.forall_mem_cons.mpr ⟨ae_mk pu_al (fun X => ok_aload_n X (k := 0) rfl (by decide +kernel)), ?_⟩
  refine List.forall_mem_cons.mpr ⟨ae_mk (pu_push (fun _ => trivial)) (fun X => ok_bipush X (n := 32) (by decide) (by decide +kernel)), ?_⟩
  refine List.forall_mem_cons.mpr ⟨ae_mk pu_na (fun X => ok_na X (atype := .int) (t := 0) rfl (fun _ => rfl) wd_89 (fun _ _ => rfl) (by decide) (fun _ _ => rfl) (by decide +kernel)), ?_⟩
  refine List.forall_mem_cons.mpr ⟨ae_mk pu_put (fun X => ok_putF X (ci := 8) (kk := 31) (index := 99) rfl aw_c_Model (by decide) wd_807 cy_Model cn_Model_ty cn_Model_nm rfl hk_arr rfl rfl rfl (by decide +kernel)), ?_⟩
  refine List.forall_mem_cons.mpr ⟨ae_mk pu_al (fun X => ok_aload_n X (k := 0) rfl (by decide +kernel)), ?_⟩
  refine List.forall_mem_cons.mpr ⟨ae_mk (pu_push (fun _ => trivial)) (fun X => ok_bipush X (n := 32) (by decide) (by decide +kernel)), ?_⟩
  refine List.forall_mem_cons.mpr ⟨ae_mk pu_na (fun X => ok_na X (atype := .int) (t := 0) rfl (fun _ => rfl) wd_89 (fun _ _ => rfl) (by decide) (fun _ _ => rfl) (by decide +kernel)), ?_⟩
  refine List.forall_mem_cons.mpr ⟨ae_mk pu_put (fun X => ok_putF X (ci := 8) (kk := 32) (index := 102) rfl aw_c_Model (by decide) wd_808 cy_Model cn_Model_ty cn_Model_nm rfl hk_arr rfl rfl rfl (by decide +kernel)), ?_⟩
  refine List.forall_mem_cons.mpr ⟨ae_mk pu_al (fun X => ok_aload_n X (k := 0) rfl (by decide +kernel)), ?_⟩
  refine List.forall_mem_cons.mpr ⟨ae_mk (pu_push (fun _ => trivial)) (fun X => ok_sipush X (n := 32000) (by decide) (by decide +kernel)), ?_⟩
  refine List.forall_mem_cons.mpr ⟨ae_mk pu_na (fun X => ok_na X (atype := .int) (t := 0) rfl (fun _ => rfl) wd_89 (fun _ _ => rfl) (by decide) (fun _ _ => rfl) (by decide +kernel)), ?_⟩
  refine List.forall_mem_cons.mpr ⟨ae_mk pu_put (fun X => ok_putF X (ci := 8) (kk := 33) (index := 105) rfl aw_c_Model (by decide) wd_809 cy_Model cn_Model_ty cn_Model_nm rfl hk_arr rfl rfl rfl (by decide +kernel)), ?_⟩
  refine List.forall_mem_cons.mpr ⟨ae_mk pu_al (fun X => ok_aload_n X (k := 0) rfl (by decide +kernel)), ?_⟩
  refine List.forall_mem_cons.mpr ⟨ae_mk (pu_push (fun _ => trivial)) (fun X => ok_bipush X (n := 32) (by decide) (by decide +kernel)), ?_⟩
  refine List.forall_mem_cons.mpr ⟨ae_mk pu_na (fun X => ok_na X (atype := .int) (t := 0) rfl (fun _ => rfl) wd_89 (fun _ _ => rfl) (by decide) (fun _ _ => rfl) (by decide +kernel)), ?_⟩
  refine List.forall_mem_cons.mpr ⟨ae_mk pu_put (fun X => ok_putF X (ci := 8) (kk := 34) (index := 108) rfl aw_c_Model (by decide) wd_810 cy_Model cn_Model_ty cn_Model_nm rfl hk_arr rfl rfl rfl (by decide +kernel)), ?_⟩
  refine List.forall_mem_cons.mpr ⟨ae_mk pu_al (fun X => ok_aload_n X (k := 0) rfl (by decide +kernel)), ?_⟩
  refine List.forall_mem_cons.mpr ⟨ae_mk (pu_push (fun _ => trivial)) (fun X => ok_sipush X (n := 128) (by decide) (by decide +kernel)), ?_⟩
  refine List.forall_mem_cons.mpr ⟨ae_mk pu_na (fun X => ok_na X (atype := .int) (t := 0) rfl (fun _ => rfl) wd_89 (fun _ _ => rfl) (by decide) (fun _ _ => rfl) (by decide +kernel)), ?_⟩
  refine List.forall_mem_cons.mpr ⟨ae_mk pu_put (fun X => ok_putF X (ci := 8) (kk := 35) (index := 111) rfl aw_c_Model (by decide) wd_811 cy_Model cn_Model_ty cn_Model_nm rfl hk_arr rfl rfl rfl (by decide +kernel)), ?_⟩
  refine List.forall_mem_cons.mpr ⟨ae_mk pu_al (fun X => ok_aload_n X (k := 0) rfl (by decide +kernel)), ?_⟩
  refine List.forall_mem_cons.mpr ⟨ae_mk (pu_push (fun _ => trivial)) (fun X => ok_ldc X (index := 114) wd_775 (by decide +kernel)), ?_⟩
  refine List.forall_mem_cons.mpr ⟨ae_mk pu_na (fun X => ok_na X (atype := .int) (t := 0) rfl (fun _ => rfl) wd_89 (fun _ _ => rfl) (by decide) (fun _ _ => rfl) (by decide +kernel)), ?_⟩
  refine List.forall_mem_cons.mpr ⟨ae_mk pu_put (fun X => ok_putF X (ci := 8) (kk := 36) (index := 115) rfl aw_c_Model (by decide) wd_812 cy_Model cn_Model_ty cn_Model_nm rfl hk_arr rfl rfl rfl (by decide +kernel)), ?_⟩
  refine List.forall_mem_cons.mpr ⟨ae_mk pu_al (fun X => ok_aload_n X (k := 0) rfl (by decide +kernel)), ?_⟩
  refine List.forall_mem_cons.mpr ⟨ae_mk (pu_push (fun _ => trivial)) (fun X => ok_bipush X (n := 32) (by decide) (by decide +kernel)), ?_⟩
  refine List.forall_mem_cons.mpr ⟨ae_mk pu_na (fun X => ok_na X (atype := .int) (t := 0) rfl (fun _ => rfl) wd_89 (fun _ _ => rfl) (by decide) (fun _ _ => rfl) (by decide +kernel)), ?_⟩
  refine List.forall_mem_cons.mpr ⟨ae_mk pu_put (fun X => ok_putF X (ci := 8) (kk := 37) (index := 118) rfl aw_c_Model (by decide) wd_813 cy_Model cn_Model_ty cn_Model_nm rfl hk_arr rfl rfl rfl (by decide +kernel)), ?_⟩
  refine List.forall_mem_cons.mpr ⟨ae_mk pu_al (fun X => ok_aload_n X (k := 0) rfl (by decide +kernel)), ?_⟩
  refine List.forall_mem_cons.mpr ⟨ae_mk (pu_push (fun _ => trivial)) (fun X => ok_bipush X (n := 12) (by decide) (by decide +kernel)), ?_⟩
  refine List.forall_mem_cons.mpr ⟨ae_mk pu_na (fun X => ok_na X (atype := .int) (t := 0) rfl (fun _ => rfl) wd_89 (fun _ _ => rfl) (by decide) (fun _ _ => rfl) (by decide +kernel)), ?_⟩
  refine List.forall_mem_cons.mpr ⟨ae_mk pu_put (fun X => ok_putF X (ci := 8) (kk := 38) (index := 121) rfl aw_c_Model (by decide) wd_814 cy_Model cn_Model_ty cn_Model_nm rfl hk_arr rfl rfl rfl (by decide +kernel)), ?_⟩
  refine List.forall_mem_cons.mpr ⟨ae_mk pu_al (fun X => ok_aload_n X (k := 0) rfl (by decide +kernel)), ?_⟩
  refine List.forall_mem_cons.mpr ⟨ae_mk (pu_push (fun _ => trivial)) (fun X => ok_sipush X (n := 1000) (by decide) (by decide +kernel)), ?_⟩
  refine List.forall_mem_cons.mpr ⟨ae_mk pu_na (fun X => ok_na X (atype := .int) (t := 0) rfl (fun _ => rfl) wd_89 (fun _ _ => rfl) (by decide) (fun _ _ => rfl) (by decide +kernel)), ?_⟩
  refine List.forall_mem_cons.mpr ⟨ae_mk pu_put (fun X => ok_putF X (ci := 8) (kk := 39) (index := 124) rfl aw_c_Model (by decide) wd_815 cy_Model cn_Model_ty cn_Model_nm rfl hk_arr rfl rfl rfl (by decide +kernel)), ?_⟩
  refine List.forall_mem_cons.mpr ⟨ae_mk (pu_push (fun _ => trivial)) (fun X => ok_iconst X (n := 0) (by decide) (by decide +kernel)), ?_⟩
  refine List.forall_mem_cons.mpr ⟨ae_mk pu_is (fun X => ok_istore_n X (k := 1) rfl (by decide +kernel)), ?_⟩
  refine List.forall_mem_cons.mpr ⟨ae_mk pu_il (fun X => ok_iload_n X (k := 1) rfl (by decide +kernel)), ?_⟩
  refine List.forall_mem_cons.mpr ⟨ae_mk (pu_push (fun _ => trivial)) (fun X => ok_bipush X (n := 24) (by decide) (by decide +kernel)), ?_⟩
  refine List.forall_mem_cons.mpr ⟨ae_mk pu_ic (fun X => ok_ic_ge X (off := 23) (by decide) (by decide +kernel)), ?_⟩
  refine List.forall_mem_cons.mpr ⟨ae_mk pu_al (fun X => ok_aload_n X (k := 0) rfl (by decide +kernel)), ?_⟩
  refine List.forall_mem_cons.mpr ⟨ae_mk pu_get (fun X => ok_get X (ci := 8) (kk := 24) (index := 78) rfl aw_c_Model (by decide) wd_800 (by decide +kernel)), ?_⟩
  refine List.forall_mem_cons.mpr ⟨ae_mk pu_il (fun X => ok_iload_n X (k := 1) rfl (by decide +kernel)), ?_⟩
  refine List.forall_mem_cons.mpr ⟨ae_mk (pu_push (fun _ => trivial)) (fun X => ok_iconst X (n := (-1)) (by decide) (by decide +kernel)), ?_⟩
  refine List.forall_mem_cons.mpr ⟨ae_mk pu_ias (fun X => ok_ias X (by decide +kernel)), ?_⟩
  refine List.forall_mem_cons.mpr ⟨ae_mk pu_al (fun X => ok_aload_n X (k := 0) rfl (by decide +kernel)), ?_⟩
  refine List.forall_mem_cons.mpr ⟨ae_mk pu_get (fun X => ok_get X (ci := 8) (kk := 27) (index := 87) rfl aw_c_Model (by decide) wd_803 (by decide +kernel)), ?_⟩
  refine List.forall_mem_cons.mpr ⟨ae_mk pu_il (fun X => ok_iload_n X (k := 1) rfl (by decide +kernel)), ?_⟩
  refine List.forall_mem_cons.mpr ⟨ae_mk (pu_push (fun _ => trivial)) (fun X => ok_iconst X (n := (-1)) (by decide) (by decide +kernel)), ?_⟩
  refine List.forall_mem_cons.mpr ⟨ae_mk pu_ias (fun X => ok_ias X (by decide +kernel)), ?_⟩
  refine List.forall_mem_cons.mpr ⟨ae_mk pu_inc (fun X => ok_iinc X (n := 1) (by decide) (by decide +kernel)), ?_⟩
  refine List.forall_mem_cons.mpr ⟨ae_mk pu_goto (fun X => ok_goto X (off := (-23)) (by decide) (by decide +kernel)), ?_⟩
  refine List.forall_mem_cons.mpr ⟨ae_mk (pu_push (fun _ => trivial)) (fun X => ok_iconst X (n := 0) (by decide) (by decide +kernel)), ?_⟩
  refine List.forall_mem_cons.mpr ⟨ae_mk pu_is (fun X => ok_istore_n X (k := 1) rfl (by decide +kernel)), ?_⟩
  refine List.forall_mem_cons.mpr ⟨ae_mk pu_il (fun X => ok_iload_n X (k := 1) rfl (by decide +kernel)), ?_⟩
  refine List.forall_mem_cons.mpr ⟨ae_mk (pu_push (fun _ => trivial)) (fun X => ok_bipush X (n := 64) (by decide) (by decide +kernel)), ?_⟩
  refine List.forall_mem_cons.mpr ⟨ae_mk pu_ic (fun X => ok_ic_ge X (off := 16) (by decide) (by decide +kernel)), ?_⟩
  refine List.forall_mem_cons.mpr ⟨ae_mk pu_al (fun X => ok_aload_n X (k := 0) rfl (by decide +kernel)), ?_⟩
  refine List.forall_mem_cons.mpr ⟨ae_mk pu_get (fun X => ok_get X (ci := 8) (kk := 28) (index := 90) rfl aw_c_Model (by decide) wd_804 (by decide +kernel)), ?_⟩
  refine List.forall_mem_cons.mpr ⟨ae_mk pu_il (fun X => ok_iload_n X (k := 1) rfl (by decide +kernel)), ?_⟩
  refine List.forall_mem_cons.mpr ⟨ae_mk (pu_push (fun _ => trivial)) (fun X => ok_iconst X (n := (-1)) (by decide) (by decide +kernel)), ?_⟩
  refine List.forall_mem_cons.mpr ⟨ae_mk pu_ias (fun X => ok_ias X (by decide +kernel)), ?_⟩
  refine List.forall_mem_cons.mpr ⟨ae_mk pu_inc (fun X => ok_iinc X (n := 1) (by decide) (by decide +kernel)), ?_⟩
  refine List.forall_mem_cons.mpr ⟨ae_mk pu_goto (fun X => ok_goto X (off := (-16)) (by decide) (by decide +kernel)), ?_⟩
  refine List.forall_mem_cons.mpr ⟨ae_mk (pu_push (fun _ => trivial)) (fun X => ok_iconst X (n := 0) (by decide) (by decide +kernel)), ?_⟩
  refine List.forall_mem_cons.mpr ⟨ae_mk pu_is (fun X => ok_istore_n X (k := 1) rfl (by decide +kernel)), ?_⟩
  refine List.forall_mem_cons.mpr ⟨ae_mk pu_il (fun X => ok_iload_n X (k := 1) rfl (by decide +kernel)), ?_⟩
  refine List.forall_mem_cons.mpr ⟨ae_mk (pu_push (fun _ => trivial)) (fun X => ok_bipush X (n := 32) (by decide) (by decide +kernel)), ?_⟩
  refine List.forall_mem_cons.mpr ⟨ae_mk pu_ic (fun X => ok_ic_ge X (off := 23) (by decide) (by decide +kernel)), ?_⟩
  refine List.forall_mem_cons.mpr ⟨ae_mk pu_al (fun X => ok_aload_n X (k := 0) rfl (by decide +kernel)), ?_⟩
  refine List.forall_mem_cons.mpr ⟨ae_mk pu_get (fun X => ok_get X (ci := 8) (kk := 29) (index := 93) rfl aw_c_Model (by decide) wd_805 (by decide +kernel)), ?_⟩
  refine List.forall_mem_cons.mpr ⟨ae_mk pu_il (fun X => ok_iload_n X (k := 1) rfl (by decide +kernel)), ?_⟩
  refine List.forall_mem_cons.mpr ⟨ae_mk (pu_push (fun _ => trivial)) (fun X => ok_iconst X (n := (-1)) (by decide) (by decide +kernel)), ?_⟩
  refine List.forall_mem_cons.mpr ⟨ae_mk pu_ias (fun X => ok_ias X (by decide +kernel)), ?_⟩
  refine List.forall_mem_cons.mpr ⟨ae_mk pu_al (fun X => ok_aload_n X (k := 0) rfl (by decide +kernel)), ?_⟩
  refine List.forall_mem_cons.mpr ⟨ae_mk pu_get (fun X => ok_get X (ci := 8) (kk := 31) (index := 99) rfl aw_c_Model (by decide) wd_807 (by decide +kernel)), ?_⟩
  refine List.forall_mem_cons.mpr ⟨ae_mk pu_il (fun X => ok_iload_n X (k := 1) rfl (by decide +kernel)), ?_⟩
  refine List.forall_mem_cons.mpr ⟨ae_mk (pu_push (fun _ => trivial)) (fun X => ok_iconst X (n := (-1)) (by decide) (by decide +kernel)), ?_⟩
  refine List.forall_mem_cons.mpr ⟨ae_mk pu_ias (fun X => ok_ias X (by decide +kernel)), ?_⟩
  refine List.forall_mem_cons.mpr ⟨ae_mk pu_inc (fun X => ok_iinc X (n := 1) (by decide) (by decide +kernel)), ?_⟩
  refine List.forall_mem_cons.mpr ⟨ae_mk pu_goto (fun X => ok_goto X (off := (-23)) (by decide) (by decide +kernel)), ?_⟩
  refine List.forall_mem_cons.mpr ⟨⟨rfl, (by decide +kernel)⟩, ?_⟩
  exact fun _ h => absurd h List.not_mem_nil
def tb_96 : List (Nat × ae_I) := [(0, .inl (o_il 0 1)),
  (1, .inl (o_push (.int 255) 4)),
  (4, .inl (o_dv (fun x y => x - x / y * y) 5)),
  (5, .inl (o_push (.int 1) 6)),
  (6, .inl (o_bin (fun x y => x + y) 7)),
  (7, .inr (.inl (some k_int)))]
theorem te_96 : ∀ q ∈ tb_96, ae_E am "TwinNetworkModel" "next" prog_10_method_31_code 1 (Option.some Jvm.ClassFile.FieldType.int) [] q := by
  unfold tb_96
  refine List.forall_mem_cons.mpr ⟨ae_mk pu_il (fun X => ok_iload_n X (k := 0) rfl (by decide +kernel)), ?_⟩
  refine List.forall_mem_cons.mpr ⟨ae_mk (pu_push (fun _ => trivial)) (fun X => ok_sipush X (n := 255) (by decide) (by decide +kernel)), ?_⟩
  refine List.forall_mem_cons.mpr ⟨ae_mk pu_dv (fun X => ok_irem X (by decide +kernel)), ?_⟩
  refine List.forall_mem_cons.mpr ⟨ae_mk (pu_push (fun _ => trivial)) (fun X => ok_iconst X (n := 1) (by decide) (by decide +kernel)), ?_⟩
  refine List.forall_mem_cons.mpr ⟨ae_mk pu_bin (fun X => ok_iadd X (by decide +kernel)), ?_⟩
  refine List.forall_mem_cons.mpr ⟨Or.inl ⟨rfl, (by decide +kernel), rt_int⟩, ?_⟩
  exact fun _ h => absurd h List.not_mem_nil
