def tb_29 : List (Nat × ae_I) := [(0, .inl (o_al 0 1)),
  (1, .inl (o_get 6 2 4)),
  (4, .inl (o_al 0 5)),
  (5, .inl (o_get 6 0 8)),
  (8, .inl (o_len 9)),
  (9, .inl (o_ic (fun x y => decide (x < y)) 14 12)),
  (12, .inl (o_push (.int 0) 13)),
  (13, .inr (.inl (some k_bool))),
  (14, .inl (o_al 0 15)),
  (15, .inl (o_get 6 1 18)),
  (18, .inl (o_al 0 19)),
  (19, .inl (o_get 6 2 22)),
  (22, .inl (o_bin (fun x y => x + y) 23)),
  (23, .inl (o_al 0 24)),
  (24, .inl (o_get 6 0 27)),
  (27, .inl (o_len 28)),
  (28, .inl (o_ic (fun x y => decide (y ≤ x)) 43 31)),
  (31, .inl (o_al 0 32)),
  (32, .inl (o_get 6 1 35)),
  (35, .inl (o_al 0 36)),
  (36, .inl (o_get 6 2 39)),
  (39, .inl (o_bin (fun x y => x + y) 40)),
  (40, .inl (o_goto 58)),
  (43, .inl (o_al 0 44)),
  (44, .inl (o_get 6 1 47)),
  (47, .inl (o_al 0 48)),
  (48, .inl (o_get 6 2 51)),
  (51, .inl (o_bin (fun x y => x + y) 52)),
  (52, .inl (o_al 0 53)),
  (53, .inl (o_get 6 0 56)),
  (56, .inl (o_len 57)),
  (57, .inl (o_bin (fun x y => x - y) 58)),
  (58, .inl (o_is 2 59)),
  (59, .inl (o_al 0 60)),
  (60, .inl (o_get 6 0 63)),
  (63, .inl (o_il 2 64)),
  (64, .inl (o_aa 65)),
  (65, .inl (o_nul 68 81)),
  (68, .inl (o_al 0 69)),
  (69, .inl (o_get 6 0 72)),
  (72, .inl (o_il 2 73)),
  (73, .inl (o_new 2 2 cd_Frame 76)),
  (76, .inl (o_dup 77)),
  (77, .inr (.inr (.inl (2, 1, 80, some 2, [])))),
  (80, .inl (o_aas 81)),
  (81, .inl (o_al 0 82)),
  (82, .inl (o_get 6 0 85)),
  (85, .inl (o_il 2 86)),
  (86, .inl (o_aa 87)),
  (87, .inl (o_al 1 88)),
  (88, .inr (.inr (.inl (30, 2, 91, some 2, [])))),
  (91, .inl (o_al 0 92)),
  (92, .inl (o_dup 93)),
  (93, .inl (o_get 6 2 96)),
  (96, .inl (o_push (.int 1) 97)),
  (97, .inl (o_bin (fun x y => x + y) 98)),
  (98, .inl (o_put 6 2 k_int 101)),
  (101, .inl (o_push (.int 1) 102)),
  (102, .inr (.inl (some k_bool)))]
theorem te_29 : ∀ q ∈ tb_29, ae_E am "TwinNetwork$Row" "add" prog_8_method_3_code 3 (Option.some Jvm.ClassFile.FieldType.boolean) [] q := by
  unfold tb_29
  refine List.forall_mem_cons.mpr ⟨ae_mk pu_al (fun X => ok_aload_n X (k := 0) rfl (by decide +kernel)), ?_⟩
  refine List.forall_mem_cons.mpr ⟨ae_mk pu_get (fun X => ok_get X (ci := 6) (kk := 2) (index := 13) rfl aw_c_Row (by decide) wd_123 (by decide +kernel)), ?_⟩
  refine List.forall_mem_cons.mpr ⟨ae_mk pu_al (fun X => ok_aload_n X (k := 0) rfl (by decide +kernel)), ?_⟩
  refine List.forall_mem_cons.mpr ⟨ae_mk pu_get (fun X => ok_get X (ci := 6) (kk := 0) (index := 18) rfl aw_c_Row (by decide) wd_121 (by decide +kernel)), ?_⟩
  refine List.forall_mem_cons.mpr ⟨ae_mk pu_len (fun X => ok_len X (by decide +kernel)), ?_⟩
  refine List.forall_mem_cons.mpr ⟨ae_mk pu_ic (fun X => ok_ic_lt X (off := 5) (by decide) (by decide +kernel)), ?_⟩
  refine List.forall_mem_cons.mpr ⟨ae_mk (pu_push (fun _ => trivial)) (fun X => ok_iconst X (n := 0) (by decide) (by decide +kernel)), ?_⟩
  refine List.forall_mem_cons.mpr ⟨Or.inr (Or.inl ⟨rfl, (by decide +kernel), rt_bool⟩), ?_⟩
  refine List.forall_mem_cons.mpr ⟨ae_mk pu_al (fun X => ok_aload_n X (k := 0) rfl (by decide +kernel)), ?_⟩
  refine List.forall_mem_cons.mpr ⟨ae_mk pu_get (fun X => ok_get X (ci := 6) (kk := 1) (index := 7) rfl aw_c_Row (by decide) wd_122 (by decide +kernel)), ?_⟩
  refine List.forall_mem_cons.mpr ⟨ae_mk pu_al (fun X => ok_aload_n X (k := 0) rfl (by decide +kernel)), ?_⟩
  refine List.forall_mem_cons.mpr ⟨ae_mk pu_get (fun X => ok_get X (ci := 6) (kk := 2) (index := 13) rfl aw_c_Row (by decide) wd_123 (by decide +kernel)), ?_⟩
  refine List.forall_mem_cons.mpr ⟨ae_mk pu_bin (fun X => ok_iadd X (by decide +kernel)), ?_⟩
  refine List.forall_mem_cons.mpr ⟨ae_mk pu_al (fun X => ok_aload_n X (k := 0) rfl (by decide +kernel)), ?_⟩
  refine List.forall_mem_cons.mpr ⟨ae_mk pu_get (fun X => ok_get X (ci := 6) (kk := 0) (index := 18) rfl aw_c_Row (by decide) wd_121 (by decide +kernel)), ?_⟩
  refine List.forall_mem_cons.mpr ⟨ae_mk pu_len (fun X => ok_len X (by decide +kernel)), ?_⟩
  refine List.forall_mem_cons.mpr ⟨ae_mk pu_ic (fun X => ok_ic_ge X (off := 15) (by decide) (by decide +kernel)), ?_⟩
  refine List.forall_mem_cons.mpr ⟨ae_mk pu_al (fun X => ok_aload_n X (k := 0) rfl (by decide +kernel)), ?_⟩
  refine List.forall_mem_cons.mpr ⟨ae_mk pu_get (fun X => ok_get X (ci := 6) (kk := 1) (index := 7) rfl aw_c_Row (by decide) wd_122 (by decide +kernel)), ?_⟩
  refine List.forall_mem_cons.mpr ⟨ae_mk pu_al (fun X => ok_aload_n X (k := 0) rfl (by decide +kernel)), ?_⟩
  refine List.forall_mem_cons.mpr ⟨ae_mk pu_get (fun X => ok_get X (ci := 6) (kk := 2) (index := 13) rfl aw_c_Row (by decide) wd_123 (by decide +kernel)), ?_⟩
  refine List.forall_mem_cons.mpr ⟨ae_mk pu_bin (fun X => ok_iadd X (by decide +kernel)), ?_⟩
  refine List.forall_mem_cons.mpr ⟨ae_mk pu_goto (fun X => ok_goto X (off := 18) (by decide) (by decide +kernel)), ?_⟩
  refine List.forall_mem_cons.mpr ⟨ae_mk pu_al (fun X => ok_aload_n X (k := 0) rfl (by decide +kernel)), ?_⟩
  refine List.forall_mem_cons.mpr ⟨ae_mk pu_get (fun X => ok_get X (ci := 6) (kk := 1) (index := 7) rfl aw_c_Row (by decide) wd_122 (by decide +kernel)), ?_⟩
  refine List.forall_mem_cons.mpr ⟨ae_mk pu_al (fun X => ok_aload_n X (k := 0) rfl (by decide +kernel)), ?_⟩
  refine List.forall_mem_cons.mpr ⟨ae_mk pu_get (fun X => ok_get X (ci := 6) (kk := 2) (index := 13) rfl aw_c_Row (by decide) wd_123 (by decide +kernel)), ?_⟩
  refine List.forall_mem_cons.mpr ⟨ae_mk pu_bin (fun X => ok_iadd X (by decide +kernel)), ?_⟩
  refine List.forall_mem_cons.mpr ⟨ae_mk pu_al (fun X => ok_aload_n X (k := 0) rfl (by decide +kernel)), ?_⟩
  refine List.forall_mem_cons.mpr ⟨ae_mk pu_get (fun X => ok_get X (ci := 6) (kk := 0) (index := 18) rfl aw_c_Row (by decide) wd_121 (by decide +kernel)), ?_⟩
  refine List.forall_mem_cons.mpr ⟨ae_mk pu_len (fun X => ok_len X (by decide +kernel)), ?_⟩
  refine List.forall_mem_cons.mpr ⟨ae_mk pu_bin (fun X => ok_isub X (by decide +kernel)), ?_⟩
  refine List.forall_mem_cons.mpr ⟨ae_mk pu_is (fun X => ok_istore_n X (k := 2) rfl (by decide +kernel)), ?_⟩
  refine List.forall_mem_cons.mpr ⟨ae_mk pu_al (fun X => ok_aload_n X (k := 0) rfl (by decide +kernel)), ?_⟩
  refine List.forall_mem_cons.mpr ⟨ae_mk pu_get (fun X => ok_get X (ci := 6) (kk := 0) (index := 18) rfl aw_c_Row (by decide) wd_121 (by decide +kernel)), ?_⟩
  refine List.forall_mem_cons.mpr ⟨ae_mk pu_il (fun X => ok_iload_n X (k := 2) rfl (by decide +kernel)), ?_⟩
  refine List.forall_mem_cons.mpr ⟨ae_mk pu_aa (fun X => ok_aa X (by decide +kernel)), ?_⟩
  refine List.forall_mem_cons.mpr ⟨ae_mk pu_nul (fun X => ok_ifnonnull X (off := 16) (by decide) (by decide +kernel)), ?_⟩
  refine List.forall_mem_cons.mpr ⟨ae_mk pu_al (fun X => ok_aload_n X (k := 0) rfl (by decide +kernel)), ?_⟩
  refine List.forall_mem_cons.mpr ⟨ae_mk pu_get (fun X => ok_get X (ci := 6) (kk := 0) (index := 18) rfl aw_c_Row (by decide) wd_121 (by decide +kernel)), ?_⟩
  refine List.forall_mem_cons.mpr ⟨ae_mk pu_il (fun X => ok_iload_n X (k := 2) rfl (by decide +kernel)), ?_⟩
  refine List.forall_mem_cons.mpr ⟨ae_mk (pu_new cd_Frame_cv) (fun X => ok_new X (ci := 2) (index := 16) (fs := cd_Frame) rfl aw_c_Frame cy_Frame cn_Frame_ty wd_119 wd_75 wd_47 cd_Frame_v (fun _ _ => rfl) cd_Frame_cv (by decide +kernel)), ?_⟩
  refine List.forall_mem_cons.mpr ⟨ae_mk pu_dup (fun X => ok_dup X (by decide +kernel)), ?_⟩
  refine List.forall_mem_cons.mpr ⟨ae_mkc (fun X => ok_callIN X (mid := 2) (index := 22) (y := my_2) rfl (by decide) ⟨by decide, by decide⟩ (n := 0) (by decide +kernel) wd_78 wd_47 wd_288 wd_77 rfl rfl (ci := 2) (by decide +kernel)), ?_⟩
  refine List.forall_mem_cons.mpr ⟨ae_mk pu_aas (fun X => ok_aas X (by decide +kernel)), ?_⟩
  refine List.forall_mem_cons.mpr ⟨ae_mk pu_al (fun X => ok_aload_n X (k := 0) rfl (by decide +kernel)), ?_⟩
  refine List.forall_mem_cons.mpr ⟨ae_mk pu_get (fun X => ok_get X (ci := 6) (kk := 0) (index := 18) rfl aw_c_Row (by decide) wd_121 (by decide +kernel)), ?_⟩
  refine List.forall_mem_cons.mpr ⟨ae_mk pu_il (fun X => ok_iload_n X (k := 2) rfl (by decide +kernel)), ?_⟩
  refine List.forall_mem_cons.mpr ⟨ae_mk pu_aa (fun X => ok_aa X (by decide +kernel)), ?_⟩
  refine List.forall_mem_cons.mpr ⟨ae_mk pu_al (fun X => ok_aload_n X (k := 1) rfl (by decide +kernel)), ?_⟩
  refine List.forall_mem_cons.mpr ⟨ae_mkc (fun X => ok_callV X (mid := 30) (index := 23) (y := my_30) rfl (by decide) ⟨by decide, by decide⟩ (n := 1) (by decide +kernel) wd_292 wd_47 wd_289 wd_290 wd_291 (ci := 2) rfl (by decide +kernel)), ?_⟩
  refine List.forall_mem_cons.mpr ⟨ae_mk pu_al (fun X => ok_aload_n X (k := 0) rfl (by decide +kernel)), ?_⟩
  refine List.forall_mem_cons.mpr ⟨ae_mk pu_dup (fun X => ok_dup X (by decide +kernel)), ?_⟩
  refine List.forall_mem_cons.mpr ⟨ae_mk pu_get (fun X => ok_get X (ci := 6) (kk := 2) (index := 13) rfl aw_c_Row (by decide) wd_123 (by decide +kernel)), ?_⟩
  refine List.forall_mem_cons.mpr ⟨ae_mk (pu_push (fun _ => trivial)) (fun X => ok_iconst X (n := 1) (by decide) (by decide +kernel)), ?_⟩
  refine List.forall_mem_cons.mpr ⟨ae_mk pu_bin (fun X => ok_iadd X (by decide +kernel)), ?_⟩
  refine List.forall_mem_cons.mpr ⟨ae_mk pu_put (fun X => ok_put X (ci := 6) (kk := 2) (index := 13) rfl aw_c_Row (by decide) wd_123 cy_Row cn_Row_ty cn_Row_nm rfl hk_int rfl (by decide +kernel)), ?_⟩
  refine List.forall_mem_cons.mpr ⟨ae_mk (pu_push (fun _ => trivial)) (fun X => ok_iconst X (n := 1) (by decide) (by decide +kernel)), ?_⟩
  refine List.forall_mem_cons.mpr ⟨Or.inr (Or.inl ⟨rfl, (by decide +kernel), rt_bool⟩), ?_⟩
  exact fun _ h => absurd h List.not_mem_nil
def tb_30 : List (Nat × ae_I) := [(0, .inl (o_al 1 1)),
  (1, .inl (o_get 2 0 4)),
  (4, .inl (o_push (.int 0) 5)),
  (5, .inl (o_al 0 6)),
  (6, .inl (o_get 2 0 9)),
  (9, .inl (o_push (.int 0) 10)),
  (10, .inl (o_al 1 11)),
  (11, .inl (o_get 2 1 14)),
  (14, .inl (o_cp 17)),
  (17, .inl (o_al 0 18)),
  (18, .inl (o_al 1 19)),
  (19, .inl (o_get 2 1 22)),
  (22, .inl (o_put 2 1 k_int 25)),
  (25, .inr (.inl none))]
theorem te_30 : ∀ q ∈ tb_30, ae_E am "TwinNetwork$Frame" "copyFrom" prog_4_method_6_code 2 (Option.none : Option Jvm.ClassFile.FieldType) [] q := by
  unfold tb_30
  refine List.forall_mem_cons.mpr ⟨ae_mk pu_al (fun X => ok_aload_n X (k := 1) rfl (by decide +kernel)), ?_⟩
  refine List.forall_mem_cons.mpr ⟨ae_mk pu_get (fun X => ok_get X (ci := 2) (kk := 0) (index := 9) rfl aw_c_Frame (by decide) wd_80 (by decide +kernel)), ?_⟩
  refine List.forall_mem_cons.mpr ⟨ae_mk (pu_push (fun _ => trivial)) (fun X => ok_iconst X (n := 0) (by decide) (by decide +kernel)), ?_⟩
  refine List.forall_mem_cons.mpr ⟨ae_mk pu_al (fun X => ok_aload_n X (k := 0) rfl (by decide +kernel)), ?_⟩
  refine List.forall_mem_cons.mpr ⟨ae_mk pu_get (fun X => ok_get X (ci := 2) (kk := 0) (index := 9) rfl aw_c_Frame (by decide) wd_80 (by decide +kernel)), ?_⟩
  refine List.forall_mem_cons.mpr ⟨ae_mk (pu_push (fun _ => trivial)) (fun X => ok_iconst X (n := 0) (by decide) (by decide +kernel)), ?_⟩
  refine List.forall_mem_cons.mpr ⟨ae_mk pu_al (fun X => ok_aload_n X (k := 1) rfl (by decide +kernel)), ?_⟩
  refine List.forall_mem_cons.mpr ⟨ae_mk pu_get (fun X => ok_get X (ci := 2) (kk := 1) (index := 15) rfl aw_c_Frame (by decide) wd_81 (by decide +kernel)), ?_⟩
  refine List.forall_mem_cons.mpr ⟨ae_mk pu_cp (fun X => ok_cp X (index := 23) wd_293 aw_cp2 aw_cp3 aw_cp4 (by decide +kernel) (by decide +kernel)), ?_⟩
  refine List.forall_mem_cons.mpr ⟨ae_mk pu_al (fun X => ok_aload_n X (k := 0) rfl (by decide +kernel)), ?_⟩
  refine List.forall_mem_cons.mpr ⟨ae_mk pu_al (fun X => ok_aload_n X (k := 1) rfl (by decide +kernel)), ?_⟩
  refine List.forall_mem_cons.mpr ⟨ae_mk pu_get (fun X => ok_get X (ci := 2) (kk := 1) (index := 15) rfl aw_c_Frame (by decide) wd_81 (by decide +kernel)), ?_⟩
  refine List.forall_mem_cons.mpr ⟨ae_mk pu_put (fun X => ok_put X (ci := 2) (kk := 1) (index := 15) rfl aw_c_Frame (by decide) wd_81 cy_Frame cn_Frame_ty cn_Frame_nm rfl hk_int rfl (by decide +kernel)), ?_⟩
  refine List.forall_mem_cons.mpr ⟨⟨rfl, (by decide +kernel)⟩, ?_⟩
  exact fun _ h => absurd h List.not_mem_nil
def tb_31 : List (Nat × ae_I) := [(0, .inl (o_push (.int 0) 1)),
  (1, .inl (o_is 1 2)),
  (2, .inl (o_il 1 3)),
  (3, .inl (o_al 0 4)),
  (4, .inl (o_get 7 1 7)),
  (7, .inl (o_len 8)),
  (8, .inl (o_ic (fun x y => decide (y ≤ x)) 103 11)),
  (11, .inl (o_al 0 12)),
  (12, .inl (o_get 7 1 15)),
  (15, .inl (o_il 1 16)),
  (16, .inl (o_aa 17)),
  (17, .inr (.inr (.inl (32, 1, 20, some 3, [])))),
  (20, .inl (o_if (fun x => decide (¬ x = 0)) 26 23)),
  (23, .inl (o_goto 97)),
  (26, .inl (o_il 1 27)),
  (27, .inl (o_push (.int 12) 29)),
  (29, .inl (o_dv (fun x y => x - x / y * y) 30)),
  (30, .inl (o_is 2 31)),
  (31, .inl (o_push (.retAddr 2) 34)),
  (34, .inl (o_il 2 35)),
  (35, .inl (o_ia 36)),
  (36, .inl (o_push (.int (-1)) 37)),
  (37, .inl (o_ic (fun x y => decide (¬ x = y)) 63 40)),
  (40, .inl (o_al 0 41)),
  (41, .inl (o_il 1 42)),
  (42, .inl (o_push (.int 12) 44)),
  (44, .inl (o_dv (fun x y => x / y) 45)),
  (45, .inl (o_il 2 46)),
  (46, .inl (o_push (.int 4) 47)),
  (47, .inl (o_bin (fun x y => x - y) 48)),
  (48, .inl (o_al 0 49)),
  (49, .inl (o_get 7 1 52)),
  (52, .inl (o_il 1 53)),
  (53, .inl (o_aa 54)),
  (54, .inl (o_get 3 3 57)),
  (57, .inr (.inr (.inl (33, 4, 60, some 7, [])))),
  (60, .inl (o_goto 81)),
  (63, .inl (o_al 0 64)),
  (64, .inl (o_il 1 65)),
  (65, .inl (o_push (.int 12) 67)),
  (67, .inl (o_dv (fun x y => x / y) 68)),
  (68, .inl (o_il 2 69)),
  (69, .inl (o_al 0 70)),
  (70, .inl (o_get 7 1 73)),
  (73, .inl (o_il 1 74)),
  (74, .inl (o_aa 75)),
  (75, .inl (o_get 3 3 78)),
  (78, .inr (.inr (.inl (55, 4, 81, some 7, [])))),
  (81, .inl (o_is 3 82)),
  (82, .inl (o_il 3 83)),
  (83, .inl (o_push (.int (-1)) 84)),
  (84, .inl (o_ic (fun x y => decide (x = y)) 97 87)),
  (87, .inl (o_al 0 88)),
  (88, .inl (o_get 7 2 91)),
  (91, .inl (o_il 3 92)),
  (92, .inl (o_dup2 93)),
  (93, .inl (o_ia 94)),
  (94, .inl (o_push (.int 1) 95)),
  (95, .inl (o_bin (fun x y => x + y) 96)),
  (96, .inl (o_ias 97)),
  (97, .inl (o_inc 1 1 100)),
  (100, .inl (o_goto 2)),
  (103, .inr (.inl none))]
theorem te_31 : ∀ q ∈ tb_31, ae_E am "TwinNetwork" "moveFrames" prog_1_method_31_code 4 (Option.none : Option Jvm.ClassFile.FieldType) [] q := by
  unfold tb_31
  refine List.forall_mem_cons.mpr ⟨ae_mk (pu_push (fun _ => trivial)) (fun X => ok_iconst X (n := 0) (by decide) (by decide +kernel)), ?_⟩
  refine List.forall_mem_cons.mpr ⟨ae_mk pu_is (fun X => ok_istore_n X (k := 1) rfl (by decide +kernel)), ?_⟩
  refine List.forall_mem_cons.mpr ⟨ae_mk pu_il (fun X => ok_iload_n X (k := 1) rfl (by decide +kernel)), ?_⟩
  refine List.forall_mem_cons.mpr ⟨ae_mk pu_al (fun X => ok_aload_n X (k := 0) rfl (by decide +kernel)), ?_⟩
  refine List.forall_mem_cons.mpr ⟨ae_mk pu_get (fun X => ok_get X (ci := 7) (kk := 1) (index := 17) rfl aw_c_Net (by decide) wd_165 (by decide +kernel)), ?_⟩
  refine List.forall_mem_cons.mpr ⟨ae_mk pu_len (fun X => ok_len X (by decide +kernel)), ?_⟩
  refine List.forall_mem_cons.mpr ⟨ae_mk pu_ic (fun X => ok_ic_ge X (off := 95) (by decide) (by decide +kernel)), ?_⟩
  refine List.forall_mem_cons.mpr ⟨ae_mk pu_al (fun X => ok_aload_n X (k := 0) rfl (by decide +kernel)), ?_⟩
  refine List.forall_mem_cons.mpr ⟨ae_mk pu_get (fun X => ok_get X (ci := 7) (kk := 1) (index := 17) rfl aw_c_Net (by decide) wd_165 (by decide +kernel)), ?_⟩
  refine List.forall_mem_cons.mpr ⟨ae_mk pu_il (fun X => ok_iload_n X (k := 1) rfl (by decide +kernel)), ?_⟩
  refine List.forall_mem_cons.mpr ⟨ae_mk pu_aa (fun X => ok_aa X (by decide +kernel)), ?_⟩
  refine List.forall_mem_cons.mpr ⟨ae_mkc (fun X => ok_callV X (mid := 32) (index := 253) (y := my_32) rfl (by decide) ⟨by decide, by decide⟩ (n := 0) (by decide +kernel) wd_303 wd_49 wd_300 wd_301 wd_302 (ci := 3) rfl (by decide +kernel)), ?_⟩
  refine List.forall_mem_cons.mpr ⟨ae_mk pu_if (fun X => ok_if_ne X (off := 6) (by decide) (by decide +kernel)), ?_⟩
  refine List.forall_mem_cons.mpr ⟨ae_mk pu_goto (fun X => ok_goto X (off := 74) (by decide) (by decide +kernel)), ?_⟩
  refine List.forall_mem_cons.mpr ⟨ae_mk pu_il (fun X => ok_iload_n X (k := 1) rfl (by decide +kernel)), ?_⟩
  refine List.forall_mem_cons.mpr ⟨ae_mk (pu_push (fun _ => trivial)) (fun X => ok_bipush X (n := 12) (by decide) (by decide +kernel)), ?_⟩
  refine List.forall_mem_cons.mpr ⟨ae_mk pu_dv (fun X => ok_irem X (by decide +kernel)), ?_⟩
  refine List.forall_mem_cons.mpr ⟨ae_mk pu_is (fun X => ok_istore_n X (k := 2) rfl (by decide +kernel)), ?_⟩
  refine List.forall_mem_cons.mpr ⟨ae_mk (pu_push (fun _ => trivial)) (fun X => ok_gst X (index := 256) (ro_z2 X) wd_304 (by decide +kernel)), ?_⟩
  refine List.forall_mem_cons.mpr ⟨ae_mk pu_il (fun X => ok_iload_n X (k := 2) rfl (by decide +kernel)), ?_⟩
  refine List.forall_mem_cons.mpr ⟨ae_mk pu_ia (fun X => ok_ia X (by decide +kernel)), ?_⟩
  refine List.forall_mem_cons.mpr ⟨ae_mk (pu_push (fun _ => trivial)) (fun X => ok_iconst X (n := (-1)) (by decide) (by decide +kernel)), ?_⟩
  refine List.forall_mem_cons.mpr ⟨ae_mk pu_ic (fun X => ok_ic_ne X (off := 26) (by decide) (by decide +kernel)), ?_⟩
  refine List.forall_mem_cons.mpr ⟨ae_mk pu_al (fun X => ok_aload_n X (k := 0) rfl (by decide +kernel)), ?_⟩
  refine List.forall_mem_cons.mpr ⟨ae_mk pu_il (fun X => ok_iload_n X (k := 1) rfl (by decide +kernel)), ?_⟩
  refine List.forall_mem_cons.mpr ⟨ae_mk (pu_push (fun _ => trivial)) (fun X => ok_bipush X (n := 12) (by decide) (by decide +kernel)), ?_⟩
  refine List.forall_mem_cons.mpr ⟨ae_mk pu_dv (fun X => ok_idiv X (by decide +kernel)), ?_⟩
  refine List.forall_mem_cons.mpr ⟨ae_mk pu_il (fun X => ok_iload_n X (k := 2) rfl (by decide +kernel)), ?_⟩
  refine List.forall_mem_cons.mpr ⟨ae_mk (pu_push (fun _ => trivial)) (fun X => ok_iconst X (n := 4) (by decide) (by decide +kernel)), ?_⟩
  refine List.forall_mem_cons.mpr ⟨ae_mk pu_bin (fun X => ok_isub X (by decide +kernel)), ?_⟩
  refine List.forall_mem_cons.mpr ⟨ae_mk pu_al (fun X => ok_aload_n X (k := 0) rfl (by decide +kernel)), ?_⟩
  refine List.forall_mem_cons.mpr ⟨ae_mk pu_get (fun X => ok_get X (ci := 7) (kk := 1) (index := 17) rfl aw_c_Net (by decide) wd_165 (by decide +kernel)), ?_⟩
  refine List.forall_mem_cons.mpr ⟨ae_mk pu_il (fun X => ok_iload_n X (k := 1) rfl (by decide +kernel)), ?_⟩
  refine List.forall_mem_cons.mpr ⟨ae_mk pu_aa (fun X => ok_aa X (by decide +kernel)), ?_⟩
  refine List.forall_mem_cons.mpr ⟨ae_mk pu_get (fun X => ok_getN X (ci := 3) (kk := 3) (index := 155) rfl aw_c_Line (by decide) wd_138 (by decide +kernel)), ?_⟩
  refine List.forall_mem_cons.mpr ⟨ae_mkc (fun X => ok_callV X (mid := 33) (index := 259) (y := my_33) rfl (by decide) ⟨by decide, by decide⟩ (n := 3) (by decide +kernel) wd_309 wd_46 wd_306 wd_308 wd_9 (ci := 7) rfl (by decide +kernel)), ?_⟩
  refine List.forall_mem_cons.mpr ⟨ae_mk pu_goto (fun X => ok_goto X (off := 21) (by decide) (by decide +kernel)), ?_⟩
  refine List.forall_mem_cons.mpr ⟨ae_mk pu_al (fun X => ok_aload_n X (k := 0) rfl (by decide +kernel)), ?_⟩
  refine List.forall_mem_cons.mpr ⟨ae_mk pu_il (fun X => ok_iload_n X (k := 1) rfl (by decide +kernel)), ?_⟩
  refine List.forall_mem_cons.mpr ⟨ae_mk (pu_push (fun _ => trivial)) (fun X => ok_bipush X (n := 12) (by decide) (by decide +kernel)), ?_⟩
  refine List.forall_mem_cons.mpr ⟨ae_mk pu_dv (fun X => ok_idiv X (by decide +kernel)), ?_⟩
  refine List.forall_mem_cons.mpr ⟨ae_mk pu_il (fun X => ok_iload_n X (k := 2) rfl (by decide +kernel)), ?_⟩
  refine List.forall_mem_cons.mpr ⟨ae_mk pu_al (fun X => ok_aload_n X (k := 0) rfl (by decide +kernel)), ?_⟩
  refine List.forall_mem_cons.mpr ⟨ae_mk pu_get (fun X => ok_get X (ci := 7) (kk := 1) (index := 17) rfl aw_c_Net (by decide) wd_165 (by decide +kernel)), ?_⟩
  refine List.forall_mem_cons.mpr ⟨ae_mk pu_il (fun X => ok_iload_n X (k := 1) rfl (by decide +kernel)), ?_⟩
  refine List.forall_mem_cons.mpr ⟨ae_mk pu_aa (fun X => ok_aa X (by decide +kernel)), ?_⟩
  refine List.forall_mem_cons.mpr ⟨ae_mk pu_get (fun X => ok_getN X (ci := 3) (kk := 3) (index := 155) rfl aw_c_Line (by decide) wd_138 (by decide +kernel)), ?_⟩
  refine List.forall_mem_cons.mpr ⟨ae_mkc (fun X => ok_callV X (mid := 55) (index := 263) (y := my_55) rfl (by decide) ⟨by decide, by decide⟩ (n := 3) (by decide +kernel) wd_400 wd_46 wd_397 wd_399 wd_13 (ci := 7) rfl (by decide +kernel)), ?_⟩
  refine List.forall_mem_cons.mpr ⟨ae_mk pu_is (fun X => ok_istore_n X (k := 3) rfl (by decide +kernel)), ?_⟩
  refine List.forall_mem_cons.mpr ⟨ae_mk pu_il (fun X => ok_iload_n X (k := 3) rfl (by decide +kernel)), ?_⟩
  refine List.forall_mem_cons.mpr ⟨ae_mk (pu_push (fun _ => trivial)) (fun X => ok_iconst X (n := (-1)) (by decide) (by decide +kernel)), ?_⟩
  refine List.forall_mem_cons.mpr ⟨ae_mk pu_ic (fun X => ok_ic_eq X (off := 13) (by decide) (by decide +kernel)), ?_⟩
  refine List.forall_mem_cons.mpr ⟨ae_mk pu_al (fun X => ok_aload_n X (k := 0) rfl (by decide +kernel)), ?_⟩
  refine List.forall_mem_cons.mpr ⟨ae_mk pu_get (fun X => ok_get X (ci := 7) (kk := 2) (index := 21) rfl aw_c_Net (by decide) wd_166 (by decide +kernel)), ?_⟩
  refine List.forall_mem_cons.mpr ⟨ae_mk pu_il (fun X => ok_iload_n X (k := 3) rfl (by decide +kernel)), ?_⟩
  refine List.forall_mem_cons.mpr ⟨ae_mk pu_dup2 (fun X => ok_dup2 X (by decide +kernel)), ?_⟩
  refine List.forall_mem_cons.mpr ⟨ae_mk pu_ia (fun X => ok_ia X (by decide +kernel)), ?_⟩
  refine List.forall_mem_cons.mpr ⟨ae_mk (pu_push (fun _ => trivial)) (fun X => ok_iconst X (n := 1) (by decide) (by decide +kernel)), ?_⟩
  refine List.forall_mem_cons.mpr ⟨ae_mk pu_bin (fun X => ok_iadd X (by decide +kernel)), ?_⟩
  refine List.forall_mem_cons.mpr ⟨ae_mk pu_ias (fun X => ok_ias X (by decide +kernel)), ?_⟩
  refine List.forall_mem_cons.mpr ⟨ae_mk pu_inc (fun X => ok_iinc X (n := 1) (by decide) (by decide +kernel)), ?_⟩
  refine List.forall_mem_cons.mpr ⟨ae_mk pu_goto (fun X => ok_goto X (off := (-98)) (by decide) (by decide +kernel)), ?_⟩
  refine List.forall_mem_cons.mpr ⟨⟨rfl, (by decide +kernel)⟩, ?_⟩
  exact fun _ h => absurd h List.not_mem_nil
def tb_32 : List (Nat × ae_I) := [(0, .inl (o_al 0 1)),
  (1, .inl (o_get 3 4 4)),
  (4, .inl (o_if (fun x => decide (¬ x = 0)) 9 7)),
  (7, .inl (o_push (.int 0) 8)),
  (8, .inr (.inl (some k_bool))),
  (9, .inl (o_al 0 10)),
  (10, .inl (o_dup 11)),
  (11, .inl (o_get 3 5 14)),
  (14, .inl (o_push (.int 8) 16)),
  (16, .inl (o_bin (fun x y => x + y) 17)),
  (17, .inl (o_put 3 5 k_int 20)),
  (20, .inl (o_al 0 21)),
  (21, .inl (o_al 0 22)),
  (22, .inl (o_get 3 5 25)),
  (25, .inl (o_al 0 26)),
  (26, .inl (o_get 3 3 29)),
  (29, .inl (o_get 2 1 32)),
  (32, .inl (o_ic (fun x y => decide (y ≤ x)) 39 35)),
  (35, .inl (o_push (.int 1) 36)),
  (36, .inl (o_goto 40)),
  (39, .inl (o_push (.int 0) 40)),
  (40, .inl (o_put 3 4 k_bool 43)),
  (43, .inl (o_al 0 44)),
  (44, .inl (o_get 3 4 47)),
  (47, .inl (o_if (fun x => decide (¬ x = 0)) 54 50)),
  (50, .inl (o_push (.int 1) 51)),
  (51, .inl (o_goto 55)),
  (54, .inl (o_push (.int 0) 55)),
  (55, .inr (.inl (some k_bool)))]
theorem te_32 : ∀ q ∈ tb_32, ae_E am "TwinNetwork$Line" "moves" prog_5_method_4_code 1 (Option.some Jvm.ClassFile.FieldType.boolean) [] q := by
  unfold tb_32
  refine List.forall_mem_cons.mpr ⟨ae_mk pu_al (fun X => ok_aload_n X (k := 0) rfl (by decide +kernel)), ?_⟩
  refine List.forall_mem_cons.mpr ⟨ae_mk pu_get (fun X => ok_get X (ci := 3) (kk := 4) (index := 18) rfl aw_c_Line (by decide) wd_139 (by decide +kernel)), ?_⟩
  refine List.forall_mem_cons.mpr ⟨ae_mk pu_if (fun X => ok_if_ne X (off := 5) (by decide) (by decide +kernel)), ?_⟩
  refine List.forall_mem_cons.mpr ⟨ae_mk (pu_push (fun _ => trivial)) (fun X => ok_iconst X (n := 0) (by decide) (by decide +kernel)), ?_⟩
  refine List.forall_mem_cons.mpr ⟨Or.inr (Or.inl ⟨rfl, (by decide +kernel), rt_bool⟩), ?_⟩
  refine List.forall_mem_cons.mpr ⟨ae_mk pu_al (fun X => ok_aload_n X (k := 0) rfl (by decide +kernel)), ?_⟩
  refine List.forall_mem_cons.mpr ⟨ae_mk pu_dup (fun X => ok_dup X (by decide +kernel)), ?_⟩
  refine List.forall_mem_cons.mpr ⟨ae_mk pu_get (fun X => ok_get X (ci := 3) (kk := 5) (index := 22) rfl aw_c_Line (by decide) wd_141 (by decide +kernel)), ?_⟩
  refine List.forall_mem_cons.mpr ⟨ae_mk (pu_push (fun _ => trivial)) (fun X => ok_bipush X (n := 8) (by decide) (by decide +kernel)), ?_⟩
  refine List.forall_mem_cons.mpr ⟨ae_mk pu_bin (fun X => ok_iadd X (by decide +kernel)), ?_⟩
  refine List.forall_mem_cons.mpr ⟨ae_mk pu_put (fun X => ok_put X (ci := 3) (kk := 5) (index := 22) rfl aw_c_Line (by decide) wd_141 cy_Line cn_Line_ty cn_Line_nm rfl hk_int rfl (by decide +kernel)), ?_⟩
  refine List.forall_mem_cons.mpr ⟨ae_mk pu_al (fun X => ok_aload_n X (k := 0) rfl (by decide +kernel)), ?_⟩
  refine List.forall_mem_cons.mpr ⟨ae_mk pu_al (fun X => ok_aload_n X (k := 0) rfl (by decide +kernel)), ?_⟩
  refine List.forall_mem_cons.mpr ⟨ae_mk pu_get (fun X => ok_get X (ci := 3) (kk := 5) (index := 22) rfl aw_c_Line (by decide) wd_141 (by decide +kernel)), ?_⟩
  refine List.forall_mem_cons.mpr ⟨ae_mk pu_al (fun X => ok_aload_n X (k := 0) rfl (by decide +kernel)), ?_⟩
  refine List.forall_mem_cons.mpr ⟨ae_mk pu_get (fun X => ok_get X (ci := 3) (kk := 3) (index := 12) rfl aw_c_Line (by decide) wd_137 (by decide +kernel)), ?_⟩
  refine List.forall_mem_cons.mpr ⟨ae_mk pu_get (fun X => ok_getN X (ci := 2) (kk := 1) (index := 50) rfl aw_c_Frame (by decide) wd_82 (by decide +kernel)), ?_⟩
  refine List.forall_mem_cons.mpr ⟨ae_mk pu_ic (fun X => ok_ic_ge X (off := 7) (by decide) (by decide +kernel)), ?_⟩
  refine List.forall_mem_cons.mpr ⟨ae_mk (pu_push (fun _ => trivial)) (fun X => ok_iconst X (n := 1) (by decide) (by decide +kernel)), ?_⟩
  refine List.forall_mem_cons.mpr ⟨ae_mk pu_goto (fun X => ok_goto X (off := 4) (by decide) (by decide +kernel)), ?_⟩
  refine List.forall_mem_cons.mpr ⟨ae_mk (pu_push (fun _ => trivial)) (fun X => ok_iconst X (n := 0) (by decide) (by decide +kernel)), ?_⟩
  refine List.forall_mem_cons.mpr ⟨ae_mk pu_put (fun X => ok_put X (ci := 3) (kk := 4) (index := 18) rfl aw_c_Line (by decide) wd_139 cy_Line cn_Line_ty cn_Line_nm rfl hk_bool rfl (by decide +kernel)), ?_⟩
  refine List.forall_mem_cons.mpr ⟨ae_mk pu_al (fun X => ok_aload_n X (k := 0) rfl (by decide +kernel)), ?_⟩
  refine List.forall_mem_cons.mpr ⟨ae_mk pu_get (fun X => ok_get X (ci := 3) (kk := 4) (index := 18) rfl aw_c_Line (by decide) wd_139 (by decide +kernel)), ?_⟩
  refine List.forall_mem_cons.mpr ⟨ae_mk pu_if (fun X => ok_if_ne X (off := 7) (by decide) (by decide +kernel)), ?_⟩
  refine List.forall_mem_cons.mpr ⟨ae_mk (pu_push (fun _ => trivial)) (fun X => ok_iconst X (n := 1) (by decide) (by decide +kernel)), ?_⟩
  refine List.forall_mem_cons.mpr ⟨ae_mk pu_goto (fun X => ok_goto X (off := 4) (by decide) (by decide +kernel)), ?_⟩
  refine List.forall_mem_cons.mpr ⟨ae_mk (pu_push (fun _ => trivial)) (fun X => ok_iconst X (n := 0) (by decide) (by decide +kernel)), ?_⟩
  refine List.forall_mem_cons.mpr ⟨Or.inr (Or.inl ⟨rfl, (by decide +kernel), rt_bool⟩), ?_⟩
  exact fun _ h => absurd h List.not_mem_nil
def tb_33 : List (Nat × ae_I) := [(0, .inl (o_al 3 1)),
  (1, .inr (.inr (.inl (34, 1, 4, some 2, [])))),
  (4, .inl (o_if (fun x => decide (¬ x = 0)) 9 7)),
  (7, .inl (o_push (.int 1) 8)),
  (8, .inr (.inl (some k_int))),
  (9, .inl (o_al 0 10)),
  (10, .inl (o_al 3 11)),
  (11, .inr (.inr (.inl (36, 1, 14, some 2, [])))),
  (14, .inr (.inr (.inl (37, 2, 17, some 7, [])))),
  (17, .inl (o_as 4 19)),
  (19, .inl (o_al 4 21)),
  (21, .inl (o_nul 24 26)),
  (24, .inl (o_push (.int 2) 25)),
  (25, .inr (.inl (some k_int))),
  (26, .inl (o_al 4 28)),
  (28, .inl (o_il 2 29)),
  (29, .inr (.inr (.inl (39, 2, 32, some 4, [])))),
  (32, .inl (o_as 5 34)),
  (34, .inl (o_al 5 36)),
  (36, .inl (o_nul 39 41)),
  (39, .inl (o_push (.int 3) 40)),
  (40, .inr (.inl (some k_int))),
  (41, .inl (o_al 3 42)),
  (42, .inr (.inr (.inl (41, 1, 45, some 2, [])))),
  (45, .inl (o_if (fun x => decide (¬ x = 0)) 51 48)),
  (48, .inl (o_push (.int 7) 50)),
  (50, .inr (.inl (some k_int))),
  (51, .inl (o_al 5 53)),
  (53, .inl (o_il 1 54)),
  (54, .inl (o_al 3 55)),
  (55, .inr (.inr (.inl (43, 1, 58, some 2, [])))),
  (58, .inl (o_al 0 59)),
  (59, .inl (o_get 7 5 62)),
  (62, .inr (.inr (.inl (44, 4, 65, some 5, [])))),
  (65, .inl (o_is 6 67)),
  (67, .inl (o_il 6 69)),
  (69, .inl (o_push (.int (-1)) 70)),
  (70, .inl (o_ic (fun x y => decide (¬ x = y)) 86 73)),
  (73, .inl (o_al 5 75)),
  (75, .inl (o_al 3 76)),
  (76, .inl (o_al 0 77)),
  (77, .inl (o_get 7 5 80)),
  (80, .inr (.inr (.inl (47, 3, 83, some 5, [])))),
  (83, .inl (o_goto 88)),
  (86, .inl (o_il 6 88)),
  (88, .inr (.inl (some k_int)))]
theorem te_33 : ∀ q ∈ tb_33, ae_E am "TwinNetwork" "enterSystem" prog_1_method_33_code 7 (Option.some Jvm.ClassFile.FieldType.int) [] q := by
  unfold tb_33
  refine List.forall_mem_cons.mpr ⟨ae_mk pu_al (fun X => ok_aload_n X (k := 3) rfl (by decide +kernel)), ?_⟩
  refine List.forall_mem_cons.mpr ⟨ae_mkc (fun X => ok_callV X (mid := 34) (index := 266) (y := my_34) rfl (by decide) ⟨by decide, by decide⟩ (n := 0) (by decide +kernel) wd_313 wd_47 wd_310 wd_311 wd_312 (ci := 2) rfl (by decide +kernel)), ?_⟩
  refine List.forall_mem_cons.mpr ⟨ae_mk pu_if (fun X => ok_if_ne X (off := 5) (by decide) (by decide +kernel)), ?_⟩
  refine List.forall_mem_cons.mpr ⟨ae_mk (pu_push (fun _ => trivial)) (fun X => ok_iconst X (n := 1) (by decide) (by decide +kernel)), ?_⟩
  refine List.forall_mem_cons.mpr ⟨Or.inl ⟨rfl, (by decide +kernel), rt_int⟩, ?_⟩
  refine List.forall_mem_cons.mpr ⟨ae_mk pu_al (fun X => ok_aload_n X (k := 0) rfl (by decide +kernel)), ?_⟩
  refine List.forall_mem_cons.mpr ⟨ae_mk pu_al (fun X => ok_aload_n X (k := 3) rfl (by decide +kernel)), ?_⟩
  refine List.forall_mem_cons.mpr ⟨ae_mkc (fun X => ok_callV X (mid := 36) (index := 269) (y := my_36) rfl (by decide) ⟨by decide, by decide⟩ (n := 0) (by decide +kernel) wd_321 wd_47 wd_318 wd_319 wd_320 (ci := 2) rfl (by decide +kernel)), ?_⟩
  refine List.forall_mem_cons.mpr ⟨ae_mkc (fun X => ok_callV X (mid := 37) (index := 69) (y := my_37) rfl (by decide) ⟨by decide, by decide⟩ (n := 1) (by decide +kernel) wd_325 wd_46 wd_322 wd_324 wd_10 (ci := 7) rfl (by decide +kernel)), ?_⟩
  refine List.forall_mem_cons.mpr ⟨ae_mk pu_as (fun X => ok_astore X (by decide +kernel)), ?_⟩
  refine List.forall_mem_cons.mpr ⟨ae_mk pu_al (fun X => ok_aload X (by decide +kernel)), ?_⟩
  refine List.forall_mem_cons.mpr ⟨ae_mk pu_nul (fun X => ok_ifnonnull X (off := 5) (by decide) (by decide +kernel)), ?_⟩
  refine List.forall_mem_cons.mpr ⟨ae_mk (pu_push (fun _ => trivial)) (fun X => ok_iconst X (n := 2) (by decide) (by decide +kernel)), ?_⟩
  refine List.forall_mem_cons.mpr ⟨Or.inl ⟨rfl, (by decide +kernel), rt_int⟩, ?_⟩
  refine List.forall_mem_cons.mpr ⟨ae_mk pu_al (fun X => ok_aload X (by decide +kernel)), ?_⟩
  refine List.forall_mem_cons.mpr ⟨ae_mk pu_il (fun X => ok_iload_n X (k := 2) rfl (by decide +kernel)), ?_⟩
  refine List.forall_mem_cons.mpr ⟨ae_mkc (fun X => ok_callV X (mid := 39) (index := 177) (y := my_39) rfl (by decide) ⟨by decide, by decide⟩ (n := 1) (by decide +kernel) wd_332 wd_57 wd_329 wd_330 wd_331 (ci := 4) rfl (by decide +kernel)), ?_⟩
  refine List.forall_mem_cons.mpr ⟨ae_mk pu_as (fun X => ok_astore X (by decide +kernel)), ?_⟩
  refine List.forall_mem_cons.mpr ⟨ae_mk pu_al (fun X => ok_aload X (by decide +kernel)), ?_⟩
  refine List.forall_mem_cons.mpr ⟨ae_mk pu_nul (fun X => ok_ifnonnull X (off := 5) (by decide) (by decide +kernel)), ?_⟩
  refine List.forall_mem_cons.mpr ⟨ae_mk (pu_push (fun _ => trivial)) (fun X => ok_iconst X (n := 3) (by decide) (by decide +kernel)), ?_⟩
  refine List.forall_mem_cons.mpr ⟨Or.inl ⟨rfl, (by decide +kernel), rt_int⟩, ?_⟩
  refine List.forall_mem_cons.mpr ⟨ae_mk pu_al (fun X => ok_aload_n X (k := 3) rfl (by decide +kernel)), ?_⟩
  refine List.forall_mem_cons.mpr ⟨ae_mkc (fun X => ok_callV X (mid := 41) (index := 278) (y := my_41) rfl (by decide) ⟨by decide, by decide⟩ (n := 0) (by decide +kernel) wd_339 wd_47 wd_336 wd_337 wd_338 (ci := 2) rfl (by decide +kernel)), ?_⟩
  refine List.forall_mem_cons.mpr ⟨ae_mk pu_if (fun X => ok_if_ne X (off := 6) (by decide) (by decide +kernel)), ?_⟩
  refine List.forall_mem_cons.mpr ⟨ae_mk (pu_push (fun _ => trivial)) (fun X => ok_bipush X (n := 7) (by decide) (by decide +kernel)), ?_⟩
  refine List.forall_mem_cons.mpr ⟨Or.inl ⟨rfl, (by decide +kernel), rt_int⟩, ?_⟩
  refine List.forall_mem_cons.mpr ⟨ae_mk pu_al (fun X => ok_aload X (by decide +kernel)), ?_⟩
  refine List.forall_mem_cons.mpr ⟨ae_mk pu_il (fun X => ok_iload_n X (k := 1) rfl (by decide +kernel)), ?_⟩
  refine List.forall_mem_cons.mpr ⟨ae_mk pu_al (fun X => ok_aload_n X (k := 3) rfl (by decide +kernel)), ?_⟩
  refine List.forall_mem_cons.mpr ⟨ae_mkc (fun X => ok_callV X (mid := 43) (index := 281) (y := my_43) rfl (by decide) ⟨by decide, by decide⟩ (n := 0) (by decide +kernel) wd_347 wd_47 wd_344 wd_345 wd_346 (ci := 2) rfl (by decide +kernel)), ?_⟩
  refine List.forall_mem_cons.mpr ⟨ae_mk pu_al (fun X => ok_aload_n X (k := 0) rfl (by decide +kernel)), ?_⟩
  refine List.forall_mem_cons.mpr ⟨ae_mk pu_get (fun X => ok_get X (ci := 7) (kk := 5) (index := 39) rfl aw_c_Net (by decide) wd_169 (by decide +kernel)), ?_⟩
  refine List.forall_mem_cons.mpr ⟨ae_mkc (fun X => ok_callV X (mid := 44) (index := 284) (y := my_44) rfl (by decide) ⟨by decide, by decide⟩ (n := 3) (by decide +kernel) wd_351 wd_58 wd_348 wd_349 wd_350 (ci := 5) rfl (by decide +kernel)), ?_⟩
  refine List.forall_mem_cons.mpr ⟨ae_mk pu_is (fun X => ok_istore X (by decide +kernel)), ?_⟩
  refine List.forall_mem_cons.mpr ⟨ae_mk pu_il (fun X => ok_iload X (by decide +kernel)), ?_⟩
  refine List.forall_mem_cons.mpr ⟨ae_mk (pu_push (fun _ => trivial)) (fun X => ok_iconst X (n := (-1)) (by decide) (by decide +kernel)), ?_⟩
  refine List.forall_mem_cons.mpr ⟨ae_mk pu_ic (fun X => ok_ic_ne X (off := 16) (by decide) (by decide +kernel)), ?_⟩
  refine List.forall_mem_cons.mpr ⟨ae_mk pu_al (fun X => ok_aload X (by decide +kernel)), ?_⟩
  refine List.forall_mem_cons.mpr ⟨ae_mk pu_al (fun X => ok_aload_n X (k := 3) rfl (by decide +kernel)), ?_⟩
  refine List.forall_mem_cons.mpr ⟨ae_mk pu_al (fun X => ok_aload_n X (k := 0) rfl (by decide +kernel)), ?_⟩
  refine List.forall_mem_cons.mpr ⟨ae_mk pu_get (fun X => ok_get X (ci := 7) (kk := 5) (index := 39) rfl aw_c_Net (by decide) wd_169 (by decide +kernel)), ?_⟩
  refine List.forall_mem_cons.mpr ⟨ae_mkc (fun X => ok_callV X (mid := 47) (index := 288) (y := my_47) rfl (by decide) ⟨by decide, by decide⟩ (n := 2) (by decide +kernel) wd_364 wd_58 wd_361 wd_362 wd_363 (ci := 5) rfl (by decide +kernel)), ?_⟩
  refine List.forall_mem_cons.mpr ⟨ae_mk pu_goto (fun X => ok_goto X (off := 5) (by decide) (by decide +kernel)), ?_⟩
  refine List.forall_mem_cons.mpr ⟨ae_mk pu_il (fun X => ok_iload X (by decide +kernel)), ?_⟩
  refine List.forall_mem_cons.mpr ⟨Or.inl ⟨rfl, (by decide +kernel), rt_int⟩, ?_⟩
  exact fun _ h => absurd h List.not_mem_nil
def tb_34 : List (Nat × ae_I) := [(0, .inl (o_al 0 1)),
  (1, .inr (.inr (.inl (24, 1, 4, some 2, [])))),
  (4, .inl (o_is 1 5)),
  (5, .inl (o_push (.int 0) 6)),
  (6, .inl (o_is 2 7)),
  (7, .inl (o_il 2 8)),
  (8, .inl (o_push (.int 4) 9)),
  (9, .inl (o_ic (fun x y => decide (y ≤ x)) 45 12)),
  (12, .inl (o_al 0 13)),
  (13, .inl (o_al 0 14)),
  (14, .inl (o_get 2 1 17)),
  (17, .inl (o_push (.int 4) 18)),
  (18, .inl (o_bin (fun x y => x - y) 19)),
  (19, .inl (o_il 2 20)),
  (20, .inl (o_bin (fun x y => x + y) 21)),
  (21, .inr (.inr (.inl (35, 2, 24, some 2, [])))),
  (24, .inl (o_il 1 25)),
  (25, .inl (o_push (.int 8) 27)),
  (27, .inl (o_il 2 28)),
  (28, .inl (o_bin (fun x y => x * y) 29)),
  (29, .inl (o_bin (fun x y => x >>> (y &&& 31)) 30)),
  (30, .inl (o_push (.int 255) 33)),
  (33, .inl (o_bin (fun x y => x &&& y) 34)),
  (34, .inl (o_ic (fun x y => decide (x = y)) 39 37)),
  (37, .inl (o_push (.int 0) 38)),
  (38, .inr (.inl (some k_bool))),
  (39, .inl (o_inc 2 1 42)),
  (42, .inl (o_goto 7)),
  (45, .inl (o_push (.int 1) 46)),
  (46, .inr (.inl (some k_bool)))]
theorem te_34 : ∀ q ∈ tb_34, ae_E am "TwinNetwork$Frame" "hasRightCheck" prog_4_method_18_code 3 (Option.some Jvm.ClassFile.FieldType.boolean) [] q := by
  unfold tb_34
  refine List.forall_mem_cons.mpr ⟨ae_mk pu_al (fun X => ok_aload_n X (k := 0) rfl (by decide +kernel)), ?_⟩
  refine List.forall_mem_cons.mpr ⟨ae_mkc (fun X => ok_callV X (mid := 24) (index := 45) (y := my_24) rfl (by decide) ⟨by decide, by decide⟩ (n := 0) (by decide +kernel) wd_266 wd_47 wd_263 wd_265 wd_5 (ci := 2) rfl (by decide +kernel)), ?_⟩
  refine List.forall_mem_cons.mpr ⟨ae_mk pu_is (fun X => ok_istore_n X (k := 1) rfl (by decide +kernel)), ?_⟩
  refine List.forall_mem_cons.mpr ⟨ae_mk (pu_push (fun _ => trivial)) (fun X => ok_iconst X (n := 0) (by decide) (by decide +kernel)), ?_⟩
  refine List.forall_mem_cons.mpr ⟨ae_mk pu_is (fun X => ok_istore_n X (k := 2) rfl (by decide +kernel)), ?_⟩
  refine List.forall_mem_cons.mpr ⟨ae_mk pu_il (fun X => ok_iload_n X (k := 2) rfl (by decide +kernel)), ?_⟩
  refine List.forall_mem_cons.mpr ⟨ae_mk (pu_push (fun _ => trivial)) (fun X => ok_iconst X (n := 4) (by decide) (by decide +kernel)), ?_⟩
  refine List.forall_mem_cons.mpr ⟨ae_mk pu_ic (fun X => ok_ic_ge X (off := 36) (by decide) (by decide +kernel)), ?_⟩
  refine List.forall_mem_cons.mpr ⟨ae_mk pu_al (fun X => ok_aload_n X (k := 0) rfl (by decide +kernel)), ?_⟩
  refine List.forall_mem_cons.mpr ⟨ae_mk pu_al (fun X => ok_aload_n X (k := 0) rfl (by decide +kernel)), ?_⟩
  refine List.forall_mem_cons.mpr ⟨ae_mk pu_get (fun X => ok_get X (ci := 2) (kk := 1) (index := 15) rfl aw_c_Frame (by decide) wd_81 (by decide +kernel)), ?_⟩
  refine List.forall_mem_cons.mpr ⟨ae_mk (pu_push (fun _ => trivial)) (fun X => ok_iconst X (n := 4) (by decide) (by decide +kernel)), ?_⟩
  refine List.forall_mem_cons.mpr ⟨ae_mk pu_bin (fun X => ok_isub X (by decide +kernel)), ?_⟩
  refine List.forall_mem_cons.mpr ⟨ae_mk pu_il (fun X => ok_iload_n X (k := 2) rfl (by decide +kernel)), ?_⟩
  refine List.forall_mem_cons.mpr ⟨ae_mk pu_bin (fun X => ok_iadd X (by decide +kernel)), ?_⟩
  refine List.forall_mem_cons.mpr ⟨ae_mkc (fun X => ok_callV X (mid := 35) (index := 48) (y := my_35) rfl (by decide) ⟨by decide, by decide⟩ (n := 1) (by decide +kernel) wd_317 wd_47 wd_314 wd_315 wd_316 (ci := 2) rfl (by decide +kernel)), ?_⟩
  refine List.forall_mem_cons.mpr ⟨ae_mk pu_il (fun X => ok_iload_n X (k := 1) rfl (by decide +kernel)), ?_⟩
  refine List.forall_mem_cons.mpr ⟨ae_mk (pu_push (fun _ => trivial)) (fun X => ok_bipush X (n := 8) (by decide) (by decide +kernel)), ?_⟩
  refine List.forall_mem_cons.mpr ⟨ae_mk pu_il (fun X => ok_iload_n X (k := 2) rfl (by decide +kernel)), ?_⟩
  refine List.forall_mem_cons.mpr ⟨ae_mk pu_bin (fun X => ok_imul X (by decide +kernel)), ?_⟩
  refine List.forall_mem_cons.mpr ⟨ae_mk pu_bin (fun X => ok_ishr X (by decide +kernel)), ?_⟩
  refine List.forall_mem_cons.mpr ⟨ae_mk (pu_push (fun _ => trivial)) (fun X => ok_sipush X (n := 255) (by decide) (by decide +kernel)), ?_⟩
  refine List.forall_mem_cons.mpr ⟨ae_mk pu_bin (fun X => ok_iand X (by decide +kernel)), ?_⟩
  refine List.forall_mem_cons.mpr ⟨ae_mk pu_ic (fun X => ok_ic_eq X (off := 5) (by decide) (by decide +kernel)), ?_⟩
  refine List.forall_mem_cons.mpr ⟨ae_mk (pu_push (fun _ => trivial)) (fun X => ok_iconst X (n := 0) (by decide) (by decide +kernel)), ?_⟩
  refine List.forall_mem_cons.mpr ⟨Or.inr (Or.inl ⟨rfl, (by decide +kernel), rt_bool⟩), ?_⟩
  refine List.forall_mem_cons.mpr ⟨ae_mk pu_inc (fun X => ok_iinc X (n := 1) (by decide) (by decide +kernel)), ?_⟩
  refine List.forall_mem_cons.mpr ⟨ae_mk pu_goto (fun X => ok_goto X (off := (-35)) (by decide) (by decide +kernel)), ?_⟩
  refine List.forall_mem_cons.mpr ⟨ae_mk (pu_push (fun _ => trivial)) (fun X => ok_iconst X (n := 1) (by decide) (by decide +kernel)), ?_⟩
  refine List.forall_mem_cons.mpr ⟨Or.inr (Or.inl ⟨rfl, (by decide +kernel), rt_bool⟩), ?_⟩
  exact fun _ h => absurd h List.not_mem_nil
def tb_35 : List (Nat × ae_I) := [(0, .inl (o_il 1 1)),
  (1, .inl (o_if (fun x => decide (x < 0)) 25 4)),
  (4, .inl (o_il 1 5)),
  (5, .inl (o_al 0 6)),
  (6, .inl (o_get 2 1 9)),
  (9, .inl (o_ic (fun x y => decide (y ≤ x)) 25 12)),
  (12, .inl (o_al 0 13)),
  (13, .inl (o_get 2 0 16)),
  (16, .inl (o_il 1 17)),
  (17, .inl (o_ba 18)),
  (18, .inl (o_push (.int 255) 21)),
  (21, .inl (o_bin (fun x y => x &&& y) 22)),
  (22, .inl (o_goto 26)),
  (25, .inl (o_push (.int (-1)) 26)),
  (26, .inr (.inl (some k_int)))]
theorem te_35 : ∀ q ∈ tb_35, ae_E am "TwinNetwork$Frame" "at" prog_4_method_2_code 2 (Option.some Jvm.ClassFile.FieldType.int) [] q := by
  unfold tb_35
  refine List.forall_mem_cons.mpr ⟨ae_mk pu_il (fun X => ok_iload_n X (k := 1) rfl (by decide +kernel)), ?_⟩
  refine List.forall_mem_cons.mpr ⟨ae_mk pu_if (fun X => ok_if_lt X (off := 24) (by decide) (by decide +kernel)), ?_⟩
  refine List.forall_mem_cons.mpr ⟨ae_mk pu_il (fun X => ok_iload_n X (k := 1) rfl (by decide +kernel)), ?_⟩
  refine List.forall_mem_cons.mpr ⟨ae_mk pu_al (fun X => ok_aload_n X (k := 0) rfl (by decide +kernel)), ?_⟩
  refine List.forall_mem_cons.mpr ⟨ae_mk pu_get (fun X => ok_get X (ci := 2) (kk := 1) (index := 15) rfl aw_c_Frame (by decide) wd_81 (by decide +kernel)), ?_⟩
  refine List.forall_mem_cons.mpr ⟨ae_mk pu_ic (fun X => ok_ic_ge X (off := 16) (by decide) (by decide +kernel)), ?_⟩
  refine List.forall_mem_cons.mpr ⟨ae_mk pu_al (fun X => ok_aload_n X (k := 0) rfl (by decide +kernel)), ?_⟩
  refine List.forall_mem_cons.mpr ⟨ae_mk pu_get (fun X => ok_get X (ci := 2) (kk := 0) (index := 9) rfl aw_c_Frame (by decide) wd_80 (by decide +kernel)), ?_⟩
  refine List.forall_mem_cons.mpr ⟨ae_mk pu_il (fun X => ok_iload_n X (k := 1) rfl (by decide +kernel)), ?_⟩
  refine List.forall_mem_cons.mpr ⟨ae_mk pu_ba (fun X => ok_ba X (by decide +kernel)), ?_⟩
  refine List.forall_mem_cons.mpr ⟨ae_mk (pu_push (fun _ => trivial)) (fun X => ok_sipush X (n := 255) (by decide) (by decide +kernel)), ?_⟩
  refine List.forall_mem_cons.mpr ⟨ae_mk pu_bin (fun X => ok_iand X (by decide +kernel)), ?_⟩
  refine List.forall_mem_cons.mpr ⟨ae_mk pu_goto (fun X => ok_goto X (off := 4) (by decide) (by decide +kernel)), ?_⟩
  refine List.forall_mem_cons.mpr ⟨ae_mk (pu_push (fun _ => trivial)) (fun X => ok_iconst X (n := (-1)) (by decide) (by decide +kernel)), ?_⟩
  refine List.forall_mem_cons.mpr ⟨Or.inl ⟨rfl, (by decide +kernel), rt_int⟩, ?_⟩
  exact fun _ h => absurd h List.not_mem_nil
def tb_36 : List (Nat × ae_I) := [(0, .inl (o_al 0 1)),
  (1, .inl (o_push (.int 0) 2)),
  (2, .inr (.inr (.inl (35, 2, 5, some 2, [])))),
  (5, .inl (o_push (.int 3) 6)),
  (6, .inl (o_ic (fun x y => decide (¬ x = y)) 29 9)),
  (9, .inl (o_al 0 10)),
  (10, .inl (o_push (.int 1) 11)),
  (11, .inr (.inr (.inl (23, 2, 14, some 2, [])))),
  (14, .inl (o_if (fun x => decide (¬ x = 0)) 29 17)),
  (17, .inl (o_al 0 18)),
  (18, .inl (o_push (.int 3) 19)),
  (19, .inr (.inr (.inl (23, 2, 22, some 2, [])))),
  (22, .inl (o_if (fun x => decide (¬ x = 0)) 29 25)),
  (25, .inl (o_push (.int 1) 26)),
  (26, .inl (o_goto 30)),
  (29, .inl (o_push (.int 0) 30)),
  (30, .inl (o_is 1 31)),
  (31, .inl (o_il 1 32)),
  (32, .inl (o_if (fun x => decide (x = 0)) 43 35)),
  (35, .inl (o_al 0 36)),
  (36, .inl (o_push (.int 5) 37)),
  (37, .inr (.inr (.inl (35, 2, 40, some 2, [])))),
  (40, .inl (o_goto 44)),
  (43, .inl (o_push (.int (-1)) 44)),
  (44, .inr (.inl (some k_int)))]
theorem te_36 : ∀ q ∈ tb_36, ae_E am "TwinNetwork$Frame" "linkNumber" prog_4_method_11_code 2 (Option.some Jvm.ClassFile.FieldType.int) [] q := by
  unfold tb_36
  refine List.forall_mem_cons.mpr ⟨ae_mk pu_al (fun X => ok_aload_n X (k := 0) rfl (by decide +kernel)), ?_⟩
  refine List.forall_mem_cons.mpr ⟨ae_mk (pu_push (fun _ => trivial)) (fun X => ok_iconst X (n := 0) (by decide) (by decide +kernel)), ?_⟩
  refine List.forall_mem_cons.mpr ⟨ae_mkc (fun X => ok_callV X (mid := 35) (index := 48) (y := my_35) rfl (by decide) ⟨by decide, by decide⟩ (n := 1) (by decide +kernel) wd_317 wd_47 wd_314 wd_315 wd_316 (ci := 2) rfl (by decide +kernel)), ?_⟩
  refine List.forall_mem_cons.mpr ⟨ae_mk (pu_push (fun _ => trivial)) (fun X => ok_iconst X (n := 3) (by decide) (by decide +kernel)), ?_⟩
  refine List.forall_mem_cons.mpr ⟨ae_mk pu_ic (fun X => ok_ic_ne X (off := 23) (by decide) (by decide +kernel)), ?_⟩
  refine List.forall_mem_cons.mpr ⟨ae_mk pu_al (fun X => ok_aload_n X (k := 0) rfl (by decide +kernel)), ?_⟩
  refine List.forall_mem_cons.mpr ⟨ae_mk (pu_push (fun _ => trivial)) (fun X => ok_iconst X (n := 1) (by decide) (by decide +kernel)), ?_⟩
  refine List.forall_mem_cons.mpr ⟨ae_mkc (fun X => ok_callV X (mid := 23) (index := 52) (y := my_23) rfl (by decide) ⟨by decide, by decide⟩ (n := 1) (by decide +kernel) wd_261 wd_47 wd_258 wd_259 wd_260 (ci := 2) rfl (by decide +kernel)), ?_⟩
  refine List.forall_mem_cons.mpr ⟨ae_mk pu_if (fun X => ok_if_ne X (off := 15) (by decide) (by decide +kernel)), ?_⟩
  refine List.forall_mem_cons.mpr ⟨ae_mk pu_al (fun X => ok_aload_n X (k := 0) rfl (by decide +kernel)), ?_⟩
  refine List.forall_mem_cons.mpr ⟨ae_mk (pu_push (fun _ => trivial)) (fun X => ok_iconst X (n := 3) (by decide) (by decide +kernel)), ?_⟩
  refine List.forall_mem_cons.mpr ⟨ae_mkc (fun X => ok_callV X (mid := 23) (index := 52) (y := my_23) rfl (by decide) ⟨by decide, by decide⟩ (n := 1) (by decide +kernel) wd_261 wd_47 wd_258 wd_259 wd_260 (ci := 2) rfl (by decide +kernel)), ?_⟩
  refine List.forall_mem_cons.mpr ⟨ae_mk pu_if (fun X => ok_if_ne X (off := 7) (by decide) (by decide +kernel)), ?_⟩
  refine List.forall_mem_cons.mpr ⟨ae_mk (pu_push (fun _ => trivial)) (fun X => ok_iconst X (n := 1) (by decide) (by decide +kernel)), ?_⟩
  refine List.forall_mem_cons.mpr ⟨ae_mk pu_goto (fun X => ok_goto X (off := 4) (by decide) (by decide +kernel)), ?_⟩
  refine List.forall_mem_cons.mpr ⟨ae_mk (pu_push (fun _ => trivial)) (fun X => ok_iconst X (n := 0) (by decide) (by decide +kernel)), ?_⟩
  refine List.forall_mem_cons.mpr ⟨ae_mk pu_is (fun X => ok_istore_n X (k := 1) rfl (by decide +kernel)), ?_⟩
  refine List.forall_mem_cons.mpr ⟨ae_mk pu_il (fun X => ok_iload_n X (k := 1) rfl (by decide +kernel)), ?_⟩
  refine List.forall_mem_cons.mpr ⟨ae_mk pu_if (fun X => ok_if_eq X (off := 11) (by decide) (by decide +kernel)), ?_⟩
  refine List.forall_mem_cons.mpr ⟨ae_mk pu_al (fun X => ok_aload_n X (k := 0) rfl (by decide +kernel)), ?_⟩
  refine List.forall_mem_cons.mpr ⟨ae_mk (pu_push (fun _ => trivial)) (fun X => ok_iconst X (n := 5) (by decide) (by decide +kernel)), ?_⟩
  refine List.forall_mem_cons.mpr ⟨ae_mkc (fun X => ok_callV X (mid := 35) (index := 48) (y := my_35) rfl (by decide) ⟨by decide, by decide⟩ (n := 1) (by decide +kernel) wd_317 wd_47 wd_314 wd_315 wd_316 (ci := 2) rfl (by decide +kernel)), ?_⟩
  refine List.forall_mem_cons.mpr ⟨ae_mk pu_goto (fun X => ok_goto X (off := 4) (by decide) (by decide +kernel)), ?_⟩
  refine List.forall_mem_cons.mpr ⟨ae_mk (pu_push (fun _ => trivial)) (fun X => ok_iconst X (n := (-1)) (by decide) (by decide +kernel)), ?_⟩
  refine List.forall_mem_cons.mpr ⟨Or.inl ⟨rfl, (by decide +kernel), rt_int⟩, ?_⟩
  exact fun _ h => absurd h List.not_mem_nil
def tb_37 : List (Nat × ae_I) := [(0, .inl (o_il 1 1)),
  (1, .inr (.inr (.inl (38, 1, 4, none, [])))),
  (4, .inl (o_if (fun x => decide (x = 0)) 16 7)),
  (7, .inl (o_al 0 8)),
  (8, .inl (o_get 7 0 11)),
  (11, .inl (o_il 1 12)),
  (12, .inl (o_aa 13)),
  (13, .inl (o_goto 17)),
  (16, .inl (o_push .null 17)),
  (17, .inr (.inl (some k_ref)))]
theorem te_37 : ∀ q ∈ tb_37, ae_E am "TwinNetwork" "linkAt" prog_1_method_21_code 2 (Option.some (Jvm.ClassFile.FieldType.object "TwinNetwork$Link")) [] q := by
  unfold tb_37
  refine List.forall_mem_cons.mpr ⟨ae_mk pu_il (fun X => ok_iload_n X (k := 1) rfl (by decide +kernel)), ?_⟩
  refine List.forall_mem_cons.mpr ⟨ae_mkc (fun X => ok_callS X (mid := 38) (index := 46) (y := my_38) rfl (by decide) ⟨by decide, by decide⟩ (n := 1) (by decide +kernel) wd_328 wd_46 wd_326 wd_327 (by decide +kernel)), ?_⟩
  refine List.forall_mem_cons.mpr ⟨ae_mk pu_if (fun X => ok_if_eq X (off := 12) (by decide) (by decide +kernel)), ?_⟩
  refine List.forall_mem_cons.mpr ⟨ae_mk pu_al (fun X => ok_aload_n X (k := 0) rfl (by decide +kernel)), ?_⟩
  refine List.forall_mem_cons.mpr ⟨ae_mk pu_get (fun X => ok_get X (ci := 7) (kk := 0) (index := 11) rfl aw_c_Net (by decide) wd_164 (by decide +kernel)), ?_⟩
  refine List.forall_mem_cons.mpr ⟨ae_mk pu_il (fun X => ok_iload_n X (k := 1) rfl (by decide +kernel)), ?_⟩
  refine List.forall_mem_cons.mpr ⟨ae_mk pu_aa (fun X => ok_aa X (by decide +kernel)), ?_⟩
  refine List.forall_mem_cons.mpr ⟨ae_mk pu_goto (fun X => ok_goto X (off := 4) (by decide) (by decide +kernel)), ?_⟩
  refine List.forall_mem_cons.mpr ⟨ae_mk (pu_push (fun _ => trivial)) (fun X => ok_null X (by decide +kernel)), ?_⟩
  refine List.forall_mem_cons.mpr ⟨Or.inr (Or.inr ⟨Or.inl ⟨_, rfl⟩, (by decide +kernel), rt_ref⟩), ?_⟩
  exact fun _ h => absurd h List.not_mem_nil
def tb_38 : List (Nat × ae_I) := [(0, .inl (o_il 0 1)),
  (1, .inl (o_if (fun x => decide (x < 0)) 14 4)),
  (4, .inl (o_il 0 5)),
  (5, .inl (o_push (.int 8) 7)),
  (7, .inl (o_ic (fun x y => decide (y ≤ x)) 14 10)),
  (10, .inl (o_push (.int 1) 11)),
  (11, .inl (o_goto 15)),
  (14, .inl (o_push (.int 0) 15)),
  (15, .inr (.inl (some k_bool)))]
theorem te_38 : ∀ q ∈ tb_38, ae_E am "TwinNetwork" "isLinkNumber" prog_1_method_18_code 1 (Option.some Jvm.ClassFile.FieldType.boolean) [] q := by
  unfold tb_38
  refine List.forall_mem_cons.mpr ⟨ae_mk pu_il (fun X => ok_iload_n X (k := 0) rfl (by decide +kernel)), ?_⟩
  refine List.forall_mem_cons.mpr ⟨ae_mk pu_if (fun X => ok_if_lt X (off := 13) (by decide) (by decide +kernel)), ?_⟩
  refine List.forall_mem_cons.mpr ⟨ae_mk pu_il (fun X => ok_iload_n X (k := 0) rfl (by decide +kernel)), ?_⟩
  refine List.forall_mem_cons.mpr ⟨ae_mk (pu_push (fun _ => trivial)) (fun X => ok_bipush X (n := 8) (by decide) (by decide +kernel)), ?_⟩
  refine List.forall_mem_cons.mpr ⟨ae_mk pu_ic (fun X => ok_ic_ge X (off := 7) (by decide) (by decide +kernel)), ?_⟩
  refine List.forall_mem_cons.mpr ⟨ae_mk (pu_push (fun _ => trivial)) (fun X => ok_iconst X (n := 1) (by decide) (by decide +kernel)), ?_⟩
  refine List.forall_mem_cons.mpr ⟨ae_mk pu_goto (fun X => ok_goto X (off := 4) (by decide) (by decide +kernel)), ?_⟩
  refine List.forall_mem_cons.mpr ⟨ae_mk (pu_push (fun _ => trivial)) (fun X => ok_iconst X (n := 0) (by decide) (by decide +kernel)), ?_⟩
  refine List.forall_mem_cons.mpr ⟨Or.inr (Or.inl ⟨rfl, (by decide +kernel), rt_bool⟩), ?_⟩
  exact fun _ h => absurd h List.not_mem_nil
def tb_39 : List (Nat × ae_I) := [(0, .inl (o_il 1 1)),
  (1, .inr (.inr (.inl (40, 1, 4, none, [])))),
  (4, .inl (o_if (fun x => decide (x = 0)) 16 7)),
  (7, .inl (o_al 0 8)),
  (8, .inl (o_get 4 7 11)),
  (11, .inl (o_il 1 12)),
  (12, .inl (o_aa 13)),
  (13, .inl (o_goto 17)),
  (16, .inl (o_push .null 17)),
  (17, .inr (.inl (some k_ref)))]
theorem te_39 : ∀ q ∈ tb_39, ae_E am "TwinNetwork$Link" "portOf" prog_6_method_3_code 2 (Option.some (Jvm.ClassFile.FieldType.object "TwinNetwork$Port")) [] q := by
  unfold tb_39
  refine List.forall_mem_cons.mpr ⟨ae_mk pu_il (fun X => ok_iload_n X (k := 1) rfl (by decide +kernel)), ?_⟩
  refine List.forall_mem_cons.mpr ⟨ae_mkc (fun X => ok_callSN X (mid := 40) (index := 73) (y := my_40) rfl (by decide) ⟨by decide, by decide⟩ (n := 1) (by decide +kernel) wd_335 wd_46 wd_333 wd_334 (by decide +kernel)), ?_⟩
  refine List.forall_mem_cons.mpr ⟨ae_mk pu_if (fun X => ok_if_eq X (off := 12) (by decide) (by decide +kernel)), ?_⟩
  refine List.forall_mem_cons.mpr ⟨ae_mk pu_al (fun X => ok_aload_n X (k := 0) rfl (by decide +kernel)), ?_⟩
  refine List.forall_mem_cons.mpr ⟨ae_mk pu_get (fun X => ok_get X (ci := 4) (kk := 7) (index := 11) rfl aw_c_Link (by decide) wd_689 (by decide +kernel)), ?_⟩
  refine List.forall_mem_cons.mpr ⟨ae_mk pu_il (fun X => ok_iload_n X (k := 1) rfl (by decide +kernel)), ?_⟩
  refine List.forall_mem_cons.mpr ⟨ae_mk pu_aa (fun X => ok_aa X (by decide +kernel)), ?_⟩
  refine List.forall_mem_cons.mpr ⟨ae_mk pu_goto (fun X => ok_goto X (off := 4) (by decide) (by decide +kernel)), ?_⟩
  refine List.forall_mem_cons.mpr ⟨ae_mk (pu_push (fun _ => trivial)) (fun X => ok_null X (by decide +kernel)), ?_⟩
  refine List.forall_mem_cons.mpr ⟨Or.inr (Or.inr ⟨Or.inl ⟨_, rfl⟩, (by decide +kernel), rt_ref⟩), ?_⟩
  exact fun _ h => absurd h List.not_mem_nil
def tb_40 : List (Nat × ae_I) := [(0, .inl (o_il 0 1)),
  (1, .inl (o_if (fun x => decide (x < 0)) 13 4)),
  (4, .inl (o_il 0 5)),
  (5, .inl (o_push (.int 4) 6)),
  (6, .inl (o_ic (fun x y => decide (y ≤ x)) 13 9)),
  (9, .inl (o_push (.int 1) 10)),
  (10, .inl (o_goto 14)),
  (13, .inl (o_push (.int 0) 14)),
  (14, .inr (.inl (some k_bool)))]
theorem te_40 : ∀ q ∈ tb_40, ae_E am "TwinNetwork" "isSystem" prog_1_method_17_code 1 (Option.some Jvm.ClassFile.FieldType.boolean) [] q := by
  unfold tb_40
  refine List.forall_mem_cons.mpr ⟨ae_mk pu_il (fun X => ok_iload_n X (k := 0) rfl (by decide +kernel)), ?_⟩
  refine List.forall_mem_cons.mpr ⟨ae_mk pu_if (fun X => ok_if_lt X (off := 12) (by decide) (by decide +kernel)), ?_⟩
  refine List.forall_mem_cons.mpr ⟨ae_mk pu_il (fun X => ok_iload_n X (k := 0) rfl (by decide +kernel)), ?_⟩
  refine List.forall_mem_cons.mpr ⟨ae_mk (pu_push (fun _ => trivial)) (fun X => ok_iconst X (n := 4) (by decide) (by decide +kernel)), ?_⟩
  refine List.forall_mem_cons.mpr ⟨ae_mk pu_ic (fun X => ok_ic_ge X (off := 7) (by decide) (by decide +kernel)), ?_⟩
  refine List.forall_mem_cons.mpr ⟨ae_mk (pu_push (fun _ => trivial)) (fun X => ok_iconst X (n := 1) (by decide) (by decide +kernel)), ?_⟩
  refine List.forall_mem_cons.mpr ⟨ae_mk pu_goto (fun X => ok_goto X (off := 4) (by decide) (by decide +kernel)), ?_⟩
  refine List.forall_mem_cons.mpr ⟨ae_mk (pu_push (fun _ => trivial)) (fun X => ok_iconst X (n := 0) (by decide) (by decide +kernel)), ?_⟩
  refine List.forall_mem_cons.mpr ⟨Or.inr (Or.inl ⟨rfl, (by decide +kernel), rt_bool⟩), ?_⟩
  exact fun _ h => absurd h List.not_mem_nil
def tb_41 : List (Nat × ae_I) := [(0, .inl (o_al 0 1)),
  (1, .inl (o_push (.int 12) 3)),
  (3, .inr (.inr (.inl (35, 2, 6, some 2, [])))),
  (6, .inl (o_push (.int 8) 8)),
  (8, .inl (o_ic (fun x y => decide (¬ x = y)) 80 11)),
  (11, .inl (o_al 0 12)),
  (12, .inl (o_push (.int 13) 14)),
  (14, .inr (.inr (.inl (35, 2, 17, some 2, [])))),
  (17, .inl (o_if (fun x => decide (¬ x = 0)) 80 20)),
  (20, .inl (o_al 0 21)),
  (21, .inl (o_push (.int 14) 23)),
  (23, .inr (.inr (.inl (35, 2, 26, some 2, [])))),
  (26, .inl (o_push (.int 69) 28)),
  (28, .inl (o_ic (fun x y => decide (¬ x = y)) 80 31)),
  (31, .inl (o_al 0 32)),
  (32, .inl (o_push (.int 23) 34)),
  (34, .inr (.inr (.inl (35, 2, 37, some 2, [])))),
  (37, .inl (o_push (.int 17) 39)),
  (39, .inl (o_ic (fun x y => decide (¬ x = y)) 80 42)),
  (42, .inl (o_al 0 43)),
  (43, .inl (o_push (.int 24) 45)),
  (45, .inr (.inr (.inl (23, 2, 48, some 2, [])))),
  (48, .inl (o_al 0 49)),
  (49, .inr (.inr (.inl (22, 1, 52, some 2, [])))),
  (52, .inl (o_ic (fun x y => decide (¬ x = y)) 80 55)),
  (55, .inl (o_al 0 56)),
  (56, .inr (.inr (.inl (42, 1, 59, some 2, [])))),
  (59, .inl (o_if (fun x => decide (x < 0)) 80 62)),
  (62, .inl (o_al 0 63)),
  (63, .inr (.inr (.inl (42, 1, 66, some 2, [])))),
  (66, .inl (o_al 0 67)),
  (67, .inl (o_get 2 1 70)),
  (70, .inl (o_push (.int 39) 72)),
  (72, .inl (o_bin (fun x y => x - y) 73)),
  (73, .inl (o_ic (fun x y => decide (y < x)) 80 76)),
  (76, .inl (o_push (.int 1) 77)),
  (77, .inl (o_goto 81)),
  (80, .inl (o_push (.int 0) 81)),
  (81, .inr (.inl (some k_bool)))]
theorem te_41 : ∀ q ∈ tb_41, ae_E am "TwinNetwork$Frame" "hasRightForm" prog_4_method_17_code 1 (Option.some Jvm.ClassFile.FieldType.boolean) [] q := by
  unfold tb_41
  refine List.forall_mem_cons.mpr ⟨ae_mk pu_al (fun X => ok_aload_n X (k := 0) rfl (by decide +kernel)), ?_⟩
  refine List.forall_mem_cons.mpr ⟨ae_mk (pu_push (fun _ => trivial)) (fun X => ok_bipush X (n := 12) (by decide) (by decide +kernel)), ?_⟩
  refine List.forall_mem_cons.mpr ⟨ae_mkc (fun X => ok_callV X (mid := 35) (index := 48) (y := my_35) rfl (by decide) ⟨by decide, by decide⟩ (n := 1) (by decide +kernel) wd_317 wd_47 wd_314 wd_315 wd_316 (ci := 2) rfl (by decide +kernel)), ?_⟩
  refine List.forall_mem_cons.mpr ⟨ae_mk (pu_push (fun _ => trivial)) (fun X => ok_bipush X (n := 8) (by decide) (by decide +kernel)), ?_⟩
  refine List.forall_mem_cons.mpr ⟨ae_mk pu_ic (fun X => ok_ic_ne X (off := 72) (by decide) (by decide +kernel)), ?_⟩
  refine List.forall_mem_cons.mpr ⟨ae_mk pu_al (fun X => ok_aload_n X (k := 0) rfl (by decide +kernel)), ?_⟩
  refine List.forall_mem_cons.mpr ⟨ae_mk (pu_push (fun _ => trivial)) (fun X => ok_bipush X (n := 13) (by decide) (by decide +kernel)), ?_⟩
  refine List.forall_mem_cons.mpr ⟨ae_mkc (fun X => ok_callV X (mid := 35) (index := 48) (y := my_35) rfl (by decide) ⟨by decide, by decide⟩ (n := 1) (by decide +kernel) wd_317 wd_47 wd_314 wd_315 wd_316 (ci := 2) rfl (by decide +kernel)), ?_⟩
  refine List.forall_mem_cons.mpr ⟨ae_mk pu_if (fun X => ok_if_ne X (off := 63) (by decide) (by decide +kernel)), ?_⟩
  refine List.forall_mem_cons.mpr ⟨ae_mk pu_al (fun X => ok_aload_n X (k := 0) rfl (by decide +kernel)), ?_⟩
  refine List.forall_mem_cons.mpr ⟨ae_mk (pu_push (fun _ => trivial)) (fun X => ok_bipush X (n := 14) (by decide) (by decide +kernel)), ?_⟩
  refine List.forall_mem_cons.mpr ⟨ae_mkc (fun X => ok_callV X (mid := 35) (index := 48) (y := my_35) rfl (by decide) ⟨by decide, by decide⟩ (n := 1) (by decide +kernel) wd_317 wd_47 wd_314 wd_315 wd_316 (ci := 2) rfl (by decide +kernel)), ?_⟩
  refine List.forall_mem_cons.mpr ⟨ae_mk (pu_push (fun _ => trivial)) (fun X => ok_bipush X (n := 69) (by decide) (by decide +kernel)), ?_⟩
  refine List.forall_mem_cons.mpr ⟨ae_mk pu_ic (fun X => ok_ic_ne X (off := 52) (by decide) (by decide +kernel)), ?_⟩
  refine List.forall_mem_cons.mpr ⟨ae_mk pu_al (fun X => ok_aload_n X (k := 0) rfl (by decide +kernel)), ?_⟩
  refine List.forall_mem_cons.mpr ⟨ae_mk (pu_push (fun _ => trivial)) (fun X => ok_bipush X (n := 23) (by decide) (by decide +kernel)), ?_⟩
  refine List.forall_mem_cons.mpr ⟨ae_mkc (fun X => ok_callV X (mid := 35) (index := 48) (y := my_35) rfl (by decide) ⟨by decide, by decide⟩ (n := 1) (by decide +kernel) wd_317 wd_47 wd_314 wd_315 wd_316 (ci := 2) rfl (by decide +kernel)), ?_⟩
  refine List.forall_mem_cons.mpr ⟨ae_mk (pu_push (fun _ => trivial)) (fun X => ok_bipush X (n := 17) (by decide) (by decide +kernel)), ?_⟩
  refine List.forall_mem_cons.mpr ⟨ae_mk pu_ic (fun X => ok_ic_ne X (off := 41) (by decide) (by decide +kernel)), ?_⟩
  refine List.forall_mem_cons.mpr ⟨ae_mk pu_al (fun X => ok_aload_n X (k := 0) rfl (by decide +kernel)), ?_⟩
  refine List.forall_mem_cons.mpr ⟨ae_mk (pu_push (fun _ => trivial)) (fun X => ok_bipush X (n := 24) (by decide) (by decide +kernel)), ?_⟩
  refine List.forall_mem_cons.mpr ⟨ae_mkc (fun X => ok_callV X (mid := 23) (index := 52) (y := my_23) rfl (by decide) ⟨by decide, by decide⟩ (n := 1) (by decide +kernel) wd_261 wd_47 wd_258 wd_259 wd_260 (ci := 2) rfl (by decide +kernel)), ?_⟩
  refine List.forall_mem_cons.mpr ⟨ae_mk pu_al (fun X => ok_aload_n X (k := 0) rfl (by decide +kernel)), ?_⟩
  refine List.forall_mem_cons.mpr ⟨ae_mkc (fun X => ok_callV X (mid := 22) (index := 41) (y := my_22) rfl (by decide) ⟨by decide, by decide⟩ (n := 0) (by decide +kernel) wd_257 wd_47 wd_254 wd_256 wd_4 (ci := 2) rfl (by decide +kernel)), ?_⟩
  refine List.forall_mem_cons.mpr ⟨ae_mk pu_ic (fun X => ok_ic_ne X (off := 28) (by decide) (by decide +kernel)), ?_⟩
  refine List.forall_mem_cons.mpr ⟨ae_mk pu_al (fun X => ok_aload_n X (k := 0) rfl (by decide +kernel)), ?_⟩
  refine List.forall_mem_cons.mpr ⟨ae_mkc (fun X => ok_callV X (mid := 42) (index := 55) (y := my_42) rfl (by decide) ⟨by decide, by decide⟩ (n := 0) (by decide +kernel) wd_343 wd_47 wd_340 wd_341 wd_342 (ci := 2) rfl (by decide +kernel)), ?_⟩
  refine List.forall_mem_cons.mpr ⟨ae_mk pu_if (fun X => ok_if_lt X (off := 21) (by decide) (by decide +kernel)), ?_⟩
  refine List.forall_mem_cons.mpr ⟨ae_mk pu_al (fun X => ok_aload_n X (k := 0) rfl (by decide +kernel)), ?_⟩
  refine List.forall_mem_cons.mpr ⟨ae_mkc (fun X => ok_callV X (mid := 42) (index := 55) (y := my_42) rfl (by decide) ⟨by decide, by decide⟩ (n := 0) (by decide +kernel) wd_343 wd_47 wd_340 wd_341 wd_342 (ci := 2) rfl (by decide +kernel)), ?_⟩
  refine List.forall_mem_cons.mpr ⟨ae_mk pu_al (fun X => ok_aload_n X (k := 0) rfl (by decide +kernel)), ?_⟩
  refine List.forall_mem_cons.mpr ⟨ae_mk pu_get (fun X => ok_get X (ci := 2) (kk := 1) (index := 15) rfl aw_c_Frame (by decide) wd_81 (by decide +kernel)), ?_⟩
  refine List.forall_mem_cons.mpr ⟨ae_mk (pu_push (fun _ => trivial)) (fun X => ok_bipush X (n := 39) (by decide) (by decide +kernel)), ?_⟩
  refine List.forall_mem_cons.mpr ⟨ae_mk pu_bin (fun X => ok_isub X (by decide +kernel)), ?_⟩
  refine List.forall_mem_cons.mpr ⟨ae_mk pu_ic (fun X => ok_ic_gt X (off := 7) (by decide) (by decide +kernel)), ?_⟩
  refine List.forall_mem_cons.mpr ⟨ae_mk (pu_push (fun _ => trivial)) (fun X => ok_iconst X (n := 1) (by decide) (by decide +kernel)), ?_⟩
  refine List.forall_mem_cons.mpr ⟨ae_mk pu_goto (fun X => ok_goto X (off := 4) (by decide) (by decide +kernel)), ?_⟩
  refine List.forall_mem_cons.mpr ⟨ae_mk (pu_push (fun _ => trivial)) (fun X => ok_iconst X (n := 0) (by decide) (by decide +kernel)), ?_⟩
  refine List.forall_mem_cons.mpr ⟨Or.inr (Or.inl ⟨rfl, (by decide +kernel), rt_bool⟩), ?_⟩
  exact fun _ h => absurd h List.not_mem_nil
def tb_42 : List (Nat × ae_I) := [(0, .inl (o_al 0 1)),
  (1, .inl (o_push (.int 16) 3)),
  (3, .inr (.inr (.inl (23, 2, 6, some 2, [])))),
  (6, .inl (o_push (.int 20) 8)),
  (8, .inl (o_bin (fun x y => x - y) 9)),
  (9, .inr (.inl (some k_int)))]
theorem te_42 : ∀ q ∈ tb_42, ae_E am "TwinNetwork$Frame" "fragmentLength" prog_4_method_12_code 1 (Option.some Jvm.ClassFile.FieldType.int) [] q := by
  unfold tb_42
  refine List.forall_mem_cons.mpr ⟨ae_mk pu_al (fun X => ok_aload_n X (k := 0) rfl (by decide +kernel)), ?_⟩
  refine List.forall_mem_cons.mpr ⟨ae_mk (pu_push (fun _ => trivial)) (fun X => ok_bipush X (n := 16) (by decide) (by decide +kernel)), ?_⟩
  refine List.forall_mem_cons.mpr ⟨ae_mkc (fun X => ok_callV X (mid := 23) (index := 52) (y := my_23) rfl (by decide) ⟨by decide, by decide⟩ (n := 1) (by decide +kernel) wd_261 wd_47 wd_258 wd_259 wd_260 (ci := 2) rfl (by decide +kernel)), ?_⟩
  refine List.forall_mem_cons.mpr ⟨ae_mk (pu_push (fun _ => trivial)) (fun X => ok_bipush X (n := 20) (by decide) (by decide +kernel)), ?_⟩
  refine List.forall_mem_cons.mpr ⟨ae_mk pu_bin (fun X => ok_isub X (by decide +kernel)), ?_⟩
  refine List.forall_mem_cons.mpr ⟨Or.inl ⟨rfl, (by decide +kernel), rt_int⟩, ?_⟩
  exact fun _ h => absurd h List.not_mem_nil
def tb_43 : List (Nat × ae_I) := [(0, .inl (o_al 0 1)),
  (1, .inl (o_al 0 2)),
  (2, .inl (o_get 2 1 5)),
  (5, .inl (o_push (.int 4) 6)),
  (6, .inl (o_bin (fun x y => x - y) 7)),
  (7, .inl (o_push (.int 1) 8)),
  (8, .inl (o_bin (fun x y => x - y) 9)),
  (9, .inr (.inr (.inl (35, 2, 12, some 2, [])))),
  (12, .inr (.inl (some k_int)))]
theorem te_43 : ∀ q ∈ tb_43, ae_E am "TwinNetwork$Frame" "sequence" prog_4_method_16_code 1 (Option.some Jvm.ClassFile.FieldType.int) [] q := by
  unfold tb_43
  refine List.forall_mem_cons.mpr ⟨ae_mk pu_al (fun X => ok_aload_n X (k := 0) rfl (by decide +kernel)), ?_⟩
  refine List.forall_mem_cons.mpr ⟨ae_mk pu_al (fun X => ok_aload_n X (k := 0) rfl (by decide +kernel)), ?_⟩
  refine List.forall_mem_cons.mpr ⟨ae_mk pu_get (fun X => ok_get X (ci := 2) (kk := 1) (index := 15) rfl aw_c_Frame (by decide) wd_81 (by decide +kernel)), ?_⟩
  refine List.forall_mem_cons.mpr ⟨ae_mk (pu_push (fun _ => trivial)) (fun X => ok_iconst X (n := 4) (by decide) (by decide +kernel)), ?_⟩
  refine List.forall_mem_cons.mpr ⟨ae_mk pu_bin (fun X => ok_isub X (by decide +kernel)), ?_⟩
  refine List.forall_mem_cons.mpr ⟨ae_mk (pu_push (fun _ => trivial)) (fun X => ok_iconst X (n := 1) (by decide) (by decide +kernel)), ?_⟩
  refine List.forall_mem_cons.mpr ⟨ae_mk pu_bin (fun X => ok_isub X (by decide +kernel)), ?_⟩
  refine List.forall_mem_cons.mpr ⟨ae_mkc (fun X => ok_callV X (mid := 35) (index := 48) (y := my_35) rfl (by decide) ⟨by decide, by decide⟩ (n := 1) (by decide +kernel) wd_317 wd_47 wd_314 wd_315 wd_316 (ci := 2) rfl (by decide +kernel)), ?_⟩
  refine List.forall_mem_cons.mpr ⟨Or.inl ⟨rfl, (by decide +kernel), rt_int⟩, ?_⟩
  exact fun _ h => absurd h List.not_mem_nil
def tb_44 : List (Nat × ae_I) := [(0, .inl (o_al 0 1)),
  (1, .inl (o_get 5 2 4)),
  (4, .inl (o_il 1 5)),
  (5, .inl (o_ia 6)),
  (6, .inl (o_is 4 8)),
  (8, .inl (o_al 0 9)),
  (9, .inl (o_get 5 2 12)),
  (12, .inl (o_il 1 13)),
  (13, .inl (o_il 2 14)),
  (14, .inl (o_ias 15)),
  (15, .inl (o_il 2 16)),
  (16, .inl (o_il 4 18)),
  (18, .inr (.inr (.inl (45, 2, 21, none, [])))),
  (21, .inl (o_if (fun x => decide (¬ x = 0)) 27 24)),
  (24, .inl (o_push (.int 8) 26)),
  (26, .inr (.inl (some k_int))),
  (27, .inl (o_al 0 28)),
  (28, .inl (o_il 2 29)),
  (29, .inl (o_il 3 30)),
  (30, .inr (.inr (.inl (46, 3, 33, some 5, [])))),
  (33, .inl (o_if (fun x => decide (¬ x = 0)) 39 36)),
  (36, .inl (o_push (.int 9) 38)),
  (38, .inr (.inl (some k_int))),
  (39, .inl (o_al 0 40)),
  (40, .inl (o_il 2 41)),
  (41, .inl (o_put 5 3 k_int 44)),
  (44, .inl (o_al 0 45)),
  (45, .inl (o_il 3 46)),
  (46, .inl (o_put 5 4 k_int 49)),
  (49, .inl (o_push (.int (-1)) 50)),
  (50, .inr (.inl (some k_int)))]
theorem te_44 : ∀ q ∈ tb_44, ae_E am "TwinNetwork$Port" "receive" prog_7_method_3_code 5 (Option.some Jvm.ClassFile.FieldType.int) [] q := by
  unfold tb_44
  refine List.forall_mem_cons.mpr ⟨ae_mk pu_al (fun X => ok_aload_n X (k := 0) rfl (by decide +kernel)), ?_⟩
  refine List.forall_mem_cons.mpr ⟨ae_mk pu_get (fun X => ok_get X (ci := 5) (kk := 2) (index := 9) rfl aw_c_Port (by decide) wd_608 (by decide +kernel)), ?_⟩
  refine List.forall_mem_cons.mpr ⟨ae_mk pu_il (fun X => ok_iload_n X (k := 1) rfl (by decide +kernel)), ?_⟩
  refine List.forall_mem_cons.mpr ⟨ae_mk pu_ia (fun X => ok_ia X (by decide +kernel)), ?_⟩
  refine List.forall_mem_cons.mpr ⟨ae_mk pu_is (fun X => ok_istore X (by decide +kernel)), ?_⟩
  refine List.forall_mem_cons.mpr ⟨ae_mk pu_al (fun X => ok_aload_n X (k := 0) rfl (by decide +kernel)), ?_⟩
  refine List.forall_mem_cons.mpr ⟨ae_mk pu_get (fun X => ok_get X (ci := 5) (kk := 2) (index := 9) rfl aw_c_Port (by decide) wd_608 (by decide +kernel)), ?_⟩
  refine List.forall_mem_cons.mpr ⟨ae_mk pu_il (fun X => ok_iload_n X (k := 1) rfl (by decide +kernel)), ?_⟩
  refine List.forall_mem_cons.mpr ⟨ae_mk pu_il (fun X => ok_iload_n X (k := 2) rfl (by decide +kernel)), ?_⟩
  refine List.forall_mem_cons.mpr ⟨ae_mk pu_ias (fun X => ok_ias X (by decide +kernel)), ?_⟩
  refine List.forall_mem_cons.mpr ⟨ae_mk pu_il (fun X => ok_iload_n X (k := 2) rfl (by decide +kernel)), ?_⟩
  refine List.forall_mem_cons.mpr ⟨ae_mk pu_il (fun X => ok_iload X (by decide +kernel)), ?_⟩
  refine List.forall_mem_cons.mpr ⟨ae_mkc (fun X => ok_callS X (mid := 45) (index := 55) (y := my_45) rfl (by decide) ⟨by decide, by decide⟩ (n := 2) (by decide +kernel) wd_354 wd_58 wd_352 wd_353 (by decide +kernel)), ?_⟩
  refine List.forall_mem_cons.mpr ⟨ae_mk pu_if (fun X => ok_if_ne X (off := 6) (by decide) (by decide +kernel)), ?_⟩
  refine List.forall_mem_cons.mpr ⟨ae_mk (pu_push (fun _ => trivial)) (fun X => ok_bipush X (n := 8) (by decide) (by decide +kernel)), ?_⟩
  refine List.forall_mem_cons.mpr ⟨Or.inl ⟨rfl, (by decide +kernel), rt_int⟩, ?_⟩
  refine List.forall_mem_cons.mpr ⟨ae_mk pu_al (fun X => ok_aload_n X (k := 0) rfl (by decide +kernel)), ?_⟩
  refine List.forall_mem_cons.mpr ⟨ae_mk pu_il (fun X => ok_iload_n X (k := 2) rfl (by decide +kernel)), ?_⟩
  refine List.forall_mem_cons.mpr ⟨ae_mk pu_il (fun X => ok_iload_n X (k := 3) rfl (by decide +kernel)), ?_⟩
  refine List.forall_mem_cons.mpr ⟨ae_mkc (fun X => ok_callV X (mid := 46) (index := 59) (y := my_46) rfl (by decide) ⟨by decide, by decide⟩ (n := 2) (by decide +kernel) wd_360 wd_58 wd_356 wd_358 wd_11 (ci := 5) rfl (by decide +kernel)), ?_⟩
  refine List.forall_mem_cons.mpr ⟨ae_mk pu_if (fun X => ok_if_ne X (off := 6) (by decide) (by decide +kernel)), ?_⟩
  refine List.forall_mem_cons.mpr ⟨ae_mk (pu_push (fun _ => trivial)) (fun X => ok_bipush X (n := 9) (by decide) (by decide +kernel)), ?_⟩
  refine List.forall_mem_cons.mpr ⟨Or.inl ⟨rfl, (by decide +kernel), rt_int⟩, ?_⟩
  refine List.forall_mem_cons.mpr ⟨ae_mk pu_al (fun X => ok_aload_n X (k := 0) rfl (by decide +kernel)), ?_⟩
  refine List.forall_mem_cons.mpr ⟨ae_mk pu_il (fun X => ok_iload_n X (k := 2) rfl (by decide +kernel)), ?_⟩
  refine List.forall_mem_cons.mpr ⟨ae_mk pu_put (fun X => ok_put X (ci := 5) (kk := 3) (index := 15) rfl aw_c_Port (by decide) wd_609 cy_Port cn_Port_ty cn_Port_nm rfl hk_int rfl (by decide +kernel)), ?_⟩
  refine List.forall_mem_cons.mpr ⟨ae_mk pu_al (fun X => ok_aload_n X (k := 0) rfl (by decide +kernel)), ?_⟩
  refine List.forall_mem_cons.mpr ⟨ae_mk pu_il (fun X => ok_iload_n X (k := 3) rfl (by decide +kernel)), ?_⟩
  refine List.forall_mem_cons.mpr ⟨ae_mk pu_put (fun X => ok_put X (ci := 5) (kk := 4) (index := 19) rfl aw_c_Port (by decide) wd_610 cy_Port cn_Port_ty cn_Port_nm rfl hk_int rfl (by decide +kernel)), ?_⟩
  refine List.forall_mem_cons.mpr ⟨ae_mk (pu_push (fun _ => trivial)) (fun X => ok_iconst X (n := (-1)) (by decide) (by decide +kernel)), ?_⟩
  refine List.forall_mem_cons.mpr ⟨Or.inl ⟨rfl, (by decide +kernel), rt_int⟩, ?_⟩
  exact fun _ h => absurd h List.not_mem_nil
def tb_45 : List (Nat × ae_I) := [(0, .inl (o_il 1 1)),
  (1, .inl (o_push (.int (-1)) 2)),
  (2, .inl (o_ic (fun x y => decide (x = y)) 28 5)),
  (5, .inl (o_il 0 6)),
  (6, .inl (o_if (fun x => decide (x = 0)) 28 9)),
  (9, .inl (o_il 0 10)),
  (10, .inl (o_il 1 11)),
  (11, .inr (.inr (.inl (15, 1, 14, none, [])))),
  (14, .inl (o_ic (fun x y => decide (x = y)) 28 17)),
  (17, .inl (o_il 0 18)),
  (18, .inl (o_il 1 19)),
  (19, .inr (.inr (.inl (15, 1, 22, none, [])))),
  (22, .inr (.inr (.inl (15, 1, 25, none, [])))),
  (25, .inl (o_ic (fun x y => decide (¬ x = y)) 32 28)),
  (28, .inl (o_push (.int 1) 29)),
  (29, .inl (o_goto 33)),
  (32, .inl (o_push (.int 0) 33)),
  (33, .inr (.inl (some k_bool)))]
theorem te_45 : ∀ q ∈ tb_45, ae_E am "TwinNetwork$Port" "isInOrder" prog_7_method_4_code 2 (Option.some Jvm.ClassFile.FieldType.boolean) [] q := by
  unfold tb_45
  refine List.forall_mem_cons.mpr ⟨ae_mk pu_il (fun X => ok_iload_n X (k := 1) rfl (by decide +kernel)), ?_⟩
  refine List.forall_mem_cons.mpr ⟨ae_mk (pu_push (fun _ => trivial)) (fun X => ok_iconst X (n := (-1)) (by decide) (by decide +kernel)), ?_⟩
  refine List.forall_mem_cons.mpr ⟨ae_mk pu_ic (fun X => ok_ic_eq X (off := 26) (by decide) (by decide +kernel)), ?_⟩
  refine List.forall_mem_cons.mpr ⟨ae_mk pu_il (fun X => ok_iload_n X (k := 0) rfl (by decide +kernel)), ?_⟩
  refine List.forall_mem_cons.mpr ⟨ae_mk pu_if (fun X => ok_if_eq X (off := 22) (by decide) (by decide +kernel)), ?_⟩
  refine List.forall_mem_cons.mpr ⟨ae_mk pu_il (fun X => ok_iload_n X (k := 0) rfl (by decide +kernel)), ?_⟩
  refine List.forall_mem_cons.mpr ⟨ae_mk pu_il (fun X => ok_iload_n X (k := 1) rfl (by decide +kernel)), ?_⟩
  refine List.forall_mem_cons.mpr ⟨ae_mkc (fun X => ok_callS X (mid := 15) (index := 62) (y := my_15) rfl (by decide) ⟨by decide, by decide⟩ (n := 1) (by decide +kernel) wd_224 wd_58 wd_355 wd_223 (by decide +kernel)), ?_⟩
  refine List.forall_mem_cons.mpr ⟨ae_mk pu_ic (fun X => ok_ic_eq X (off := 14) (by decide) (by decide +kernel)), ?_⟩
  refine List.forall_mem_cons.mpr ⟨ae_mk pu_il (fun X => ok_iload_n X (k := 0) rfl (by decide +kernel)), ?_⟩
  refine List.forall_mem_cons.mpr ⟨ae_mk pu_il (fun X => ok_iload_n X (k := 1) rfl (by decide +kernel)), ?_⟩
  refine List.forall_mem_cons.mpr ⟨ae_mkc (fun X => ok_callS X (mid := 15) (index := 62) (y := my_15) rfl (by decide) ⟨by decide, by decide⟩ (n := 1) (by decide +kernel) wd_224 wd_58 wd_355 wd_223 (by decide +kernel)), ?_⟩
  refine List.forall_mem_cons.mpr ⟨ae_mkc (fun X => ok_callS X (mid := 15) (index := 62) (y := my_15) rfl (by decide) ⟨by decide, by decide⟩ (n := 1) (by decide +kernel) wd_224 wd_58 wd_355 wd_223 (by decide +kernel)), ?_⟩
  refine List.forall_mem_cons.mpr ⟨ae_mk pu_ic (fun X => ok_ic_ne X (off := 7) (by decide) (by decide +kernel)), ?_⟩
  refine List.forall_mem_cons.mpr ⟨ae_mk (pu_push (fun _ => trivial)) (fun X => ok_iconst X (n := 1) (by decide) (by decide +kernel)), ?_⟩
  refine List.forall_mem_cons.mpr ⟨ae_mk pu_goto (fun X => ok_goto X (off := 4) (by decide) (by decide +kernel)), ?_⟩
  refine List.forall_mem_cons.mpr ⟨ae_mk (pu_push (fun _ => trivial)) (fun X => ok_iconst X (n := 0) (by decide) (by decide +kernel)), ?_⟩
  refine List.forall_mem_cons.mpr ⟨Or.inr (Or.inl ⟨rfl, (by decide +kernel), rt_bool⟩), ?_⟩
  exact fun _ h => absurd h List.not_mem_nil
