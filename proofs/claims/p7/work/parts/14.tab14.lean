def tb_46 : List (Nat × ae_I) := [(0, .inl (o_al 0 1)),
  (1, .inl (o_get 5 3 4)),
  (4, .inl (o_push (.int (-1)) 5)),
  (5, .inl (o_ic (fun x y => decide (x = y)) 21 8)),
  (8, .inl (o_il 2 9)),
  (9, .inl (o_al 0 10)),
  (10, .inl (o_get 5 4 13)),
  (13, .inl (o_bin (fun x y => x - y) 14)),
  (14, .inl (o_al 0 15)),
  (15, .inl (o_get 5 1 18)),
  (18, .inl (o_ic (fun x y => decide (x ≤ y)) 23 21)),
  (21, .inl (o_push (.int 1) 22)),
  (22, .inr (.inl (some k_bool))),
  (23, .inl (o_il 1 24)),
  (24, .inl (o_al 0 25)),
  (25, .inl (o_get 5 3 28)),
  (28, .inl (o_ic (fun x y => decide (¬ x = y)) 33 31)),
  (31, .inl (o_push (.int 0) 32)),
  (32, .inr (.inl (some k_bool))),
  (33, .inl (o_il 1 34)),
  (34, .inl (o_al 0 35)),
  (35, .inl (o_get 5 3 38)),
  (38, .inl (o_ic (fun x y => decide (x ≤ y)) 50 41)),
  (41, .inl (o_il 1 42)),
  (42, .inl (o_al 0 43)),
  (43, .inl (o_get 5 3 46)),
  (46, .inl (o_bin (fun x y => x - y) 47)),
  (47, .inl (o_goto 60)),
  (50, .inl (o_il 1 51)),
  (51, .inl (o_al 0 52)),
  (52, .inl (o_get 5 3 55)),
  (55, .inl (o_bin (fun x y => x - y) 56)),
  (56, .inl (o_push (.int 255) 59)),
  (59, .inl (o_bin (fun x y => x + y) 60)),
  (60, .inl (o_is 3 61)),
  (61, .inl (o_il 1 62)),
  (62, .inl (o_if (fun x => decide (x = 0)) 79 65)),
  (65, .inl (o_al 0 66)),
  (66, .inl (o_get 5 3 69)),
  (69, .inl (o_if (fun x => decide (x = 0)) 79 72)),
  (72, .inl (o_il 3 73)),
  (73, .inl (o_push (.int 128) 76)),
  (76, .inl (o_ic (fun x y => decide (y ≤ x)) 83 79)),
  (79, .inl (o_push (.int 1) 80)),
  (80, .inl (o_goto 84)),
  (83, .inl (o_push (.int 0) 84)),
  (84, .inr (.inl (some k_bool)))]
theorem te_46 : ∀ q ∈ tb_46, ae_E am "TwinNetwork$Port" "isToBeTaken" prog_7_method_5_code 4 (Option.some Jvm.ClassFile.FieldType.boolean) [] q := by
  unfold tb_46
  refine List.forall_mem_cons.mpr ⟨ae_mk pu_al (fun X => ok_aload_n X (k := 0) rfl (by decide +kernel)), ?_⟩
  refine List.forall_mem_cons.mpr ⟨ae_mk pu_get (fun X => ok_get X (ci := 5) (kk := 3) (index := 15) rfl aw_c_Port (by decide) wd_609 (by decide +kernel)), ?_⟩
  refine List.forall_mem_cons.mpr ⟨ae_mk (pu_push (fun _ => trivial)) (fun X => ok_iconst X (n := (-1)) (by decide) (by decide +kernel)), ?_⟩
  refine List.forall_mem_cons.mpr ⟨ae_mk pu_ic (fun X => ok_ic_eq X (off := 16) (by decide) (by decide +kernel)), ?_⟩
  refine List.forall_mem_cons.mpr ⟨ae_mk pu_il (fun X => ok_iload_n X (k := 2) rfl (by decide +kernel)), ?_⟩
  refine List.forall_mem_cons.mpr ⟨ae_mk pu_al (fun X => ok_aload_n X (k := 0) rfl (by decide +kernel)), ?_⟩
  refine List.forall_mem_cons.mpr ⟨ae_mk pu_get (fun X => ok_get X (ci := 5) (kk := 4) (index := 19) rfl aw_c_Port (by decide) wd_610 (by decide +kernel)), ?_⟩
  refine List.forall_mem_cons.mpr ⟨ae_mk pu_bin (fun X => ok_isub X (by decide +kernel)), ?_⟩
  refine List.forall_mem_cons.mpr ⟨ae_mk pu_al (fun X => ok_aload_n X (k := 0) rfl (by decide +kernel)), ?_⟩
  refine List.forall_mem_cons.mpr ⟨ae_mk pu_get (fun X => ok_get X (ci := 5) (kk := 1) (index := 48) rfl aw_c_Port (by decide) wd_607 (by decide +kernel)), ?_⟩
  refine List.forall_mem_cons.mpr ⟨ae_mk pu_ic (fun X => ok_ic_le X (off := 5) (by decide) (by decide +kernel)), ?_⟩
  refine List.forall_mem_cons.mpr ⟨ae_mk (pu_push (fun _ => trivial)) (fun X => ok_iconst X (n := 1) (by decide) (by decide +kernel)), ?_⟩
  refine List.forall_mem_cons.mpr ⟨Or.inr (Or.inl ⟨rfl, (by decide +kernel), rt_bool⟩), ?_⟩
  refine List.forall_mem_cons.mpr ⟨ae_mk pu_il (fun X => ok_iload_n X (k := 1) rfl (by decide +kernel)), ?_⟩
  refine List.forall_mem_cons.mpr ⟨ae_mk pu_al (fun X => ok_aload_n X (k := 0) rfl (by decide +kernel)), ?_⟩
  refine List.forall_mem_cons.mpr ⟨ae_mk pu_get (fun X => ok_get X (ci := 5) (kk := 3) (index := 15) rfl aw_c_Port (by decide) wd_609 (by decide +kernel)), ?_⟩
  refine List.forall_mem_cons.mpr ⟨ae_mk pu_ic (fun X => ok_ic_ne X (off := 5) (by decide) (by decide +kernel)), ?_⟩
  refine List.forall_mem_cons.mpr ⟨ae_mk (pu_push (fun _ => trivial)) (fun X => ok_iconst X (n := 0) (by decide) (by decide +kernel)), ?_⟩
  refine List.forall_mem_cons.mpr ⟨Or.inr (Or.inl ⟨rfl, (by decide +kernel), rt_bool⟩), ?_⟩
  refine List.forall_mem_cons.mpr ⟨ae_mk pu_il (fun X => ok_iload_n X (k := 1) rfl (by decide +kernel)), ?_⟩
  refine List.forall_mem_cons.mpr ⟨ae_mk pu_al (fun X => ok_aload_n X (k := 0) rfl (by decide +kernel)), ?_⟩
  refine List.forall_mem_cons.mpr ⟨ae_mk pu_get (fun X => ok_get X (ci := 5) (kk := 3) (index := 15) rfl aw_c_Port (by decide) wd_609 (by decide +kernel)), ?_⟩
  refine List.forall_mem_cons.mpr ⟨ae_mk pu_ic (fun X => ok_ic_le X (off := 12) (by decide) (by decide +kernel)), ?_⟩
  refine List.forall_mem_cons.mpr ⟨ae_mk pu_il (fun X => ok_iload_n X (k := 1) rfl (by decide +kernel)), ?_⟩
  refine List.forall_mem_cons.mpr ⟨ae_mk pu_al (fun X => ok_aload_n X (k := 0) rfl (by decide +kernel)), ?_⟩
  refine List.forall_mem_cons.mpr ⟨ae_mk pu_get (fun X => ok_get X (ci := 5) (kk := 3) (index := 15) rfl aw_c_Port (by decide) wd_609 (by decide +kernel)), ?_⟩
  refine List.forall_mem_cons.mpr ⟨ae_mk pu_bin (fun X => ok_isub X (by decide +kernel)), ?_⟩
  refine List.forall_mem_cons.mpr ⟨ae_mk pu_goto (fun X => ok_goto X (off := 13) (by decide) (by decide +kernel)), ?_⟩
  refine List.forall_mem_cons.mpr ⟨ae_mk pu_il (fun X => ok_iload_n X (k := 1) rfl (by decide +kernel)), ?_⟩
  refine List.forall_mem_cons.mpr ⟨ae_mk pu_al (fun X => ok_aload_n X (k := 0) rfl (by decide +kernel)), ?_⟩
  refine List.forall_mem_cons.mpr ⟨ae_mk pu_get (fun X => ok_get X (ci := 5) (kk := 3) (index := 15) rfl aw_c_Port (by decide) wd_609 (by decide +kernel)), ?_⟩
  refine List.forall_mem_cons.mpr ⟨ae_mk pu_bin (fun X => ok_isub X (by decide +kernel)), ?_⟩
  refine List.forall_mem_cons.mpr ⟨ae_mk (pu_push (fun _ => trivial)) (fun X => ok_sipush X (n := 255) (by decide) (by decide +kernel)), ?_⟩
  refine List.forall_mem_cons.mpr ⟨ae_mk pu_bin (fun X => ok_iadd X (by decide +kernel)), ?_⟩
  refine List.forall_mem_cons.mpr ⟨ae_mk pu_is (fun X => ok_istore_n X (k := 3) rfl (by decide +kernel)), ?_⟩
  refine List.forall_mem_cons.mpr ⟨ae_mk pu_il (fun X => ok_iload_n X (k := 1) rfl (by decide +kernel)), ?_⟩
  refine List.forall_mem_cons.mpr ⟨ae_mk pu_if (fun X => ok_if_eq X (off := 17) (by decide) (by decide +kernel)), ?_⟩
  refine List.forall_mem_cons.mpr ⟨ae_mk pu_al (fun X => ok_aload_n X (k := 0) rfl (by decide +kernel)), ?_⟩
  refine List.forall_mem_cons.mpr ⟨ae_mk pu_get (fun X => ok_get X (ci := 5) (kk := 3) (index := 15) rfl aw_c_Port (by decide) wd_609 (by decide +kernel)), ?_⟩
  refine List.forall_mem_cons.mpr ⟨ae_mk pu_if (fun X => ok_if_eq X (off := 10) (by decide) (by decide +kernel)), ?_⟩
  refine List.forall_mem_cons.mpr ⟨ae_mk pu_il (fun X => ok_iload_n X (k := 3) rfl (by decide +kernel)), ?_⟩
  refine List.forall_mem_cons.mpr ⟨ae_mk (pu_push (fun _ => trivial)) (fun X => ok_sipush X (n := 128) (by decide) (by decide +kernel)), ?_⟩
  refine List.forall_mem_cons.mpr ⟨ae_mk pu_ic (fun X => ok_ic_ge X (off := 7) (by decide) (by decide +kernel)), ?_⟩
  refine List.forall_mem_cons.mpr ⟨ae_mk (pu_push (fun _ => trivial)) (fun X => ok_iconst X (n := 1) (by decide) (by decide +kernel)), ?_⟩
  refine List.forall_mem_cons.mpr ⟨ae_mk pu_goto (fun X => ok_goto X (off := 4) (by decide) (by decide +kernel)), ?_⟩
  refine List.forall_mem_cons.mpr ⟨ae_mk (pu_push (fun _ => trivial)) (fun X => ok_iconst X (n := 0) (by decide) (by decide +kernel)), ?_⟩
  refine List.forall_mem_cons.mpr ⟨Or.inr (Or.inl ⟨rfl, (by decide +kernel), rt_bool⟩), ?_⟩
  exact fun _ h => absurd h List.not_mem_nil
def tb_47 : List (Nat × ae_I) := [(0, .inl (o_al 1 1)),
  (1, .inr (.inr (.inl (48, 1, 4, some 2, [])))),
  (4, .inl (o_is 3 5)),
  (5, .inl (o_al 1 6)),
  (6, .inr (.inr (.inl (42, 1, 9, some 2, [])))),
  (9, .inl (o_is 4 11)),
  (11, .inl (o_il 3 12)),
  (12, .inl (o_if (fun x => decide (x = 0)) 44 15)),
  (15, .inl (o_al 0 16)),
  (16, .inl (o_get 5 5 19)),
  (19, .inl (o_if (fun x => decide (x = 0)) 48 22)),
  (22, .inl (o_al 1 23)),
  (23, .inr (.inr (.inl (49, 1, 26, some 2, [])))),
  (26, .inl (o_al 0 27)),
  (27, .inl (o_get 5 6 30)),
  (30, .inl (o_ic (fun x y => decide (¬ x = y)) 48 33)),
  (33, .inl (o_il 3 34)),
  (34, .inl (o_al 0 35)),
  (35, .inl (o_get 5 7 38)),
  (38, .inl (o_get 0 1 41)),
  (41, .inl (o_ic (fun x y => decide (¬ x = y)) 48 44)),
  (44, .inl (o_push (.int 1) 45)),
  (45, .inl (o_goto 49)),
  (48, .inl (o_push (.int 0) 49)),
  (49, .inl (o_is 5 51)),
  (51, .inl (o_al 0 52)),
  (52, .inl (o_il 5 54)),
  (54, .inl (o_if (fun x => decide (x = 0)) 71 57)),
  (57, .inl (o_il 3 58)),
  (58, .inl (o_il 4 60)),
  (60, .inl (o_bin (fun x y => x + y) 61)),
  (61, .inl (o_push (.int 1000) 64)),
  (64, .inl (o_ic (fun x y => decide (y < x)) 71 67)),
  (67, .inl (o_push (.int 1) 68)),
  (68, .inl (o_goto 72)),
  (71, .inl (o_push (.int 0) 72)),
  (72, .inl (o_put 5 5 k_bool 75)),
  (75, .inl (o_al 0 76)),
  (76, .inl (o_get 5 5 79)),
  (79, .inl (o_if (fun x => decide (¬ x = 0)) 85 82)),
  (82, .inl (o_push (.int 10) 84)),
  (84, .inr (.inl (some k_int))),
  (85, .inl (o_il 3 86)),
  (86, .inl (o_if (fun x => decide (¬ x = 0)) 105 89)),
  (89, .inl (o_al 0 90)),
  (90, .inl (o_get 5 7 93)),
  (93, .inl (o_push (.int 0) 94)),
  (94, .inl (o_put 0 1 k_int 97)),
  (97, .inl (o_al 0 98)),
  (98, .inl (o_al 1 99)),
  (99, .inr (.inr (.inl (49, 1, 102, some 2, [])))),
  (102, .inl (o_put 5 6 k_int 105)),
  (105, .inl (o_al 0 106)),
  (106, .inl (o_get 5 7 109)),
  (109, .inl (o_al 1 110)),
  (110, .inl (o_il 4 112)),
  (112, .inr (.inr (.inl (50, 3, 115, some 0, [])))),
  (115, .inl (o_al 1 116)),
  (116, .inr (.inr (.inl (51, 1, 119, some 2, [])))),
  (119, .inl (o_if (fun x => decide (x = 0)) 124 122)),
  (122, .inl (o_push (.int (-1)) 123)),
  (123, .inr (.inl (some k_int))),
  (124, .inl (o_al 0 125)),
  (125, .inl (o_push (.int 0) 126)),
  (126, .inl (o_put 5 5 k_bool 129)),
  (129, .inl (o_al 0 130)),
  (130, .inl (o_get 5 7 133)),
  (133, .inr (.inr (.inl (52, 1, 136, some 0, [])))),
  (136, .inl (o_if (fun x => decide (x = 0)) 147 139)),
  (139, .inl (o_al 0 140)),
  (140, .inl (o_il 2 141)),
  (141, .inr (.inr (.inl (54, 2, 144, some 5, [])))),
  (144, .inl (o_goto 149)),
  (147, .inl (o_push (.int 10) 149)),
  (149, .inr (.inl (some k_int)))]
theorem te_47 : ∀ q ∈ tb_47, ae_E am "TwinNetwork$Port" "putTogether" prog_7_method_6_code 6 (Option.some Jvm.ClassFile.FieldType.int) [] q := by
  unfold tb_47
  refine List.forall_mem_cons.mpr ⟨ae_mk pu_al (fun X => ok_aload_n X (k := 1) rfl (by decide +kernel)), ?_⟩
  refine List.forall_mem_cons.mpr ⟨ae_mkc (fun X => ok_callV X (mid := 48) (index := 66) (y := my_48) rfl (by decide) ⟨by decide, by decide⟩ (n := 0) (by decide +kernel) wd_368 wd_47 wd_365 wd_366 wd_367 (ci := 2) rfl (by decide +kernel)), ?_⟩
  refine List.forall_mem_cons.mpr ⟨ae_mk pu_is (fun X => ok_istore_n X (k := 3) rfl (by decide +kernel)), ?_⟩
  refine List.forall_mem_cons.mpr ⟨ae_mk pu_al (fun X => ok_aload_n X (k := 1) rfl (by decide +kernel)), ?_⟩
  refine List.forall_mem_cons.mpr ⟨ae_mkc (fun X => ok_callV X (mid := 42) (index := 72) (y := my_42) rfl (by decide) ⟨by decide, by decide⟩ (n := 0) (by decide +kernel) wd_343 wd_47 wd_369 wd_341 wd_342 (ci := 2) rfl (by decide +kernel)), ?_⟩
  refine List.forall_mem_cons.mpr ⟨ae_mk pu_is (fun X => ok_istore X (by decide +kernel)), ?_⟩
  refine List.forall_mem_cons.mpr ⟨ae_mk pu_il (fun X => ok_iload_n X (k := 3) rfl (by decide +kernel)), ?_⟩
  refine List.forall_mem_cons.mpr ⟨ae_mk pu_if (fun X => ok_if_eq X (off := 32) (by decide) (by decide +kernel)), ?_⟩
  refine List.forall_mem_cons.mpr ⟨ae_mk pu_al (fun X => ok_aload_n X (k := 0) rfl (by decide +kernel)), ?_⟩
  refine List.forall_mem_cons.mpr ⟨ae_mk pu_get (fun X => ok_get X (ci := 5) (kk := 5) (index := 22) rfl aw_c_Port (by decide) wd_611 (by decide +kernel)), ?_⟩
  refine List.forall_mem_cons.mpr ⟨ae_mk pu_if (fun X => ok_if_eq X (off := 29) (by decide) (by decide +kernel)), ?_⟩
  refine List.forall_mem_cons.mpr ⟨ae_mk pu_al (fun X => ok_aload_n X (k := 1) rfl (by decide +kernel)), ?_⟩
  refine List.forall_mem_cons.mpr ⟨ae_mkc (fun X => ok_callV X (mid := 49) (index := 75) (y := my_49) rfl (by decide) ⟨by decide, by decide⟩ (n := 0) (by decide +kernel) wd_373 wd_47 wd_370 wd_371 wd_372 (ci := 2) rfl (by decide +kernel)), ?_⟩
  refine List.forall_mem_cons.mpr ⟨ae_mk pu_al (fun X => ok_aload_n X (k := 0) rfl (by decide +kernel)), ?_⟩
  refine List.forall_mem_cons.mpr ⟨ae_mk pu_get (fun X => ok_get X (ci := 5) (kk := 6) (index := 26) rfl aw_c_Port (by decide) wd_612 (by decide +kernel)), ?_⟩
  refine List.forall_mem_cons.mpr ⟨ae_mk pu_ic (fun X => ok_ic_ne X (off := 18) (by decide) (by decide +kernel)), ?_⟩
  refine List.forall_mem_cons.mpr ⟨ae_mk pu_il (fun X => ok_iload_n X (k := 3) rfl (by decide +kernel)), ?_⟩
  refine List.forall_mem_cons.mpr ⟨ae_mk pu_al (fun X => ok_aload_n X (k := 0) rfl (by decide +kernel)), ?_⟩
  refine List.forall_mem_cons.mpr ⟨ae_mk pu_get (fun X => ok_get X (ci := 5) (kk := 7) (index := 32) rfl aw_c_Port (by decide) wd_613 (by decide +kernel)), ?_⟩
  refine List.forall_mem_cons.mpr ⟨ae_mk pu_get (fun X => ok_getN X (ci := 0) (kk := 1) (index := 78) rfl aw_c_Datagram (by decide) wd_100 (by decide +kernel)), ?_⟩
  refine List.forall_mem_cons.mpr ⟨ae_mk pu_ic (fun X => ok_ic_ne X (off := 7) (by decide) (by decide +kernel)), ?_⟩
  refine List.forall_mem_cons.mpr ⟨ae_mk (pu_push (fun _ => trivial)) (fun X => ok_iconst X (n := 1) (by decide) (by decide +kernel)), ?_⟩
  refine List.forall_mem_cons.mpr ⟨ae_mk pu_goto (fun X => ok_goto X (off := 4) (by decide) (by decide +kernel)), ?_⟩
  refine List.forall_mem_cons.mpr ⟨ae_mk (pu_push (fun _ => trivial)) (fun X => ok_iconst X (n := 0) (by decide) (by decide +kernel)), ?_⟩
  refine List.forall_mem_cons.mpr ⟨ae_mk pu_is (fun X => ok_istore X (by decide +kernel)), ?_⟩
  refine List.forall_mem_cons.mpr ⟨ae_mk pu_al (fun X => ok_aload_n X (k := 0) rfl (by decide +kernel)), ?_⟩
  refine List.forall_mem_cons.mpr ⟨ae_mk pu_il (fun X => ok_iload X (by decide +kernel)), ?_⟩
  refine List.forall_mem_cons.mpr ⟨ae_mk pu_if (fun X => ok_if_eq X (off := 17) (by decide) (by decide +kernel)), ?_⟩
  refine List.forall_mem_cons.mpr ⟨ae_mk pu_il (fun X => ok_iload_n X (k := 3) rfl (by decide +kernel)), ?_⟩
  refine List.forall_mem_cons.mpr ⟨ae_mk pu_il (fun X => ok_iload X (by decide +kernel)), ?_⟩
  refine List.forall_mem_cons.mpr ⟨ae_mk pu_bin (fun X => ok_iadd X (by decide +kernel)), ?_⟩
  refine List.forall_mem_cons.mpr ⟨ae_mk (pu_push (fun _ => trivial)) (fun X => ok_sipush X (n := 1000) (by decide) (by decide +kernel)), ?_⟩
  refine List.forall_mem_cons.mpr ⟨ae_mk pu_ic (fun X => ok_ic_gt X (off := 7) (by decide) (by decide +kernel)), ?_⟩
  refine List.forall_mem_cons.mpr ⟨ae_mk (pu_push (fun _ => trivial)) (fun X => ok_iconst X (n := 1) (by decide) (by decide +kernel)), ?_⟩
  refine List.forall_mem_cons.mpr ⟨ae_mk pu_goto (fun X => ok_goto X (off := 4) (by decide) (by decide +kernel)), ?_⟩
  refine List.forall_mem_cons.mpr ⟨ae_mk (pu_push (fun _ => trivial)) (fun X => ok_iconst X (n := 0) (by decide) (by decide +kernel)), ?_⟩
  refine List.forall_mem_cons.mpr ⟨ae_mk pu_put (fun X => ok_put X (ci := 5) (kk := 5) (index := 22) rfl aw_c_Port (by decide) wd_611 cy_Port cn_Port_ty cn_Port_nm rfl hk_bool rfl (by decide +kernel)), ?_⟩
  refine List.forall_mem_cons.mpr ⟨ae_mk pu_al (fun X => ok_aload_n X (k := 0) rfl (by decide +kernel)), ?_⟩
  refine List.forall_mem_cons.mpr ⟨ae_mk pu_get (fun X => ok_get X (ci := 5) (kk := 5) (index := 22) rfl aw_c_Port (by decide) wd_611 (by decide +kernel)), ?_⟩
  refine List.forall_mem_cons.mpr ⟨ae_mk pu_if (fun X => ok_if_ne X (off := 6) (by decide) (by decide +kernel)), ?_⟩
  refine List.forall_mem_cons.mpr ⟨ae_mk (pu_push (fun _ => trivial)) (fun X => ok_bipush X (n := 10) (by decide) (by decide +kernel)), ?_⟩
  refine List.forall_mem_cons.mpr ⟨Or.inl ⟨rfl, (by decide +kernel), rt_int⟩, ?_⟩
  refine List.forall_mem_cons.mpr ⟨ae_mk pu_il (fun X => ok_iload_n X (k := 3) rfl (by decide +kernel)), ?_⟩
  refine List.forall_mem_cons.mpr ⟨ae_mk pu_if (fun X => ok_if_ne X (off := 19) (by decide) (by decide +kernel)), ?_⟩
  refine List.forall_mem_cons.mpr ⟨ae_mk pu_al (fun X => ok_aload_n X (k := 0) rfl (by decide +kernel)), ?_⟩
  refine List.forall_mem_cons.mpr ⟨ae_mk pu_get (fun X => ok_get X (ci := 5) (kk := 7) (index := 32) rfl aw_c_Port (by decide) wd_613 (by decide +kernel)), ?_⟩
  refine List.forall_mem_cons.mpr ⟨ae_mk (pu_push (fun _ => trivial)) (fun X => ok_iconst X (n := 0) (by decide) (by decide +kernel)), ?_⟩
  refine List.forall_mem_cons.mpr ⟨ae_mk pu_put (fun X => ok_putN X (ci := 0) (kk := 1) (index := 78) rfl aw_c_Datagram (by decide) wd_100 cy_Datagram cn_Datagram_ty cn_Datagram_nm rfl hk_int rfl (by decide +kernel)), ?_⟩
  refine List.forall_mem_cons.mpr ⟨ae_mk pu_al (fun X => ok_aload_n X (k := 0) rfl (by decide +kernel)), ?_⟩
  refine List.forall_mem_cons.mpr ⟨ae_mk pu_al (fun X => ok_aload_n X (k := 1) rfl (by decide +kernel)), ?_⟩
  refine List.forall_mem_cons.mpr ⟨ae_mkc (fun X => ok_callV X (mid := 49) (index := 75) (y := my_49) rfl (by decide) ⟨by decide, by decide⟩ (n := 0) (by decide +kernel) wd_373 wd_47 wd_370 wd_371 wd_372 (ci := 2) rfl (by decide +kernel)), ?_⟩
  refine List.forall_mem_cons.mpr ⟨ae_mk pu_put (fun X => ok_put X (ci := 5) (kk := 6) (index := 26) rfl aw_c_Port (by decide) wd_612 cy_Port cn_Port_ty cn_Port_nm rfl hk_int rfl (by decide +kernel)), ?_⟩
  refine List.forall_mem_cons.mpr ⟨ae_mk pu_al (fun X => ok_aload_n X (k := 0) rfl (by decide +kernel)), ?_⟩
  refine List.forall_mem_cons.mpr ⟨ae_mk pu_get (fun X => ok_get X (ci := 5) (kk := 7) (index := 32) rfl aw_c_Port (by decide) wd_613 (by decide +kernel)), ?_⟩
  refine List.forall_mem_cons.mpr ⟨ae_mk pu_al (fun X => ok_aload_n X (k := 1) rfl (by decide +kernel)), ?_⟩
  refine List.forall_mem_cons.mpr ⟨ae_mk pu_il (fun X => ok_iload X (by decide +kernel)), ?_⟩
  refine List.forall_mem_cons.mpr ⟨ae_mkc (fun X => ok_callV X (mid := 50) (index := 81) (y := my_50) rfl (by decide) ⟨by decide, by decide⟩ (n := 2) (by decide +kernel) wd_377 wd_48 wd_374 wd_375 wd_376 (ci := 0) rfl (by decide +kernel)), ?_⟩
  refine List.forall_mem_cons.mpr ⟨ae_mk pu_al (fun X => ok_aload_n X (k := 1) rfl (by decide +kernel)), ?_⟩
  refine List.forall_mem_cons.mpr ⟨ae_mkc (fun X => ok_callV X (mid := 51) (index := 85) (y := my_51) rfl (by decide) ⟨by decide, by decide⟩ (n := 0) (by decide +kernel) wd_382 wd_47 wd_379 wd_380 wd_381 (ci := 2) rfl (by decide +kernel)), ?_⟩
  refine List.forall_mem_cons.mpr ⟨ae_mk pu_if (fun X => ok_if_eq X (off := 5) (by decide) (by decide +kernel)), ?_⟩
  refine List.forall_mem_cons.mpr ⟨ae_mk (pu_push (fun _ => trivial)) (fun X => ok_iconst X (n := (-1)) (by decide) (by decide +kernel)), ?_⟩
  refine List.forall_mem_cons.mpr ⟨Or.inl ⟨rfl, (by decide +kernel), rt_int⟩, ?_⟩
  refine List.forall_mem_cons.mpr ⟨ae_mk pu_al (fun X => ok_aload_n X (k := 0) rfl (by decide +kernel)), ?_⟩
  refine List.forall_mem_cons.mpr ⟨ae_mk (pu_push (fun _ => trivial)) (fun X => ok_iconst X (n := 0) (by decide) (by decide +kernel)), ?_⟩
  refine List.forall_mem_cons.mpr ⟨ae_mk pu_put (fun X => ok_put X (ci := 5) (kk := 5) (index := 22) rfl aw_c_Port (by decide) wd_611 cy_Port cn_Port_ty cn_Port_nm rfl hk_bool rfl (by decide +kernel)), ?_⟩
  refine List.forall_mem_cons.mpr ⟨ae_mk pu_al (fun X => ok_aload_n X (k := 0) rfl (by decide +kernel)), ?_⟩
  refine List.forall_mem_cons.mpr ⟨ae_mk pu_get (fun X => ok_get X (ci := 5) (kk := 7) (index := 32) rfl aw_c_Port (by decide) wd_613 (by decide +kernel)), ?_⟩
  refine List.forall_mem_cons.mpr ⟨ae_mkc (fun X => ok_callV X (mid := 52) (index := 89) (y := my_52) rfl (by decide) ⟨by decide, by decide⟩ (n := 0) (by decide +kernel) wd_386 wd_48 wd_383 wd_384 wd_385 (ci := 0) rfl (by decide +kernel)), ?_⟩
  refine List.forall_mem_cons.mpr ⟨ae_mk pu_if (fun X => ok_if_eq X (off := 11) (by decide) (by decide +kernel)), ?_⟩
  refine List.forall_mem_cons.mpr ⟨ae_mk pu_al (fun X => ok_aload_n X (k := 0) rfl (by decide +kernel)), ?_⟩
  refine List.forall_mem_cons.mpr ⟨ae_mk pu_il (fun X => ok_iload_n X (k := 2) rfl (by decide +kernel)), ?_⟩
  refine List.forall_mem_cons.mpr ⟨ae_mkc (fun X => ok_callV X (mid := 54) (index := 92) (y := my_54) rfl (by decide) ⟨by decide, by decide⟩ (n := 1) (by decide +kernel) wd_394 wd_58 wd_391 wd_393 wd_12 (ci := 5) rfl (by decide +kernel)), ?_⟩
  refine List.forall_mem_cons.mpr ⟨ae_mk pu_goto (fun X => ok_goto X (off := 5) (by decide) (by decide +kernel)), ?_⟩
  refine List.forall_mem_cons.mpr ⟨ae_mk (pu_push (fun _ => trivial)) (fun X => ok_bipush X (n := 10) (by decide) (by decide +kernel)), ?_⟩
  refine List.forall_mem_cons.mpr ⟨Or.inl ⟨rfl, (by decide +kernel), rt_int⟩, ?_⟩
  exact fun _ h => absurd h List.not_mem_nil
def tb_48 : List (Nat × ae_I) := [(0, .inl (o_al 0 1)),
  (1, .inl (o_push (.int 21) 3)),
  (3, .inr (.inr (.inl (35, 2, 6, some 2, [])))),
  (6, .inl (o_push (.int 8) 8)),
  (8, .inl (o_bin (fun x y => x * y) 9)),
  (9, .inr (.inl (some k_int)))]
theorem te_48 : ∀ q ∈ tb_48, ae_E am "TwinNetwork$Frame" "place" prog_4_method_15_code 1 (Option.some Jvm.ClassFile.FieldType.int) [] q := by
  unfold tb_48
  refine List.forall_mem_cons.mpr ⟨ae_mk pu_al (fun X => ok_aload_n X (k := 0) rfl (by decide +kernel)), ?_⟩
  refine List.forall_mem_cons.mpr ⟨ae_mk (pu_push (fun _ => trivial)) (fun X => ok_bipush X (n := 21) (by decide) (by decide +kernel)), ?_⟩
  refine List.forall_mem_cons.mpr ⟨ae_mkc (fun X => ok_callV X (mid := 35) (index := 48) (y := my_35) rfl (by decide) ⟨by decide, by decide⟩ (n := 1) (by decide +kernel) wd_317 wd_47 wd_314 wd_315 wd_316 (ci := 2) rfl (by decide +kernel)), ?_⟩
  refine List.forall_mem_cons.mpr ⟨ae_mk (pu_push (fun _ => trivial)) (fun X => ok_bipush X (n := 8) (by decide) (by decide +kernel)), ?_⟩
  refine List.forall_mem_cons.mpr ⟨ae_mk pu_bin (fun X => ok_imul X (by decide +kernel)), ?_⟩
  refine List.forall_mem_cons.mpr ⟨Or.inl ⟨rfl, (by decide +kernel), rt_int⟩, ?_⟩
  exact fun _ h => absurd h List.not_mem_nil
def tb_49 : List (Nat × ae_I) := [(0, .inl (o_al 0 1)),
  (1, .inl (o_push (.int 18) 3)),
  (3, .inr (.inr (.inl (23, 2, 6, some 2, [])))),
  (6, .inr (.inl (some k_int)))]
theorem te_49 : ∀ q ∈ tb_49, ae_E am "TwinNetwork$Frame" "messageNumber" prog_4_method_13_code 1 (Option.some Jvm.ClassFile.FieldType.int) [] q := by
  unfold tb_49
  refine List.forall_mem_cons.mpr ⟨ae_mk pu_al (fun X => ok_aload_n X (k := 0) rfl (by decide +kernel)), ?_⟩
  refine List.forall_mem_cons.mpr ⟨ae_mk (pu_push (fun _ => trivial)) (fun X => ok_bipush X (n := 18) (by decide) (by decide +kernel)), ?_⟩
  refine List.forall_mem_cons.mpr ⟨ae_mkc (fun X => ok_callV X (mid := 23) (index := 52) (y := my_23) rfl (by decide) ⟨by decide, by decide⟩ (n := 1) (by decide +kernel) wd_261 wd_47 wd_258 wd_259 wd_260 (ci := 2) rfl (by decide +kernel)), ?_⟩
  refine List.forall_mem_cons.mpr ⟨Or.inl ⟨rfl, (by decide +kernel), rt_int⟩, ?_⟩
  exact fun _ h => absurd h List.not_mem_nil
def tb_50 : List (Nat × ae_I) := [(0, .inl (o_push (.int 0) 1)),
  (1, .inl (o_is 3 2)),
  (2, .inl (o_il 3 3)),
  (3, .inl (o_il 2 4)),
  (4, .inl (o_ic (fun x y => decide (y ≤ x)) 51 7)),
  (7, .inl (o_al 0 8)),
  (8, .inl (o_get 0 1 11)),
  (11, .inl (o_push (.int 1000) 14)),
  (14, .inl (o_ic (fun x y => decide (y ≤ x)) 51 17)),
  (17, .inl (o_al 0 18)),
  (18, .inl (o_get 0 0 21)),
  (21, .inl (o_al 0 22)),
  (22, .inl (o_get 0 1 25)),
  (25, .inl (o_al 1 26)),
  (26, .inl (o_push (.int 34) 28)),
  (28, .inl (o_il 3 29)),
  (29, .inl (o_bin (fun x y => x + y) 30)),
  (30, .inr (.inr (.inl (35, 2, 33, some 2, [])))),
  (33, .inl (o_un (fun x => x.toInt8.toInt32) 34)),
  (34, .inl (o_bas 35)),
  (35, .inl (o_al 0 36)),
  (36, .inl (o_dup 37)),
  (37, .inl (o_get 0 1 40)),
  (40, .inl (o_push (.int 1) 41)),
  (41, .inl (o_bin (fun x y => x + y) 42)),
  (42, .inl (o_put 0 1 k_int 45)),
  (45, .inl (o_inc 3 1 48)),
  (48, .inl (o_goto 2)),
  (51, .inr (.inl none))]
theorem te_50 : ∀ q ∈ tb_50, ae_E am "TwinNetwork$Datagram" "append" prog_2_method_4_code 4 (Option.none : Option Jvm.ClassFile.FieldType) [] q := by
  unfold tb_50
  refine List.forall_mem_cons.mpr ⟨ae_mk (pu_push (fun _ => trivial)) (fun X => ok_iconst X (n := 0) (by decide) (by decide +kernel)), ?_⟩
  refine List.forall_mem_cons.mpr ⟨ae_mk pu_is (fun X => ok_istore_n X (k := 3) rfl (by decide +kernel)), ?_⟩
  refine List.forall_mem_cons.mpr ⟨ae_mk pu_il (fun X => ok_iload_n X (k := 3) rfl (by decide +kernel)), ?_⟩
  refine List.forall_mem_cons.mpr ⟨ae_mk pu_il (fun X => ok_iload_n X (k := 2) rfl (by decide +kernel)), ?_⟩
  refine List.forall_mem_cons.mpr ⟨ae_mk pu_ic (fun X => ok_ic_ge X (off := 47) (by decide) (by decide +kernel)), ?_⟩
  refine List.forall_mem_cons.mpr ⟨ae_mk pu_al (fun X => ok_aload_n X (k := 0) rfl (by decide +kernel)), ?_⟩
  refine List.forall_mem_cons.mpr ⟨ae_mk pu_get (fun X => ok_get X (ci := 0) (kk := 1) (index := 15) rfl aw_c_Datagram (by decide) wd_98 (by decide +kernel)), ?_⟩
  refine List.forall_mem_cons.mpr ⟨ae_mk (pu_push (fun _ => trivial)) (fun X => ok_sipush X (n := 1000) (by decide) (by decide +kernel)), ?_⟩
  refine List.forall_mem_cons.mpr ⟨ae_mk pu_ic (fun X => ok_ic_ge X (off := 37) (by decide) (by decide +kernel)), ?_⟩
  refine List.forall_mem_cons.mpr ⟨ae_mk pu_al (fun X => ok_aload_n X (k := 0) rfl (by decide +kernel)), ?_⟩
  refine List.forall_mem_cons.mpr ⟨ae_mk pu_get (fun X => ok_get X (ci := 0) (kk := 0) (index := 9) rfl aw_c_Datagram (by decide) wd_97 (by decide +kernel)), ?_⟩
  refine List.forall_mem_cons.mpr ⟨ae_mk pu_al (fun X => ok_aload_n X (k := 0) rfl (by decide +kernel)), ?_⟩
  refine List.forall_mem_cons.mpr ⟨ae_mk pu_get (fun X => ok_get X (ci := 0) (kk := 1) (index := 15) rfl aw_c_Datagram (by decide) wd_98 (by decide +kernel)), ?_⟩
  refine List.forall_mem_cons.mpr ⟨ae_mk pu_al (fun X => ok_aload_n X (k := 1) rfl (by decide +kernel)), ?_⟩
  refine List.forall_mem_cons.mpr ⟨ae_mk (pu_push (fun _ => trivial)) (fun X => ok_bipush X (n := 34) (by decide) (by decide +kernel)), ?_⟩
  refine List.forall_mem_cons.mpr ⟨ae_mk pu_il (fun X => ok_iload_n X (k := 3) rfl (by decide +kernel)), ?_⟩
  refine List.forall_mem_cons.mpr ⟨ae_mk pu_bin (fun X => ok_iadd X (by decide +kernel)), ?_⟩
  refine List.forall_mem_cons.mpr ⟨ae_mkc (fun X => ok_callV X (mid := 35) (index := 25) (y := my_35) rfl (by decide) ⟨by decide, by decide⟩ (n := 1) (by decide +kernel) wd_317 wd_47 wd_378 wd_315 wd_316 (ci := 2) rfl (by decide +kernel)), ?_⟩
  refine List.forall_mem_cons.mpr ⟨ae_mk pu_un (fun X => ok_i2b X (by decide +kernel)), ?_⟩
  refine List.forall_mem_cons.mpr ⟨ae_mk pu_bas (fun X => ok_bas X (by decide +kernel)), ?_⟩
  refine List.forall_mem_cons.mpr ⟨ae_mk pu_al (fun X => ok_aload_n X (k := 0) rfl (by decide +kernel)), ?_⟩
  refine List.forall_mem_cons.mpr ⟨ae_mk pu_dup (fun X => ok_dup X (by decide +kernel)), ?_⟩
  refine List.forall_mem_cons.mpr ⟨ae_mk pu_get (fun X => ok_get X (ci := 0) (kk := 1) (index := 15) rfl aw_c_Datagram (by decide) wd_98 (by decide +kernel)), ?_⟩
  refine List.forall_mem_cons.mpr ⟨ae_mk (pu_push (fun _ => trivial)) (fun X => ok_iconst X (n := 1) (by decide) (by decide +kernel)), ?_⟩
  refine List.forall_mem_cons.mpr ⟨ae_mk pu_bin (fun X => ok_iadd X (by decide +kernel)), ?_⟩
  refine List.forall_mem_cons.mpr ⟨ae_mk pu_put (fun X => ok_put X (ci := 0) (kk := 1) (index := 15) rfl aw_c_Datagram (by decide) wd_98 cy_Datagram cn_Datagram_ty cn_Datagram_nm rfl hk_int rfl (by decide +kernel)), ?_⟩
  refine List.forall_mem_cons.mpr ⟨ae_mk pu_inc (fun X => ok_iinc X (n := 1) (by decide) (by decide +kernel)), ?_⟩
  refine List.forall_mem_cons.mpr ⟨ae_mk pu_goto (fun X => ok_goto X (off := (-46)) (by decide) (by decide +kernel)), ?_⟩
  refine List.forall_mem_cons.mpr ⟨⟨rfl, (by decide +kernel)⟩, ?_⟩
  exact fun _ h => absurd h List.not_mem_nil
def tb_51 : List (Nat × ae_I) := [(0, .inl (o_al 0 1)),
  (1, .inl (o_push (.int 20) 3)),
  (3, .inr (.inr (.inl (35, 2, 6, some 2, [])))),
  (6, .inl (o_push (.int 32) 8)),
  (8, .inl (o_bin (fun x y => x &&& y) 9)),
  (9, .inl (o_if (fun x => decide (x = 0)) 16 12)),
  (12, .inl (o_push (.int 1) 13)),
  (13, .inl (o_goto 17)),
  (16, .inl (o_push (.int 0) 17)),
  (17, .inr (.inl (some k_bool)))]
theorem te_51 : ∀ q ∈ tb_51, ae_E am "TwinNetwork$Frame" "moreFollow" prog_4_method_14_code 1 (Option.some Jvm.ClassFile.FieldType.boolean) [] q := by
  unfold tb_51
  refine List.forall_mem_cons.mpr ⟨ae_mk pu_al (fun X => ok_aload_n X (k := 0) rfl (by decide +kernel)), ?_⟩
  refine List.forall_mem_cons.mpr ⟨ae_mk (pu_push (fun _ => trivial)) (fun X => ok_bipush X (n := 20) (by decide) (by decide +kernel)), ?_⟩
  refine List.forall_mem_cons.mpr ⟨ae_mkc (fun X => ok_callV X (mid := 35) (index := 48) (y := my_35) rfl (by decide) ⟨by decide, by decide⟩ (n := 1) (by decide +kernel) wd_317 wd_47 wd_314 wd_315 wd_316 (ci := 2) rfl (by decide +kernel)), ?_⟩
  refine List.forall_mem_cons.mpr ⟨ae_mk (pu_push (fun _ => trivial)) (fun X => ok_bipush X (n := 32) (by decide) (by decide +kernel)), ?_⟩
  refine List.forall_mem_cons.mpr ⟨ae_mk pu_bin (fun X => ok_iand X (by decide +kernel)), ?_⟩
  refine List.forall_mem_cons.mpr ⟨ae_mk pu_if (fun X => ok_if_eq X (off := 7) (by decide) (by decide +kernel)), ?_⟩
  refine List.forall_mem_cons.mpr ⟨ae_mk (pu_push (fun _ => trivial)) (fun X => ok_iconst X (n := 1) (by decide) (by decide +kernel)), ?_⟩
  refine List.forall_mem_cons.mpr ⟨ae_mk pu_goto (fun X => ok_goto X (off := 4) (by decide) (by decide +kernel)), ?_⟩
  refine List.forall_mem_cons.mpr ⟨ae_mk (pu_push (fun _ => trivial)) (fun X => ok_iconst X (n := 0) (by decide) (by decide +kernel)), ?_⟩
  refine List.forall_mem_cons.mpr ⟨Or.inr (Or.inl ⟨rfl, (by decide +kernel), rt_bool⟩), ?_⟩
  exact fun _ h => absurd h List.not_mem_nil
def tb_52 : List (Nat × ae_I) := [(0, .inl (o_al 0 1)),
  (1, .inl (o_get 0 1 4)),
  (4, .inl (o_push (.int 8) 6)),
  (6, .inl (o_ic (fun x y => decide (x < y)) 34 9)),
  (9, .inl (o_al 0 10)),
  (10, .inl (o_push (.int 4) 11)),
  (11, .inr (.inr (.inl (53, 2, 14, some 0, [])))),
  (14, .inl (o_push (.int 8) 16)),
  (16, .inl (o_bin (fun x y => x <<< (y &&& 31)) 17)),
  (17, .inl (o_al 0 18)),
  (18, .inl (o_push (.int 5) 19)),
  (19, .inr (.inr (.inl (53, 2, 22, some 0, [])))),
  (22, .inl (o_bin (fun x y => x ||| y) 23)),
  (23, .inl (o_al 0 24)),
  (24, .inl (o_get 0 1 27)),
  (27, .inl (o_ic (fun x y => decide (¬ x = y)) 34 30)),
  (30, .inl (o_push (.int 1) 31)),
  (31, .inl (o_goto 35)),
  (34, .inl (o_push (.int 0) 35)),
  (35, .inr (.inl (some k_bool)))]
theorem te_52 : ∀ q ∈ tb_52, ae_E am "TwinNetwork$Datagram" "isWhole" prog_2_method_5_code 1 (Option.some Jvm.ClassFile.FieldType.boolean) [] q := by
  unfold tb_52
  refine List.forall_mem_cons.mpr ⟨ae_mk pu_al (fun X => ok_aload_n X (k := 0) rfl (by decide +kernel)), ?_⟩
  refine List.forall_mem_cons.mpr ⟨ae_mk pu_get (fun X => ok_get X (ci := 0) (kk := 1) (index := 15) rfl aw_c_Datagram (by decide) wd_98 (by decide +kernel)), ?_⟩
  refine List.forall_mem_cons.mpr ⟨ae_mk (pu_push (fun _ => trivial)) (fun X => ok_bipush X (n := 8) (by decide) (by decide +kernel)), ?_⟩
  refine List.forall_mem_cons.mpr ⟨ae_mk pu_ic (fun X => ok_ic_lt X (off := 28) (by decide) (by decide +kernel)), ?_⟩
  refine List.forall_mem_cons.mpr ⟨ae_mk pu_al (fun X => ok_aload_n X (k := 0) rfl (by decide +kernel)), ?_⟩
  refine List.forall_mem_cons.mpr ⟨ae_mk (pu_push (fun _ => trivial)) (fun X => ok_iconst X (n := 4) (by decide) (by decide +kernel)), ?_⟩
  refine List.forall_mem_cons.mpr ⟨ae_mkc (fun X => ok_callV X (mid := 53) (index := 31) (y := my_53) rfl (by decide) ⟨by decide, by decide⟩ (n := 1) (by decide +kernel) wd_390 wd_48 wd_387 wd_388 wd_389 (ci := 0) rfl (by decide +kernel)), ?_⟩
  refine List.forall_mem_cons.mpr ⟨ae_mk (pu_push (fun _ => trivial)) (fun X => ok_bipush X (n := 8) (by decide) (by decide +kernel)), ?_⟩
  refine List.forall_mem_cons.mpr ⟨ae_mk pu_bin (fun X => ok_ishl X (by decide +kernel)), ?_⟩
  refine List.forall_mem_cons.mpr ⟨ae_mk pu_al (fun X => ok_aload_n X (k := 0) rfl (by decide +kernel)), ?_⟩
  refine List.forall_mem_cons.mpr ⟨ae_mk (pu_push (fun _ => trivial)) (fun X => ok_iconst X (n := 5) (by decide) (by decide +kernel)), ?_⟩
  refine List.forall_mem_cons.mpr ⟨ae_mkc (fun X => ok_callV X (mid := 53) (index := 31) (y := my_53) rfl (by decide) ⟨by decide, by decide⟩ (n := 1) (by decide +kernel) wd_390 wd_48 wd_387 wd_388 wd_389 (ci := 0) rfl (by decide +kernel)), ?_⟩
  refine List.forall_mem_cons.mpr ⟨ae_mk pu_bin (fun X => ok_ior X (by decide +kernel)), ?_⟩
  refine List.forall_mem_cons.mpr ⟨ae_mk pu_al (fun X => ok_aload_n X (k := 0) rfl (by decide +kernel)), ?_⟩
  refine List.forall_mem_cons.mpr ⟨ae_mk pu_get (fun X => ok_get X (ci := 0) (kk := 1) (index := 15) rfl aw_c_Datagram (by decide) wd_98 (by decide +kernel)), ?_⟩
  refine List.forall_mem_cons.mpr ⟨ae_mk pu_ic (fun X => ok_ic_ne X (off := 7) (by decide) (by decide +kernel)), ?_⟩
  refine List.forall_mem_cons.mpr ⟨ae_mk (pu_push (fun _ => trivial)) (fun X => ok_iconst X (n := 1) (by decide) (by decide +kernel)), ?_⟩
  refine List.forall_mem_cons.mpr ⟨ae_mk pu_goto (fun X => ok_goto X (off := 4) (by decide) (by decide +kernel)), ?_⟩
  refine List.forall_mem_cons.mpr ⟨ae_mk (pu_push (fun _ => trivial)) (fun X => ok_iconst X (n := 0) (by decide) (by decide +kernel)), ?_⟩
  refine List.forall_mem_cons.mpr ⟨Or.inr (Or.inl ⟨rfl, (by decide +kernel), rt_bool⟩), ?_⟩
  exact fun _ h => absurd h List.not_mem_nil
def tb_53 : List (Nat × ae_I) := [(0, .inl (o_il 1 1)),
  (1, .inl (o_if (fun x => decide (x < 0)) 25 4)),
  (4, .inl (o_il 1 5)),
  (5, .inl (o_al 0 6)),
  (6, .inl (o_get 0 1 9)),
  (9, .inl (o_ic (fun x y => decide (y ≤ x)) 25 12)),
  (12, .inl (o_al 0 13)),
  (13, .inl (o_get 0 0 16)),
  (16, .inl (o_il 1 17)),
  (17, .inl (o_ba 18)),
  (18, .inl (o_push (.int 255) 21)),
  (21, .inl (o_bin (fun x y => x &&& y) 22)),
  (22, .inl (o_goto 26)),
  (25, .inl (o_push (.int (-1)) 26)),
  (26, .inr (.inl (some k_int)))]
theorem te_53 : ∀ q ∈ tb_53, ae_E am "TwinNetwork$Datagram" "at" prog_2_method_2_code 2 (Option.some Jvm.ClassFile.FieldType.int) [] q := by
  unfold tb_53
  refine List.forall_mem_cons.mpr ⟨ae_mk pu_il (fun X => ok_iload_n X (k := 1) rfl (by decide +kernel)), ?_⟩
  refine List.forall_mem_cons.mpr ⟨ae_mk pu_if (fun X => ok_if_lt X (off := 24) (by decide) (by decide +kernel)), ?_⟩
  refine List.forall_mem_cons.mpr ⟨ae_mk pu_il (fun X => ok_iload_n X (k := 1) rfl (by decide +kernel)), ?_⟩
  refine List.forall_mem_cons.mpr ⟨ae_mk pu_al (fun X => ok_aload_n X (k := 0) rfl (by decide +kernel)), ?_⟩
  refine List.forall_mem_cons.mpr ⟨ae_mk pu_get (fun X => ok_get X (ci := 0) (kk := 1) (index := 15) rfl aw_c_Datagram (by decide) wd_98 (by decide +kernel)), ?_⟩
  refine List.forall_mem_cons.mpr ⟨ae_mk pu_ic (fun X => ok_ic_ge X (off := 16) (by decide) (by decide +kernel)), ?_⟩
  refine List.forall_mem_cons.mpr ⟨ae_mk pu_al (fun X => ok_aload_n X (k := 0) rfl (by decide +kernel)), ?_⟩
  refine List.forall_mem_cons.mpr ⟨ae_mk pu_get (fun X => ok_get X (ci := 0) (kk := 0) (index := 9) rfl aw_c_Datagram (by decide) wd_97 (by decide +kernel)), ?_⟩
  refine List.forall_mem_cons.mpr ⟨ae_mk pu_il (fun X => ok_iload_n X (k := 1) rfl (by decide +kernel)), ?_⟩
  refine List.forall_mem_cons.mpr ⟨ae_mk pu_ba (fun X => ok_ba X (by decide +kernel)), ?_⟩
  refine List.forall_mem_cons.mpr ⟨ae_mk (pu_push (fun _ => trivial)) (fun X => ok_sipush X (n := 255) (by decide) (by decide +kernel)), ?_⟩
  refine List.forall_mem_cons.mpr ⟨ae_mk pu_bin (fun X => ok_iand X (by decide +kernel)), ?_⟩
  refine List.forall_mem_cons.mpr ⟨ae_mk pu_goto (fun X => ok_goto X (off := 4) (by decide) (by decide +kernel)), ?_⟩
  refine List.forall_mem_cons.mpr ⟨ae_mk (pu_push (fun _ => trivial)) (fun X => ok_iconst X (n := (-1)) (by decide) (by decide +kernel)), ?_⟩
  refine List.forall_mem_cons.mpr ⟨Or.inl ⟨rfl, (by decide +kernel), rt_int⟩, ?_⟩
  exact fun _ h => absurd h List.not_mem_nil
def tb_54 : List (Nat × ae_I) := [(0, .inl (o_al 0 1)),
  (1, .inl (o_get 5 0 4)),
  (4, .inl (o_if (fun x => decide (x = 0)) 22 7)),
  (7, .inl (o_al 0 8)),
  (8, .inl (o_get 5 10 11)),
  (11, .inl (o_al 0 12)),
  (12, .inl (o_get 5 8 15)),
  (15, .inl (o_len 16)),
  (16, .inl (o_ic (fun x y => decide (x < y)) 22 19)),
  (19, .inl (o_push (.int 11) 21)),
  (21, .inr (.inl (some k_int))),
  (22, .inl (o_al 0 23)),
  (23, .inl (o_get 5 0 26)),
  (26, .inl (o_if (fun x => decide (x = 0)) 43 29)),
  (29, .inl (o_al 0 30)),
  (30, .inl (o_get 5 9 33)),
  (33, .inl (o_al 0 34)),
  (34, .inl (o_get 5 10 37)),
  (37, .inl (o_bin (fun x y => x + y) 38)),
  (38, .inl (o_push (.int 4) 39)),
  (39, .inl (o_dv (fun x y => x - x / y * y) 40)),
  (40, .inl (o_goto 44)),
  (43, .inl (o_push (.int 0) 44)),
  (44, .inl (o_is 2 45)),
  (45, .inl (o_al 0 46)),
  (46, .inl (o_get 5 8 49)),
  (49, .inl (o_il 2 50)),
  (50, .inl (o_aa 51)),
  (51, .inl (o_nul 54 64)),
  (54, .inl (o_new 0 2 cd_Datagram 57)),
  (57, .inl (o_dup 58)),
  (58, .inr (.inr (.inl (3, 1, 61, some 0, [])))),
  (61, .inl (o_goto 70)),
  (64, .inl (o_al 0 65)),
  (65, .inl (o_get 5 8 68)),
  (68, .inl (o_il 2 69)),
  (69, .inl (o_aa 70)),
  (70, .inl (o_as 3 71)),
  (71, .inl (o_al 0 72)),
  (72, .inl (o_get 5 8 75)),
  (75, .inl (o_il 2 76)),
  (76, .inl (o_al 0 77)),
  (77, .inl (o_get 5 7 80)),
  (80, .inl (o_aas 81)),
  (81, .inl (o_al 0 82)),
  (82, .inl (o_al 3 83)),
  (83, .inl (o_put 5 7 k_ref 86)),
  (86, .inl (o_al 0 87)),
  (87, .inl (o_al 0 88)),
  (88, .inl (o_get 5 0 91)),
  (91, .inl (o_if (fun x => decide (x = 0)) 103 94)),
  (94, .inl (o_al 0 95)),
  (95, .inl (o_get 5 10 98)),
  (98, .inl (o_push (.int 1) 99)),
  (99, .inl (o_bin (fun x y => x + y) 100)),
  (100, .inl (o_goto 104)),
  (103, .inl (o_push (.int 1) 104)),
  (104, .inl (o_put 5 10 k_int 107)),
  (107, .inl (o_al 0 108)),
  (108, .inl (o_il 1 109)),
  (109, .inl (o_put 5 11 k_int 112)),
  (112, .inl (o_push (.int (-1)) 113)),
  (113, .inr (.inl (some k_int)))]
theorem te_54 : ∀ q ∈ tb_54, ae_E am "TwinNetwork$Port" "keepBegun" prog_7_method_7_code 4 (Option.some Jvm.ClassFile.FieldType.int) [] q := by
  unfold tb_54
  refine List.forall_mem_cons.mpr ⟨ae_mk pu_al (fun X => ok_aload_n X (k := 0) rfl (by decide +kernel)), ?_⟩
  refine List.forall_mem_cons.mpr ⟨ae_mk pu_get (fun X => ok_get X (ci := 5) (kk := 0) (index := 45) rfl aw_c_Port (by decide) wd_606 (by decide +kernel)), ?_⟩
  refine List.forall_mem_cons.mpr ⟨ae_mk pu_if (fun X => ok_if_eq X (off := 18) (by decide) (by decide +kernel)), ?_⟩
  refine List.forall_mem_cons.mpr ⟨ae_mk pu_al (fun X => ok_aload_n X (k := 0) rfl (by decide +kernel)), ?_⟩
  refine List.forall_mem_cons.mpr ⟨ae_mk pu_get (fun X => ok_get X (ci := 5) (kk := 10) (index := 39) rfl aw_c_Port (by decide) wd_616 (by decide +kernel)), ?_⟩
  refine List.forall_mem_cons.mpr ⟨ae_mk pu_al (fun X => ok_aload_n X (k := 0) rfl (by decide +kernel)), ?_⟩
  refine List.forall_mem_cons.mpr ⟨ae_mk pu_get (fun X => ok_get X (ci := 5) (kk := 8) (index := 51) rfl aw_c_Port (by decide) wd_614 (by decide +kernel)), ?_⟩
  refine List.forall_mem_cons.mpr ⟨ae_mk pu_len (fun X => ok_len X (by decide +kernel)), ?_⟩
  refine List.forall_mem_cons.mpr ⟨ae_mk pu_ic (fun X => ok_ic_lt X (off := 6) (by decide) (by decide +kernel)), ?_⟩
  refine List.forall_mem_cons.mpr ⟨ae_mk (pu_push (fun _ => trivial)) (fun X => ok_bipush X (n := 11) (by decide) (by decide +kernel)), ?_⟩
  refine List.forall_mem_cons.mpr ⟨Or.inl ⟨rfl, (by decide +kernel), rt_int⟩, ?_⟩
  refine List.forall_mem_cons.mpr ⟨ae_mk pu_al (fun X => ok_aload_n X (k := 0) rfl (by decide +kernel)), ?_⟩
  refine List.forall_mem_cons.mpr ⟨ae_mk pu_get (fun X => ok_get X (ci := 5) (kk := 0) (index := 45) rfl aw_c_Port (by decide) wd_606 (by decide +kernel)), ?_⟩
  refine List.forall_mem_cons.mpr ⟨ae_mk pu_if (fun X => ok_if_eq X (off := 17) (by decide) (by decide +kernel)), ?_⟩
  refine List.forall_mem_cons.mpr ⟨ae_mk pu_al (fun X => ok_aload_n X (k := 0) rfl (by decide +kernel)), ?_⟩
  refine List.forall_mem_cons.mpr ⟨ae_mk pu_get (fun X => ok_get X (ci := 5) (kk := 9) (index := 36) rfl aw_c_Port (by decide) wd_615 (by decide +kernel)), ?_⟩
  refine List.forall_mem_cons.mpr ⟨ae_mk pu_al (fun X => ok_aload_n X (k := 0) rfl (by decide +kernel)), ?_⟩
  refine List.forall_mem_cons.mpr ⟨ae_mk pu_get (fun X => ok_get X (ci := 5) (kk := 10) (index := 39) rfl aw_c_Port (by decide) wd_616 (by decide +kernel)), ?_⟩
  refine List.forall_mem_cons.mpr ⟨ae_mk pu_bin (fun X => ok_iadd X (by decide +kernel)), ?_⟩
  refine List.forall_mem_cons.mpr ⟨ae_mk (pu_push (fun _ => trivial)) (fun X => ok_iconst X (n := 4) (by decide) (by decide +kernel)), ?_⟩
  refine List.forall_mem_cons.mpr ⟨ae_mk pu_dv (fun X => ok_irem X (by decide +kernel)), ?_⟩
  refine List.forall_mem_cons.mpr ⟨ae_mk pu_goto (fun X => ok_goto X (off := 4) (by decide) (by decide +kernel)), ?_⟩
  refine List.forall_mem_cons.mpr ⟨ae_mk (pu_push (fun _ => trivial)) (fun X => ok_iconst X (n := 0) (by decide) (by decide +kernel)), ?_⟩
  refine List.forall_mem_cons.mpr ⟨ae_mk pu_is (fun X => ok_istore_n X (k := 2) rfl (by decide +kernel)), ?_⟩
  refine List.forall_mem_cons.mpr ⟨ae_mk pu_al (fun X => ok_aload_n X (k := 0) rfl (by decide +kernel)), ?_⟩
  refine List.forall_mem_cons.mpr ⟨ae_mk pu_get (fun X => ok_get X (ci := 5) (kk := 8) (index := 51) rfl aw_c_Port (by decide) wd_614 (by decide +kernel)), ?_⟩
  refine List.forall_mem_cons.mpr ⟨ae_mk pu_il (fun X => ok_iload_n X (k := 2) rfl (by decide +kernel)), ?_⟩
  refine List.forall_mem_cons.mpr ⟨ae_mk pu_aa (fun X => ok_aa X (by decide +kernel)), ?_⟩
  refine List.forall_mem_cons.mpr ⟨ae_mk pu_nul (fun X => ok_ifnonnull X (off := 13) (by decide) (by decide +kernel)), ?_⟩
  refine List.forall_mem_cons.mpr ⟨ae_mk (pu_new cd_Datagram_cv) (fun X => ok_new X (ci := 0) (index := 29) (fs := cd_Datagram) rfl aw_c_Datagram cy_Datagram cn_Datagram_ty wd_395 wd_92 wd_48 cd_Datagram_v (fun _ _ => rfl) cd_Datagram_cv (by decide +kernel)), ?_⟩
  refine List.forall_mem_cons.mpr ⟨ae_mk pu_dup (fun X => ok_dup X (by decide +kernel)), ?_⟩
  refine List.forall_mem_cons.mpr ⟨ae_mkc (fun X => ok_callIN X (mid := 3) (index := 31) (y := my_3) rfl (by decide) ⟨by decide, by decide⟩ (n := 0) (by decide +kernel) wd_95 wd_48 wd_396 wd_94 rfl rfl (ci := 0) (by decide +kernel)), ?_⟩
  refine List.forall_mem_cons.mpr ⟨ae_mk pu_goto (fun X => ok_goto X (off := 9) (by decide) (by decide +kernel)), ?_⟩
  refine List.forall_mem_cons.mpr ⟨ae_mk pu_al (fun X => ok_aload_n X (k := 0) rfl (by decide +kernel)), ?_⟩
  refine List.forall_mem_cons.mpr ⟨ae_mk pu_get (fun X => ok_get X (ci := 5) (kk := 8) (index := 51) rfl aw_c_Port (by decide) wd_614 (by decide +kernel)), ?_⟩
  refine List.forall_mem_cons.mpr ⟨ae_mk pu_il (fun X => ok_iload_n X (k := 2) rfl (by decide +kernel)), ?_⟩
  refine List.forall_mem_cons.mpr ⟨ae_mk pu_aa (fun X => ok_aa X (by decide +kernel)), ?_⟩
  refine List.forall_mem_cons.mpr ⟨ae_mk pu_as (fun X => ok_astore_n X (k := 3) rfl (by decide +kernel)), ?_⟩
  refine List.forall_mem_cons.mpr ⟨ae_mk pu_al (fun X => ok_aload_n X (k := 0) rfl (by decide +kernel)), ?_⟩
  refine List.forall_mem_cons.mpr ⟨ae_mk pu_get (fun X => ok_get X (ci := 5) (kk := 8) (index := 51) rfl aw_c_Port (by decide) wd_614 (by decide +kernel)), ?_⟩
  refine List.forall_mem_cons.mpr ⟨ae_mk pu_il (fun X => ok_iload_n X (k := 2) rfl (by decide +kernel)), ?_⟩
  refine List.forall_mem_cons.mpr ⟨ae_mk pu_al (fun X => ok_aload_n X (k := 0) rfl (by decide +kernel)), ?_⟩
  refine List.forall_mem_cons.mpr ⟨ae_mk pu_get (fun X => ok_get X (ci := 5) (kk := 7) (index := 32) rfl aw_c_Port (by decide) wd_613 (by decide +kernel)), ?_⟩
  refine List.forall_mem_cons.mpr ⟨ae_mk pu_aas (fun X => ok_aas X (by decide +kernel)), ?_⟩
  refine List.forall_mem_cons.mpr ⟨ae_mk pu_al (fun X => ok_aload_n X (k := 0) rfl (by decide +kernel)), ?_⟩
  refine List.forall_mem_cons.mpr ⟨ae_mk pu_al (fun X => ok_aload_n X (k := 3) rfl (by decide +kernel)), ?_⟩
  refine List.forall_mem_cons.mpr ⟨ae_mk pu_put (fun X => ok_put X (ci := 5) (kk := 7) (index := 32) rfl aw_c_Port (by decide) wd_613 cy_Port cn_Port_ty cn_Port_nm rfl hk_obj rfl (by decide +kernel)), ?_⟩
  refine List.forall_mem_cons.mpr ⟨ae_mk pu_al (fun X => ok_aload_n X (k := 0) rfl (by decide +kernel)), ?_⟩
  refine List.forall_mem_cons.mpr ⟨ae_mk pu_al (fun X => ok_aload_n X (k := 0) rfl (by decide +kernel)), ?_⟩
  refine List.forall_mem_cons.mpr ⟨ae_mk pu_get (fun X => ok_get X (ci := 5) (kk := 0) (index := 45) rfl aw_c_Port (by decide) wd_606 (by decide +kernel)), ?_⟩
  refine List.forall_mem_cons.mpr ⟨ae_mk pu_if (fun X => ok_if_eq X (off := 12) (by decide) (by decide +kernel)), ?_⟩
  refine List.forall_mem_cons.mpr ⟨ae_mk pu_al (fun X => ok_aload_n X (k := 0) rfl (by decide +kernel)), ?_⟩
  refine List.forall_mem_cons.mpr ⟨ae_mk pu_get (fun X => ok_get X (ci := 5) (kk := 10) (index := 39) rfl aw_c_Port (by decide) wd_616 (by decide +kernel)), ?_⟩
  refine List.forall_mem_cons.mpr ⟨ae_mk (pu_push (fun _ => trivial)) (fun X => ok_iconst X (n := 1) (by decide) (by decide +kernel)), ?_⟩
  refine List.forall_mem_cons.mpr ⟨ae_mk pu_bin (fun X => ok_iadd X (by decide +kernel)), ?_⟩
  refine List.forall_mem_cons.mpr ⟨ae_mk pu_goto (fun X => ok_goto X (off := 4) (by decide) (by decide +kernel)), ?_⟩
  refine List.forall_mem_cons.mpr ⟨ae_mk (pu_push (fun _ => trivial)) (fun X => ok_iconst X (n := 1) (by decide) (by decide +kernel)), ?_⟩
  refine List.forall_mem_cons.mpr ⟨ae_mk pu_put (fun X => ok_put X (ci := 5) (kk := 10) (index := 39) rfl aw_c_Port (by decide) wd_616 cy_Port cn_Port_ty cn_Port_nm rfl hk_int rfl (by decide +kernel)), ?_⟩
  refine List.forall_mem_cons.mpr ⟨ae_mk pu_al (fun X => ok_aload_n X (k := 0) rfl (by decide +kernel)), ?_⟩
  refine List.forall_mem_cons.mpr ⟨ae_mk pu_il (fun X => ok_iload_n X (k := 1) rfl (by decide +kernel)), ?_⟩
  refine List.forall_mem_cons.mpr ⟨ae_mk pu_put (fun X => ok_put X (ci := 5) (kk := 11) (index := 42) rfl aw_c_Port (by decide) wd_617 cy_Port cn_Port_ty cn_Port_nm rfl hk_int rfl (by decide +kernel)), ?_⟩
  refine List.forall_mem_cons.mpr ⟨ae_mk (pu_push (fun _ => trivial)) (fun X => ok_iconst X (n := (-1)) (by decide) (by decide +kernel)), ?_⟩
  refine List.forall_mem_cons.mpr ⟨Or.inl ⟨rfl, (by decide +kernel), rt_int⟩, ?_⟩
  exact fun _ h => absurd h List.not_mem_nil
def tb_55 : List (Nat × ae_I) := [(0, .inl (o_al 3 1)),
  (1, .inr (.inr (.inl (34, 1, 4, some 2, [])))),
  (4, .inl (o_if (fun x => decide (¬ x = 0)) 9 7)),
  (7, .inl (o_push (.int 1) 8)),
  (8, .inr (.inl (some k_int))),
  (9, .inl (o_al 0 10)),
  (10, .inl (o_al 3 11)),
  (11, .inr (.inr (.inl (36, 1, 14, some 2, [])))),
  (14, .inr (.inr (.inl (37, 2, 17, some 7, [])))),
  (17, .inl (o_as 4 19)),
  (19, .inl (o_al 4 21)),
  (21, .inl (o_nul 24 26)),
  (24, .inl (o_push (.int 2) 25)),
  (25, .inr (.inl (some k_int))),
  (26, .inl (o_al 4 28)),
  (28, .inl (o_il 2 29)),
  (29, .inr (.inr (.inl (56, 2, 32, some 4, [])))),
  (32, .inl (o_if (fun x => decide (¬ x = 0)) 37 35)),
  (35, .inl (o_push (.int 3) 36)),
  (36, .inr (.inl (some k_int))),
  (37, .inl (o_al 3 38)),
  (38, .inl (o_get 2 1 41)),
  (41, .inl (o_al 4 43)),
  (43, .inl (o_get 4 3 46)),
  (46, .inl (o_ic (fun x y => decide (x ≤ y)) 51 49)),
  (49, .inl (o_push (.int 4) 50)),
  (50, .inr (.inl (some k_int))),
  (51, .inl (o_il 2 52)),
  (52, .inl (o_push (.int 4) 53)),
  (53, .inl (o_ic (fun x y => decide (y ≤ x)) 71 56)),
  (56, .inl (o_al 4 58)),
  (58, .inl (o_il 1 59)),
  (59, .inl (o_al 3 60)),
  (60, .inl (o_get 2 1 63)),
  (63, .inr (.inr (.inl (57, 3, 66, some 4, [])))),
  (66, .inl (o_if (fun x => decide (¬ x = 0)) 71 69)),
  (69, .inl (o_push (.int 5) 70)),
  (70, .inr (.inl (some k_int))),
  (71, .inl (o_push (.int 4) 72)),
  (72, .inl (o_is 5 74)),
  (74, .inl (o_il 5 76)),
  (76, .inl (o_push (.int 12) 78)),
  (78, .inl (o_ic (fun x y => decide (y ≤ x)) 125 81)),
  (81, .inl (o_push (.retAddr 1) 84)),
  (84, .inl (o_il 5 86)),
  (86, .inl (o_ia 87)),
  (87, .inl (o_push (.retAddr 2) 90)),
  (90, .inl (o_il 2 91)),
  (91, .inl (o_ia 92)),
  (92, .inl (o_ic (fun x y => decide (¬ x = y)) 119 95)),
  (95, .inl (o_al 4 97)),
  (97, .inl (o_il 5 99)),
  (99, .inr (.inr (.inl (56, 2, 102, some 4, [])))),
  (102, .inl (o_if (fun x => decide (x = 0)) 119 105)),
  (105, .inl (o_al 0 106)),
  (106, .inl (o_il 1 107)),
  (107, .inl (o_il 5 109)),
  (109, .inl (o_al 4 111)),
  (111, .inl (o_get 4 4 114)),
  (114, .inl (o_al 3 115)),
  (115, .inr (.inr (.inl (25, 5, 118, some 7, [])))),
  (118, .inl (o_pop 119)),
  (119, .inl (o_inc 5 1 122)),
  (122, .inl (o_goto 74)),
  (125, .inl (o_push (.int (-1)) 126)),
  (126, .inr (.inl (some k_int)))]
theorem te_55 : ∀ q ∈ tb_55, ae_E am "TwinNetwork" "passSwitch" prog_1_method_32_code 6 (Option.some Jvm.ClassFile.FieldType.int) [] q := by
  unfold tb_55
  refine List.forall_mem_cons.mpr ⟨ae_mk pu_al (fun X => ok_aload_n X (k := 3) rfl (by decide +kernel)), ?_⟩
  refine List.forall_mem_cons.mpr ⟨ae_mkc (fun X => ok_callV X (mid := 34) (index := 266) (y := my_34) rfl (by decide) ⟨by decide, by decide⟩ (n := 0) (by decide +kernel) wd_313 wd_47 wd_310 wd_311 wd_312 (ci := 2) rfl (by decide +kernel)), ?_⟩
  refine List.forall_mem_cons.mpr ⟨ae_mk pu_if (fun X => ok_if_ne X (off := 5) (by decide) (by decide +kernel)), ?_⟩
  refine List.forall_mem_cons.mpr ⟨ae_mk (pu_push (fun _ => trivial)) (fun X => ok_iconst X (n := 1) (by decide) (by decide +kernel)), ?_⟩
  refine List.forall_mem_cons.mpr ⟨Or.inl ⟨rfl, (by decide +kernel), rt_int⟩, ?_⟩
  refine List.forall_mem_cons.mpr ⟨ae_mk pu_al (fun X => ok_aload_n X (k := 0) rfl (by decide +kernel)), ?_⟩
  refine List.forall_mem_cons.mpr ⟨ae_mk pu_al (fun X => ok_aload_n X (k := 3) rfl (by decide +kernel)), ?_⟩
  refine List.forall_mem_cons.mpr ⟨ae_mkc (fun X => ok_callV X (mid := 36) (index := 269) (y := my_36) rfl (by decide) ⟨by decide, by decide⟩ (n := 0) (by decide +kernel) wd_321 wd_47 wd_318 wd_319 wd_320 (ci := 2) rfl (by decide +kernel)), ?_⟩
  refine List.forall_mem_cons.mpr ⟨ae_mkc (fun X => ok_callV X (mid := 37) (index := 69) (y := my_37) rfl (by decide) ⟨by decide, by decide⟩ (n := 1) (by decide +kernel) wd_325 wd_46 wd_322 wd_324 wd_10 (ci := 7) rfl (by decide +kernel)), ?_⟩
  refine List.forall_mem_cons.mpr ⟨ae_mk pu_as (fun X => ok_astore X (by decide +kernel)), ?_⟩
  refine List.forall_mem_cons.mpr ⟨ae_mk pu_al (fun X => ok_aload X (by decide +kernel)), ?_⟩
  refine List.forall_mem_cons.mpr ⟨ae_mk pu_nul (fun X => ok_ifnonnull X (off := 5) (by decide) (by decide +kernel)), ?_⟩
  refine List.forall_mem_cons.mpr ⟨ae_mk (pu_push (fun _ => trivial)) (fun X => ok_iconst X (n := 2) (by decide) (by decide +kernel)), ?_⟩
  refine List.forall_mem_cons.mpr ⟨Or.inl ⟨rfl, (by decide +kernel), rt_int⟩, ?_⟩
  refine List.forall_mem_cons.mpr ⟨ae_mk pu_al (fun X => ok_aload X (by decide +kernel)), ?_⟩
  refine List.forall_mem_cons.mpr ⟨ae_mk pu_il (fun X => ok_iload_n X (k := 2) rfl (by decide +kernel)), ?_⟩
  refine List.forall_mem_cons.mpr ⟨ae_mkc (fun X => ok_callV X (mid := 56) (index := 194) (y := my_56) rfl (by decide) ⟨by decide, by decide⟩ (n := 1) (by decide +kernel) wd_404 wd_57 wd_401 wd_402 wd_403 (ci := 4) rfl (by decide +kernel)), ?_⟩
  refine List.forall_mem_cons.mpr ⟨ae_mk pu_if (fun X => ok_if_ne X (off := 5) (by decide) (by decide +kernel)), ?_⟩
  refine List.forall_mem_cons.mpr ⟨ae_mk (pu_push (fun _ => trivial)) (fun X => ok_iconst X (n := 3) (by decide) (by decide +kernel)), ?_⟩
  refine List.forall_mem_cons.mpr ⟨Or.inl ⟨rfl, (by decide +kernel), rt_int⟩, ?_⟩
  refine List.forall_mem_cons.mpr ⟨ae_mk pu_al (fun X => ok_aload_n X (k := 3) rfl (by decide +kernel)), ?_⟩
  refine List.forall_mem_cons.mpr ⟨ae_mk pu_get (fun X => ok_getN X (ci := 2) (kk := 1) (index := 158) rfl aw_c_Frame (by decide) wd_83 (by decide +kernel)), ?_⟩
  refine List.forall_mem_cons.mpr ⟨ae_mk pu_al (fun X => ok_aload X (by decide +kernel)), ?_⟩
  refine List.forall_mem_cons.mpr ⟨ae_mk pu_get (fun X => ok_getN X (ci := 4) (kk := 3) (index := 197) rfl aw_c_Link (by decide) wd_684 (by decide +kernel)), ?_⟩
  refine List.forall_mem_cons.mpr ⟨ae_mk pu_ic (fun X => ok_ic_le X (off := 5) (by decide) (by decide +kernel)), ?_⟩
  refine List.forall_mem_cons.mpr ⟨ae_mk (pu_push (fun _ => trivial)) (fun X => ok_iconst X (n := 4) (by decide) (by decide +kernel)), ?_⟩
  refine List.forall_mem_cons.mpr ⟨Or.inl ⟨rfl, (by decide +kernel), rt_int⟩, ?_⟩
  refine List.forall_mem_cons.mpr ⟨ae_mk pu_il (fun X => ok_iload_n X (k := 2) rfl (by decide +kernel)), ?_⟩
  refine List.forall_mem_cons.mpr ⟨ae_mk (pu_push (fun _ => trivial)) (fun X => ok_iconst X (n := 4) (by decide) (by decide +kernel)), ?_⟩
  refine List.forall_mem_cons.mpr ⟨ae_mk pu_ic (fun X => ok_ic_ge X (off := 18) (by decide) (by decide +kernel)), ?_⟩
  refine List.forall_mem_cons.mpr ⟨ae_mk pu_al (fun X => ok_aload X (by decide +kernel)), ?_⟩
  refine List.forall_mem_cons.mpr ⟨ae_mk pu_il (fun X => ok_iload_n X (k := 1) rfl (by decide +kernel)), ?_⟩
  refine List.forall_mem_cons.mpr ⟨ae_mk pu_al (fun X => ok_aload_n X (k := 3) rfl (by decide +kernel)), ?_⟩
  refine List.forall_mem_cons.mpr ⟨ae_mk pu_get (fun X => ok_getN X (ci := 2) (kk := 1) (index := 158) rfl aw_c_Frame (by decide) wd_83 (by decide +kernel)), ?_⟩
  refine List.forall_mem_cons.mpr ⟨ae_mkc (fun X => ok_callV X (mid := 57) (index := 272) (y := my_57) rfl (by decide) ⟨by decide, by decide⟩ (n := 2) (by decide +kernel) wd_408 wd_57 wd_405 wd_406 wd_407 (ci := 4) rfl (by decide +kernel)), ?_⟩
  refine List.forall_mem_cons.mpr ⟨ae_mk pu_if (fun X => ok_if_ne X (off := 5) (by decide) (by decide +kernel)), ?_⟩
  refine List.forall_mem_cons.mpr ⟨ae_mk (pu_push (fun _ => trivial)) (fun X => ok_iconst X (n := 5) (by decide) (by decide +kernel)), ?_⟩
  refine List.forall_mem_cons.mpr ⟨Or.inl ⟨rfl, (by decide +kernel), rt_int⟩, ?_⟩
  refine List.forall_mem_cons.mpr ⟨ae_mk (pu_push (fun _ => trivial)) (fun X => ok_iconst X (n := 4) (by decide) (by decide +kernel)), ?_⟩
  refine List.forall_mem_cons.mpr ⟨ae_mk pu_is (fun X => ok_istore X (by decide +kernel)), ?_⟩
  refine List.forall_mem_cons.mpr ⟨ae_mk pu_il (fun X => ok_iload X (by decide +kernel)), ?_⟩
  refine List.forall_mem_cons.mpr ⟨ae_mk (pu_push (fun _ => trivial)) (fun X => ok_bipush X (n := 12) (by decide) (by decide +kernel)), ?_⟩
  refine List.forall_mem_cons.mpr ⟨ae_mk pu_ic (fun X => ok_ic_ge X (off := 47) (by decide) (by decide +kernel)), ?_⟩
  refine List.forall_mem_cons.mpr ⟨ae_mk (pu_push (fun _ => trivial)) (fun X => ok_gst X (index := 275) (ro_z1 X) wd_409 (by decide +kernel)), ?_⟩
  refine List.forall_mem_cons.mpr ⟨ae_mk pu_il (fun X => ok_iload X (by decide +kernel)), ?_⟩
  refine List.forall_mem_cons.mpr ⟨ae_mk pu_ia (fun X => ok_ia X (by decide +kernel)), ?_⟩
  refine List.forall_mem_cons.mpr ⟨ae_mk (pu_push (fun _ => trivial)) (fun X => ok_gst X (index := 256) (ro_z2 X) wd_304 (by decide +kernel)), ?_⟩
  refine List.forall_mem_cons.mpr ⟨ae_mk pu_il (fun X => ok_iload_n X (k := 2) rfl (by decide +kernel)), ?_⟩
  refine List.forall_mem_cons.mpr ⟨ae_mk pu_ia (fun X => ok_ia X (by decide +kernel)), ?_⟩
  refine List.forall_mem_cons.mpr ⟨ae_mk pu_ic (fun X => ok_ic_ne X (off := 27) (by decide) (by decide +kernel)), ?_⟩
  refine List.forall_mem_cons.mpr ⟨ae_mk pu_al (fun X => ok_aload X (by decide +kernel)), ?_⟩
  refine List.forall_mem_cons.mpr ⟨ae_mk pu_il (fun X => ok_iload X (by decide +kernel)), ?_⟩
  refine List.forall_mem_cons.mpr ⟨ae_mkc (fun X => ok_callV X (mid := 56) (index := 194) (y := my_56) rfl (by decide) ⟨by decide, by decide⟩ (n := 1) (by decide +kernel) wd_404 wd_57 wd_401 wd_402 wd_403 (ci := 4) rfl (by decide +kernel)), ?_⟩
  refine List.forall_mem_cons.mpr ⟨ae_mk pu_if (fun X => ok_if_eq X (off := 17) (by decide) (by decide +kernel)), ?_⟩
  refine List.forall_mem_cons.mpr ⟨ae_mk pu_al (fun X => ok_aload_n X (k := 0) rfl (by decide +kernel)), ?_⟩
  refine List.forall_mem_cons.mpr ⟨ae_mk pu_il (fun X => ok_iload_n X (k := 1) rfl (by decide +kernel)), ?_⟩
  refine List.forall_mem_cons.mpr ⟨ae_mk pu_il (fun X => ok_iload X (by decide +kernel)), ?_⟩
  refine List.forall_mem_cons.mpr ⟨ae_mk pu_al (fun X => ok_aload X (by decide +kernel)), ?_⟩
  refine List.forall_mem_cons.mpr ⟨ae_mk pu_get (fun X => ok_getN X (ci := 4) (kk := 4) (index := 239) rfl aw_c_Link (by decide) wd_686 (by decide +kernel)), ?_⟩
  refine List.forall_mem_cons.mpr ⟨ae_mk pu_al (fun X => ok_aload_n X (k := 3) rfl (by decide +kernel)), ?_⟩
  refine List.forall_mem_cons.mpr ⟨ae_mkc (fun X => ok_callV X (mid := 25) (index := 147) (y := my_25) rfl (by decide) ⟨by decide, by decide⟩ (n := 4) (by decide +kernel) wd_272 wd_46 wd_269 wd_271 wd_6 (ci := 7) rfl (by decide +kernel)), ?_⟩
  refine List.forall_mem_cons.mpr ⟨ae_mk pu_pop (fun X => ok_pop X (by decide +kernel)), ?_⟩
  refine List.forall_mem_cons.mpr ⟨ae_mk pu_inc (fun X => ok_iinc X (n := 1) (by decide) (by decide +kernel)), ?_⟩
  refine List.forall_mem_cons.mpr ⟨ae_mk pu_goto (fun X => ok_goto X (off := (-48)) (by decide) (by decide +kernel)), ?_⟩
  refine List.forall_mem_cons.mpr ⟨ae_mk (pu_push (fun _ => trivial)) (fun X => ok_iconst X (n := (-1)) (by decide) (by decide +kernel)), ?_⟩
  refine List.forall_mem_cons.mpr ⟨Or.inl ⟨rfl, (by decide +kernel), rt_int⟩, ?_⟩
  exact fun _ h => absurd h List.not_mem_nil
def tb_56 : List (Nat × ae_I) := [(0, .inl (o_al 0 1)),
  (1, .inl (o_get 4 6 4)),
  (4, .inl (o_il 1 5)),
  (5, .inl (o_bin (fun x y => x >>> (y &&& 31)) 6)),
  (6, .inl (o_push (.int 1) 7)),
  (7, .inl (o_bin (fun x y => x &&& y) 8)),
  (8, .inl (o_if (fun x => decide (x = 0)) 15 11)),
  (11, .inl (o_push (.int 1) 12)),
  (12, .inl (o_goto 16)),
  (15, .inl (o_push (.int 0) 16)),
  (16, .inr (.inl (some k_bool)))]
theorem te_56 : ∀ q ∈ tb_56, ae_E am "TwinNetwork$Link" "uses" prog_6_method_2_code 2 (Option.some Jvm.ClassFile.FieldType.boolean) [] q := by
  unfold tb_56
  refine List.forall_mem_cons.mpr ⟨ae_mk pu_al (fun X => ok_aload_n X (k := 0) rfl (by decide +kernel)), ?_⟩
  refine List.forall_mem_cons.mpr ⟨ae_mk pu_get (fun X => ok_get X (ci := 4) (kk := 6) (index := 69) rfl aw_c_Link (by decide) wd_688 (by decide +kernel)), ?_⟩
  refine List.forall_mem_cons.mpr ⟨ae_mk pu_il (fun X => ok_iload_n X (k := 1) rfl (by decide +kernel)), ?_⟩
  refine List.forall_mem_cons.mpr ⟨ae_mk pu_bin (fun X => ok_ishr X (by decide +kernel)), ?_⟩
  refine List.forall_mem_cons.mpr ⟨ae_mk (pu_push (fun _ => trivial)) (fun X => ok_iconst X (n := 1) (by decide) (by decide +kernel)), ?_⟩
  refine List.forall_mem_cons.mpr ⟨ae_mk pu_bin (fun X => ok_iand X (by decide +kernel)), ?_⟩
  refine List.forall_mem_cons.mpr ⟨ae_mk pu_if (fun X => ok_if_eq X (off := 7) (by decide) (by decide +kernel)), ?_⟩
  refine List.forall_mem_cons.mpr ⟨ae_mk (pu_push (fun _ => trivial)) (fun X => ok_iconst X (n := 1) (by decide) (by decide +kernel)), ?_⟩
  refine List.forall_mem_cons.mpr ⟨ae_mk pu_goto (fun X => ok_goto X (off := 4) (by decide) (by decide +kernel)), ?_⟩
  refine List.forall_mem_cons.mpr ⟨ae_mk (pu_push (fun _ => trivial)) (fun X => ok_iconst X (n := 0) (by decide) (by decide +kernel)), ?_⟩
  refine List.forall_mem_cons.mpr ⟨Or.inr (Or.inl ⟨rfl, (by decide +kernel), rt_bool⟩), ?_⟩
  exact fun _ h => absurd h List.not_mem_nil
def tb_57 : List (Nat × ae_I) := [(0, .inl (o_il 2 1)),
  (1, .inl (o_al 0 2)),
  (2, .inl (o_get 4 2 5)),
  (5, .inl (o_bin (fun x y => x * y) 6)),
  (6, .inl (o_is 3 7)),
  (7, .inl (o_al 0 8)),
  (8, .inl (o_get 4 8 11)),
  (11, .inl (o_il 1 12)),
  (12, .inl (o_ia 13)),
  (13, .inl (o_il 3 14)),
  (14, .inl (o_ic (fun x y => decide (y ≤ x)) 19 17)),
  (17, .inl (o_push (.int 0) 18)),
  (18, .inr (.inl (some k_bool))),
  (19, .inl (o_al 0 20)),
  (20, .inl (o_get 4 8 23)),
  (23, .inl (o_il 1 24)),
  (24, .inl (o_dup2 25)),
  (25, .inl (o_ia 26)),
  (26, .inl (o_il 3 27)),
  (27, .inl (o_bin (fun x y => x - y) 28)),
  (28, .inl (o_ias 29)),
  (29, .inl (o_push (.int 1) 30)),
  (30, .inr (.inl (some k_bool)))]
theorem te_57 : ∀ q ∈ tb_57, ae_E am "TwinNetwork$Link" "pays" prog_6_method_9_code 4 (Option.some Jvm.ClassFile.FieldType.boolean) [] q := by
  unfold tb_57
  refine List.forall_mem_cons.mpr ⟨ae_mk pu_il (fun X => ok_iload_n X (k := 2) rfl (by decide +kernel)), ?_⟩
  refine List.forall_mem_cons.mpr ⟨ae_mk pu_al (fun X => ok_aload_n X (k := 0) rfl (by decide +kernel)), ?_⟩
  refine List.forall_mem_cons.mpr ⟨ae_mk pu_get (fun X => ok_get X (ci := 4) (kk := 2) (index := 49) rfl aw_c_Link (by decide) wd_681 (by decide +kernel)), ?_⟩
  refine List.forall_mem_cons.mpr ⟨ae_mk pu_bin (fun X => ok_imul X (by decide +kernel)), ?_⟩
  refine List.forall_mem_cons.mpr ⟨ae_mk pu_is (fun X => ok_istore_n X (k := 3) rfl (by decide +kernel)), ?_⟩
  refine List.forall_mem_cons.mpr ⟨ae_mk pu_al (fun X => ok_aload_n X (k := 0) rfl (by decide +kernel)), ?_⟩
  refine List.forall_mem_cons.mpr ⟨ae_mk pu_get (fun X => ok_get X (ci := 4) (kk := 8) (index := 17) rfl aw_c_Link (by decide) wd_690 (by decide +kernel)), ?_⟩
  refine List.forall_mem_cons.mpr ⟨ae_mk pu_il (fun X => ok_iload_n X (k := 1) rfl (by decide +kernel)), ?_⟩
  refine List.forall_mem_cons.mpr ⟨ae_mk pu_ia (fun X => ok_ia X (by decide +kernel)), ?_⟩
  refine List.forall_mem_cons.mpr ⟨ae_mk pu_il (fun X => ok_iload_n X (k := 3) rfl (by decide +kernel)), ?_⟩
  refine List.forall_mem_cons.mpr ⟨ae_mk pu_ic (fun X => ok_ic_ge X (off := 5) (by decide) (by decide +kernel)), ?_⟩
  refine List.forall_mem_cons.mpr ⟨ae_mk (pu_push (fun _ => trivial)) (fun X => ok_iconst X (n := 0) (by decide) (by decide +kernel)), ?_⟩
  refine List.forall_mem_cons.mpr ⟨Or.inr (Or.inl ⟨rfl, (by decide +kernel), rt_bool⟩), ?_⟩
  refine List.forall_mem_cons.mpr ⟨ae_mk pu_al (fun X => ok_aload_n X (k := 0) rfl (by decide +kernel)), ?_⟩
  refine List.forall_mem_cons.mpr ⟨ae_mk pu_get (fun X => ok_get X (ci := 4) (kk := 8) (index := 17) rfl aw_c_Link (by decide) wd_690 (by decide +kernel)), ?_⟩
  refine List.forall_mem_cons.mpr ⟨ae_mk pu_il (fun X => ok_iload_n X (k := 1) rfl (by decide +kernel)), ?_⟩
  refine List.forall_mem_cons.mpr ⟨ae_mk pu_dup2 (fun X => ok_dup2 X (by decide +kernel)), ?_⟩
  refine List.forall_mem_cons.mpr ⟨ae_mk pu_ia (fun X => ok_ia X (by decide +kernel)), ?_⟩
  refine List.forall_mem_cons.mpr ⟨ae_mk pu_il (fun X => ok_iload_n X (k := 3) rfl (by decide +kernel)), ?_⟩
  refine List.forall_mem_cons.mpr ⟨ae_mk pu_bin (fun X => ok_isub X (by decide +kernel)), ?_⟩
  refine List.forall_mem_cons.mpr ⟨ae_mk pu_ias (fun X => ok_ias X (by decide +kernel)), ?_⟩
  refine List.forall_mem_cons.mpr ⟨ae_mk (pu_push (fun _ => trivial)) (fun X => ok_iconst X (n := 1) (by decide) (by decide +kernel)), ?_⟩
  refine List.forall_mem_cons.mpr ⟨Or.inr (Or.inl ⟨rfl, (by decide +kernel), rt_bool⟩), ?_⟩
  exact fun _ h => absurd h List.not_mem_nil
def tb_58 : List (Nat × ae_I) := [(0, .inl (o_al 0 1)),
  (1, .inl (o_get 7 1 4)),
  (4, .inl (o_as 1 5)),
  (5, .inl (o_al 1 6)),
  (6, .inl (o_len 7)),
  (7, .inl (o_is 2 8)),
  (8, .inl (o_push (.int 0) 9)),
  (9, .inl (o_is 3 10)),
  (10, .inl (o_il 3 11)),
  (11, .inl (o_il 2 12)),
  (12, .inl (o_ic (fun x y => decide (y ≤ x)) 52 15)),
  (15, .inl (o_al 1 16)),
  (16, .inl (o_il 3 17)),
  (17, .inl (o_aa 18)),
  (18, .inl (o_as 4 20)),
  (20, .inl (o_al 4 22)),
  (22, .inl (o_get 3 4 25)),
  (25, .inl (o_if (fun x => decide (¬ x = 0)) 46 28)),
  (28, .inl (o_al 4 30)),
  (30, .inr (.inr (.inl (59, 1, 33, some 3, [])))),
  (33, .inl (o_if (fun x => decide (x = 0)) 46 36)),
  (36, .inl (o_al 0 37)),
  (37, .inl (o_get 7 2 40)),
  (40, .inl (o_push (.int 0) 41)),
  (41, .inl (o_dup2 42)),
  (42, .inl (o_ia 43)),
  (43, .inl (o_push (.int 1) 44)),
  (44, .inl (o_bin (fun x y => x + y) 45)),
  (45, .inl (o_ias 46)),
  (46, .inl (o_inc 3 1 49)),
  (49, .inl (o_goto 10)),
  (52, .inr (.inl none))]
theorem te_58 : ∀ q ∈ tb_58, ae_E am "TwinNetwork" "takeFrames" prog_1_method_34_code 5 (Option.none : Option Jvm.ClassFile.FieldType) [] q := by
  unfold tb_58
  refine List.forall_mem_cons.mpr ⟨ae_mk pu_al (fun X => ok_aload_n X (k := 0) rfl (by decide +kernel)), ?_⟩
  refine List.forall_mem_cons.mpr ⟨ae_mk pu_get (fun X => ok_get X (ci := 7) (kk := 1) (index := 17) rfl aw_c_Net (by decide) wd_165 (by decide +kernel)), ?_⟩
  refine List.forall_mem_cons.mpr ⟨ae_mk pu_as (fun X => ok_astore_n X (k := 1) rfl (by decide +kernel)), ?_⟩
  refine List.forall_mem_cons.mpr ⟨ae_mk pu_al (fun X => ok_aload_n X (k := 1) rfl (by decide +kernel)), ?_⟩
  refine List.forall_mem_cons.mpr ⟨ae_mk pu_len (fun X => ok_len X (by decide +kernel)), ?_⟩
  refine List.forall_mem_cons.mpr ⟨ae_mk pu_is (fun X => ok_istore_n X (k := 2) rfl (by decide +kernel)), ?_⟩
  refine List.forall_mem_cons.mpr ⟨ae_mk (pu_push (fun _ => trivial)) (fun X => ok_iconst X (n := 0) (by decide) (by decide +kernel)), ?_⟩
  refine List.forall_mem_cons.mpr ⟨ae_mk pu_is (fun X => ok_istore_n X (k := 3) rfl (by decide +kernel)), ?_⟩
  refine List.forall_mem_cons.mpr ⟨ae_mk pu_il (fun X => ok_iload_n X (k := 3) rfl (by decide +kernel)), ?_⟩
  refine List.forall_mem_cons.mpr ⟨ae_mk pu_il (fun X => ok_iload_n X (k := 2) rfl (by decide +kernel)), ?_⟩
  refine List.forall_mem_cons.mpr ⟨ae_mk pu_ic (fun X => ok_ic_ge X (off := 40) (by decide) (by decide +kernel)), ?_⟩
  refine List.forall_mem_cons.mpr ⟨ae_mk pu_al (fun X => ok_aload_n X (k := 1) rfl (by decide +kernel)), ?_⟩
  refine List.forall_mem_cons.mpr ⟨ae_mk pu_il (fun X => ok_iload_n X (k := 3) rfl (by decide +kernel)), ?_⟩
  refine List.forall_mem_cons.mpr ⟨ae_mk pu_aa (fun X => ok_aa X (by decide +kernel)), ?_⟩
  refine List.forall_mem_cons.mpr ⟨ae_mk pu_as (fun X => ok_astore X (by decide +kernel)), ?_⟩
  refine List.forall_mem_cons.mpr ⟨ae_mk pu_al (fun X => ok_aload X (by decide +kernel)), ?_⟩
  refine List.forall_mem_cons.mpr ⟨ae_mk pu_get (fun X => ok_getN X (ci := 3) (kk := 4) (index := 151) rfl aw_c_Line (by decide) wd_140 (by decide +kernel)), ?_⟩
  refine List.forall_mem_cons.mpr ⟨ae_mk pu_if (fun X => ok_if_ne X (off := 21) (by decide) (by decide +kernel)), ?_⟩
  refine List.forall_mem_cons.mpr ⟨ae_mk pu_al (fun X => ok_aload X (by decide +kernel)), ?_⟩
  refine List.forall_mem_cons.mpr ⟨ae_mkc (fun X => ok_callV X (mid := 59) (index := 292) (y := my_59) rfl (by decide) ⟨by decide, by decide⟩ (n := 0) (by decide +kernel) wd_418 wd_49 wd_415 wd_416 wd_417 (ci := 3) rfl (by decide +kernel)), ?_⟩
  refine List.forall_mem_cons.mpr ⟨ae_mk pu_if (fun X => ok_if_eq X (off := 13) (by decide) (by decide +kernel)), ?_⟩
  refine List.forall_mem_cons.mpr ⟨ae_mk pu_al (fun X => ok_aload_n X (k := 0) rfl (by decide +kernel)), ?_⟩
  refine List.forall_mem_cons.mpr ⟨ae_mk pu_get (fun X => ok_get X (ci := 7) (kk := 2) (index := 21) rfl aw_c_Net (by decide) wd_166 (by decide +kernel)), ?_⟩
  refine List.forall_mem_cons.mpr ⟨ae_mk (pu_push (fun _ => trivial)) (fun X => ok_iconst X (n := 0) (by decide) (by decide +kernel)), ?_⟩
  refine List.forall_mem_cons.mpr ⟨ae_mk pu_dup2 (fun X => ok_dup2 X (by decide +kernel)), ?_⟩
  refine List.forall_mem_cons.mpr ⟨ae_mk pu_ia (fun X => ok_ia X (by decide +kernel)), ?_⟩
  refine List.forall_mem_cons.mpr ⟨ae_mk (pu_push (fun _ => trivial)) (fun X => ok_iconst X (n := 1) (by decide) (by decide +kernel)), ?_⟩
  refine List.forall_mem_cons.mpr ⟨ae_mk pu_bin (fun X => ok_iadd X (by decide +kernel)), ?_⟩
  refine List.forall_mem_cons.mpr ⟨ae_mk pu_ias (fun X => ok_ias X (by decide +kernel)), ?_⟩
  refine List.forall_mem_cons.mpr ⟨ae_mk pu_inc (fun X => ok_iinc X (n := 1) (by decide) (by decide +kernel)), ?_⟩
  refine List.forall_mem_cons.mpr ⟨ae_mk pu_goto (fun X => ok_goto X (off := (-39)) (by decide) (by decide +kernel)), ?_⟩
  refine List.forall_mem_cons.mpr ⟨⟨rfl, (by decide +kernel)⟩, ?_⟩
  exact fun _ h => absurd h List.not_mem_nil
def tb_59 : List (Nat × ae_I) := [(0, .inl (o_al 0 1)),
  (1, .inr (.inr (.inl (60, 1, 4, some 3, [])))),
  (4, .inl (o_al 0 5)),
  (5, .inl (o_get 3 4 8)),
  (8, .inl (o_if (fun x => decide (x = 0)) 18 11)),
  (11, .inl (o_al 0 12)),
  (12, .inl (o_get 3 6 15)),
  (15, .inl (o_if (fun x => decide (¬ x = 0)) 20 18)),
  (18, .inl (o_push (.int 0) 19)),
  (19, .inr (.inl (some k_bool))),
  (20, .inl (o_al 0 21)),
  (21, .inl (o_push (.int 0) 22)),
  (22, .inl (o_put 3 6 k_bool 25)),
  (25, .inl (o_al 0 26)),
  (26, .inl (o_get 3 8 29)),
  (29, .inl (o_if (fun x => decide (x = 0)) 49 32)),
  (32, .inl (o_al 0 33)),
  (33, .inl (o_get 3 3 36)),
  (36, .inl (o_al 0 37)),
  (37, .inl (o_get 3 7 40)),
  (40, .inl (o_al 0 41)),
  (41, .inl (o_get 3 8 44)),
  (44, .inr (.inr (.inl (62, 3, 47, some 2, [])))),
  (47, .inl (o_push (.int 0) 48)),
  (48, .inr (.inl (some k_bool))),
  (49, .inl (o_al 0 50)),
  (50, .inr (.inr (.inl (60, 1, 53, some 3, [])))),
  (53, .inl (o_push (.int 1) 54)),
  (54, .inr (.inl (some k_bool)))]
theorem te_59 : ∀ q ∈ tb_59, ae_E am "TwinNetwork$Line" "takesAfterLoss" prog_5_method_5_code 1 (Option.some Jvm.ClassFile.FieldType.boolean) [] q := by
  unfold tb_59
  refine List.forall_mem_cons.mpr ⟨ae_mk pu_al (fun X => ok_aload_n X (k := 0) rfl (by decide +kernel)), ?_⟩
  refine List.forall_mem_cons.mpr ⟨ae_mkc (fun X => ok_callV X (mid := 60) (index := 53) (y := my_60) rfl (by decide) ⟨by decide, by decide⟩ (n := 0) (by decide +kernel) wd_422 wd_49 wd_419 wd_421 wd_15 (ci := 3) rfl (by decide +kernel)), ?_⟩
  refine List.forall_mem_cons.mpr ⟨ae_mk pu_al (fun X => ok_aload_n X (k := 0) rfl (by decide +kernel)), ?_⟩
  refine List.forall_mem_cons.mpr ⟨ae_mk pu_get (fun X => ok_get X (ci := 3) (kk := 4) (index := 18) rfl aw_c_Line (by decide) wd_139 (by decide +kernel)), ?_⟩
  refine List.forall_mem_cons.mpr ⟨ae_mk pu_if (fun X => ok_if_eq X (off := 10) (by decide) (by decide +kernel)), ?_⟩
  refine List.forall_mem_cons.mpr ⟨ae_mk pu_al (fun X => ok_aload_n X (k := 0) rfl (by decide +kernel)), ?_⟩
  refine List.forall_mem_cons.mpr ⟨ae_mk pu_get (fun X => ok_get X (ci := 3) (kk := 6) (index := 26) rfl aw_c_Line (by decide) wd_142 (by decide +kernel)), ?_⟩
  refine List.forall_mem_cons.mpr ⟨ae_mk pu_if (fun X => ok_if_ne X (off := 5) (by decide) (by decide +kernel)), ?_⟩
  refine List.forall_mem_cons.mpr ⟨ae_mk (pu_push (fun _ => trivial)) (fun X => ok_iconst X (n := 0) (by decide) (by decide +kernel)), ?_⟩
  refine List.forall_mem_cons.mpr ⟨Or.inr (Or.inl ⟨rfl, (by decide +kernel), rt_bool⟩), ?_⟩
  refine List.forall_mem_cons.mpr ⟨ae_mk pu_al (fun X => ok_aload_n X (k := 0) rfl (by decide +kernel)), ?_⟩
  refine List.forall_mem_cons.mpr ⟨ae_mk (pu_push (fun _ => trivial)) (fun X => ok_iconst X (n := 0) (by decide) (by decide +kernel)), ?_⟩
  refine List.forall_mem_cons.mpr ⟨ae_mk pu_put (fun X => ok_put X (ci := 3) (kk := 6) (index := 26) rfl aw_c_Line (by decide) wd_142 cy_Line cn_Line_ty cn_Line_nm rfl hk_bool rfl (by decide +kernel)), ?_⟩
  refine List.forall_mem_cons.mpr ⟨ae_mk pu_al (fun X => ok_aload_n X (k := 0) rfl (by decide +kernel)), ?_⟩
  refine List.forall_mem_cons.mpr ⟨ae_mk pu_get (fun X => ok_get X (ci := 3) (kk := 8) (index := 32) rfl aw_c_Line (by decide) wd_144 (by decide +kernel)), ?_⟩
  refine List.forall_mem_cons.mpr ⟨ae_mk pu_if (fun X => ok_if_eq X (off := 20) (by decide) (by decide +kernel)), ?_⟩
  refine List.forall_mem_cons.mpr ⟨ae_mk pu_al (fun X => ok_aload_n X (k := 0) rfl (by decide +kernel)), ?_⟩
  refine List.forall_mem_cons.mpr ⟨ae_mk pu_get (fun X => ok_get X (ci := 3) (kk := 3) (index := 12) rfl aw_c_Line (by decide) wd_137 (by decide +kernel)), ?_⟩
  refine List.forall_mem_cons.mpr ⟨ae_mk pu_al (fun X => ok_aload_n X (k := 0) rfl (by decide +kernel)), ?_⟩
  refine List.forall_mem_cons.mpr ⟨ae_mk pu_get (fun X => ok_get X (ci := 3) (kk := 7) (index := 29) rfl aw_c_Line (by decide) wd_143 (by decide +kernel)), ?_⟩
  refine List.forall_mem_cons.mpr ⟨ae_mk pu_al (fun X => ok_aload_n X (k := 0) rfl (by decide +kernel)), ?_⟩
  refine List.forall_mem_cons.mpr ⟨ae_mk pu_get (fun X => ok_get X (ci := 3) (kk := 8) (index := 32) rfl aw_c_Line (by decide) wd_144 (by decide +kernel)), ?_⟩
  refine List.forall_mem_cons.mpr ⟨ae_mkc (fun X => ok_callV X (mid := 62) (index := 56) (y := my_62) rfl (by decide) ⟨by decide, by decide⟩ (n := 2) (by decide +kernel) wd_431 wd_47 wd_428 wd_429 wd_430 (ci := 2) rfl (by decide +kernel)), ?_⟩
  refine List.forall_mem_cons.mpr ⟨ae_mk (pu_push (fun _ => trivial)) (fun X => ok_iconst X (n := 0) (by decide) (by decide +kernel)), ?_⟩
  refine List.forall_mem_cons.mpr ⟨Or.inr (Or.inl ⟨rfl, (by decide +kernel), rt_bool⟩), ?_⟩
  refine List.forall_mem_cons.mpr ⟨ae_mk pu_al (fun X => ok_aload_n X (k := 0) rfl (by decide +kernel)), ?_⟩
  refine List.forall_mem_cons.mpr ⟨ae_mkc (fun X => ok_callV X (mid := 60) (index := 53) (y := my_60) rfl (by decide) ⟨by decide, by decide⟩ (n := 0) (by decide +kernel) wd_422 wd_49 wd_419 wd_421 wd_15 (ci := 3) rfl (by decide +kernel)), ?_⟩
  refine List.forall_mem_cons.mpr ⟨ae_mk (pu_push (fun _ => trivial)) (fun X => ok_iconst X (n := 1) (by decide) (by decide +kernel)), ?_⟩
  refine List.forall_mem_cons.mpr ⟨Or.inr (Or.inl ⟨rfl, (by decide +kernel), rt_bool⟩), ?_⟩
  exact fun _ h => absurd h List.not_mem_nil
