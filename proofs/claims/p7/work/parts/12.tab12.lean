def tb_16 : List (Nat × ae_I) := [(0, .inl (o_al 0 1)),
  (1, .inl (o_push (.int 200) 4)),
  (4, .inl (o_push (.int 64) 6)),
  (6, .inl (o_il 4 8)),
  (8, .inl (o_push (.int 39) 10)),
  (10, .inl (o_bin (fun x y => x + y) 11)),
  (11, .inl (o_mx 14)),
  (14, .inl (o_mn 17)),
  (17, .inl (o_put 2 1 k_int 20)),
  (20, .inl (o_push (.int 0) 21)),
  (21, .inl (o_is 5 23)),
  (23, .inl (o_il 5 25)),
  (25, .inl (o_al 0 26)),
  (26, .inl (o_get 2 1 29)),
  (29, .inl (o_ic (fun x y => decide (y ≤ x)) 46 32)),
  (32, .inl (o_al 0 33)),
  (33, .inl (o_get 2 0 36)),
  (36, .inl (o_il 5 38)),
  (38, .inl (o_push (.int 0) 39)),
  (39, .inl (o_bas 40)),
  (40, .inl (o_inc 5 1 43)),
  (43, .inl (o_goto 23)),
  (46, .inl (o_al 0 47)),
  (47, .inl (o_push (.int 0) 48)),
  (48, .inl (o_push (.int 3) 49)),
  (49, .inr (.inr (.inl (17, 3, 52, some 2, [])))),
  (52, .inl (o_al 0 53)),
  (53, .inl (o_push (.int 5) 54)),
  (54, .inl (o_il 1 55)),
  (55, .inr (.inr (.inl (17, 3, 58, some 2, [])))),
  (58, .inl (o_al 0 59)),
  (59, .inl (o_push (.int 6) 61)),
  (61, .inl (o_push (.int 2) 62)),
  (62, .inr (.inr (.inl (17, 3, 65, some 2, [])))),
  (65, .inl (o_al 0 66)),
  (66, .inl (o_push (.int 10) 68)),
  (68, .inl (o_il 2 69)),
  (69, .inr (.inr (.inl (17, 3, 72, some 2, [])))),
  (72, .inl (o_al 0 73)),
  (73, .inl (o_push (.int 11) 75)),
  (75, .inl (o_il 3 76)),
  (76, .inl (o_if (fun x => decide (¬ x = 0)) 84 79)),
  (79, .inl (o_push (.int 32) 81)),
  (81, .inl (o_goto 86)),
  (84, .inl (o_push (.int 64) 86)),
  (86, .inr (.inr (.inl (17, 3, 89, some 2, [])))),
  (89, .inl (o_al 0 90)),
  (90, .inl (o_push (.int 12) 92)),
  (92, .inl (o_push (.int 8) 94)),
  (94, .inr (.inr (.inl (17, 3, 97, some 2, [])))),
  (97, .inl (o_al 0 98)),
  (98, .inl (o_push (.int 14) 100)),
  (100, .inl (o_push (.int 69) 102)),
  (102, .inr (.inr (.inl (17, 3, 105, some 2, [])))),
  (105, .inl (o_al 0 106)),
  (106, .inl (o_push (.int 16) 108)),
  (108, .inl (o_push (.int 20) 110)),
  (110, .inl (o_il 4 112)),
  (112, .inl (o_bin (fun x y => x + y) 113)),
  (113, .inr (.inr (.inl (18, 3, 116, some 2, [])))),
  (116, .inl (o_al 0 117)),
  (117, .inl (o_push (.int 22) 119)),
  (119, .inl (o_push (.int 1) 120)),
  (120, .inr (.inr (.inl (17, 3, 123, some 2, [])))),
  (123, .inl (o_al 0 124)),
  (124, .inl (o_push (.int 23) 126)),
  (126, .inl (o_push (.int 17) 128)),
  (128, .inr (.inr (.inl (17, 3, 131, some 2, [])))),
  (131, .inl (o_al 0 132)),
  (132, .inl (o_push (.int 26) 134)),
  (134, .inl (o_push (.int 10) 136)),
  (136, .inr (.inr (.inl (17, 3, 139, some 2, [])))),
  (139, .inl (o_al 0 140)),
  (140, .inl (o_push (.int 27) 142)),
  (142, .inl (o_push (.int 1) 143)),
  (143, .inr (.inr (.inl (17, 3, 146, some 2, [])))),
  (146, .inl (o_al 0 147)),
  (147, .inl (o_push (.int 28) 149)),
  (149, .inl (o_il 2 150)),
  (150, .inr (.inr (.inl (17, 3, 153, some 2, [])))),
  (153, .inl (o_al 0 154)),
  (154, .inl (o_push (.int 29) 156)),
  (156, .inl (o_push (.int 1) 157)),
  (157, .inr (.inr (.inl (17, 3, 160, some 2, [])))),
  (160, .inl (o_al 0 161)),
  (161, .inl (o_push (.int 30) 163)),
  (163, .inl (o_push (.int 224) 166)),
  (166, .inr (.inr (.inl (17, 3, 169, some 2, [])))),
  (169, .inl (o_al 0 170)),
  (170, .inl (o_push (.int 31) 172)),
  (172, .inl (o_push (.int 224) 175)),
  (175, .inr (.inr (.inl (17, 3, 178, some 2, [])))),
  (178, .inl (o_al 0 179)),
  (179, .inl (o_push (.int 33) 181)),
  (181, .inl (o_il 1 182)),
  (182, .inr (.inr (.inl (17, 3, 185, some 2, [])))),
  (185, .inr (.inl none))]
theorem te_16 : ∀ q ∈ tb_16, ae_E am "TwinNetwork$Frame" "begin" prog_4_method_7_code 6 (Option.none : Option Jvm.ClassFile.FieldType) [] q := by
  unfold tb_16
  refine List.forall_mem_cons.mpr ⟨ae_mk pu_al (fun X => ok_aload_n X (k := 0) rfl (by decide +kernel)), ?_⟩
  refine List.forall_mem_cons.mpr ⟨ae_mk (pu_push (fun _ => trivial)) (fun X => ok_sipush X (n := 200) (by decide) (by decide +kernel)), ?_⟩
  refine List.forall_mem_cons.mpr ⟨ae_mk (pu_push (fun _ => trivial)) (fun X => ok_bipush X (n := 64) (by decide) (by decide +kernel)), ?_⟩
  refine List.forall_mem_cons.mpr ⟨ae_mk pu_il (fun X => ok_iload X (by decide +kernel)), ?_⟩
  refine List.forall_mem_cons.mpr ⟨ae_mk (pu_push (fun _ => trivial)) (fun X => ok_bipush X (n := 39) (by decide) (by decide +kernel)), ?_⟩
  refine List.forall_mem_cons.mpr ⟨ae_mk pu_bin (fun X => ok_iadd X (by decide +kernel)), ?_⟩
  refine List.forall_mem_cons.mpr ⟨ae_mk pu_mx (fun X => ok_mx X (index := 29) wd_229 aw_mx2 aw_mt3 aw_mx4 (by decide +kernel)), ?_⟩
  refine List.forall_mem_cons.mpr ⟨ae_mk pu_mn (fun X => ok_mn X (index := 35) wd_232 aw_mn2 aw_mt3 aw_mn4 (by decide +kernel)), ?_⟩
  refine List.forall_mem_cons.mpr ⟨ae_mk pu_put (fun X => ok_put X (ci := 2) (kk := 1) (index := 15) rfl aw_c_Frame (by decide) wd_81 cy_Frame cn_Frame_ty cn_Frame_nm rfl hk_int rfl (by decide +kernel)), ?_⟩
  refine List.forall_mem_cons.mpr ⟨ae_mk (pu_push (fun _ => trivial)) (fun X => ok_iconst X (n := 0) (by decide) (by decide +kernel)), ?_⟩
  refine List.forall_mem_cons.mpr ⟨ae_mk pu_is (fun X => ok_istore X (by decide +kernel)), ?_⟩
  refine List.forall_mem_cons.mpr ⟨ae_mk pu_il (fun X => ok_iload X (by decide +kernel)), ?_⟩
  refine List.forall_mem_cons.mpr ⟨ae_mk pu_al (fun X => ok_aload_n X (k := 0) rfl (by decide +kernel)), ?_⟩
  refine List.forall_mem_cons.mpr ⟨ae_mk pu_get (fun X => ok_get X (ci := 2) (kk := 1) (index := 15) rfl aw_c_Frame (by decide) wd_81 (by decide +kernel)), ?_⟩
  refine List.forall_mem_cons.mpr ⟨ae_mk pu_ic (fun X => ok_ic_ge X (off := 17) (by decide) (by decide +kernel)), ?_⟩
  refine List.forall_mem_cons.mpr ⟨ae_mk pu_al (fun X => ok_aload_n X (k := 0) rfl (by decide +kernel)), ?_⟩
  refine List.forall_mem_cons.mpr ⟨ae_mk pu_get (fun X => ok_get X (ci := 2) (kk := 0) (index := 9) rfl aw_c_Frame (by decide) wd_80 (by decide +kernel)), ?_⟩
  refine List.forall_mem_cons.mpr ⟨ae_mk pu_il (fun X => ok_iload X (by decide +kernel)), ?_⟩
  refine List.forall_mem_cons.mpr ⟨ae_mk (pu_push (fun _ => trivial)) (fun X => ok_iconst X (n := 0) (by decide) (by decide +kernel)), ?_⟩
  refine List.forall_mem_cons.mpr ⟨ae_mk pu_bas (fun X => ok_bas X (by decide +kernel)), ?_⟩
  refine List.forall_mem_cons.mpr ⟨ae_mk pu_inc (fun X => ok_iinc X (n := 1) (by decide) (by decide +kernel)), ?_⟩
  refine List.forall_mem_cons.mpr ⟨ae_mk pu_goto (fun X => ok_goto X (off := (-20)) (by decide) (by decide +kernel)), ?_⟩
  refine List.forall_mem_cons.mpr ⟨ae_mk pu_al (fun X => ok_aload_n X (k := 0) rfl (by decide +kernel)), ?_⟩
  refine List.forall_mem_cons.mpr ⟨ae_mk (pu_push (fun _ => trivial)) (fun X => ok_iconst X (n := 0) (by decide) (by decide +kernel)), ?_⟩
  refine List.forall_mem_cons.mpr ⟨ae_mk (pu_push (fun _ => trivial)) (fun X => ok_iconst X (n := 3) (by decide) (by decide +kernel)), ?_⟩
  refine List.forall_mem_cons.mpr ⟨ae_mkc (fun X => ok_callV X (mid := 17) (index := 19) (y := my_17) rfl (by decide) ⟨by decide, by decide⟩ (n := 2) (by decide +kernel) wd_236 wd_47 wd_233 wd_234 wd_235 (ci := 2) rfl (by decide +kernel)), ?_⟩
  refine List.forall_mem_cons.mpr ⟨ae_mk pu_al (fun X => ok_aload_n X (k := 0) rfl (by decide +kernel)), ?_⟩
  refine List.forall_mem_cons.mpr ⟨ae_mk (pu_push (fun _ => trivial)) (fun X => ok_iconst X (n := 5) (by decide) (by decide +kernel)), ?_⟩
  refine List.forall_mem_cons.mpr ⟨ae_mk pu_il (fun X => ok_iload_n X (k := 1) rfl (by decide +kernel)), ?_⟩
  refine List.forall_mem_cons.mpr ⟨ae_mkc (fun X => ok_callV X (mid := 17) (index := 19) (y := my_17) rfl (by decide) ⟨by decide, by decide⟩ (n := 2) (by decide +kernel) wd_236 wd_47 wd_233 wd_234 wd_235 (ci := 2) rfl (by decide +kernel)), ?_⟩
  refine List.forall_mem_cons.mpr ⟨ae_mk pu_al (fun X => ok_aload_n X (k := 0) rfl (by decide +kernel)), ?_⟩
  refine List.forall_mem_cons.mpr ⟨ae_mk (pu_push (fun _ => trivial)) (fun X => ok_bipush X (n := 6) (by decide) (by decide +kernel)), ?_⟩
  refine List.forall_mem_cons.mpr ⟨ae_mk (pu_push (fun _ => trivial)) (fun X => ok_iconst X (n := 2) (by decide) (by decide +kernel)), ?_⟩
  refine List.forall_mem_cons.mpr ⟨ae_mkc (fun X => ok_callV X (mid := 17) (index := 19) (y := my_17) rfl (by decide) ⟨by decide, by decide⟩ (n := 2) (by decide +kernel) wd_236 wd_47 wd_233 wd_234 wd_235 (ci := 2) rfl (by decide +kernel)), ?_⟩
  refine List.forall_mem_cons.mpr ⟨ae_mk pu_al (fun X => ok_aload_n X (k := 0) rfl (by decide +kernel)), ?_⟩
  refine List.forall_mem_cons.mpr ⟨ae_mk (pu_push (fun _ => trivial)) (fun X => ok_bipush X (n := 10) (by decide) (by decide +kernel)), ?_⟩
  refine List.forall_mem_cons.mpr ⟨ae_mk pu_il (fun X => ok_iload_n X (k := 2) rfl (by decide +kernel)), ?_⟩
  refine List.forall_mem_cons.mpr ⟨ae_mkc (fun X => ok_callV X (mid := 17) (index := 19) (y := my_17) rfl (by decide) ⟨by decide, by decide⟩ (n := 2) (by decide +kernel) wd_236 wd_47 wd_233 wd_234 wd_235 (ci := 2) rfl (by decide +kernel)), ?_⟩
  refine List.forall_mem_cons.mpr ⟨ae_mk pu_al (fun X => ok_aload_n X (k := 0) rfl (by decide +kernel)), ?_⟩
  refine List.forall_mem_cons.mpr ⟨ae_mk (pu_push (fun _ => trivial)) (fun X => ok_bipush X (n := 11) (by decide) (by decide +kernel)), ?_⟩
  refine List.forall_mem_cons.mpr ⟨ae_mk pu_il (fun X => ok_iload_n X (k := 3) rfl (by decide +kernel)), ?_⟩
  refine List.forall_mem_cons.mpr ⟨ae_mk pu_if (fun X => ok_if_ne X (off := 8) (by decide) (by decide +kernel)), ?_⟩
  refine List.forall_mem_cons.mpr ⟨ae_mk (pu_push (fun _ => trivial)) (fun X => ok_bipush X (n := 32) (by decide) (by decide +kernel)), ?_⟩
  refine List.forall_mem_cons.mpr ⟨ae_mk pu_goto (fun X => ok_goto X (off := 5) (by decide) (by decide +kernel)), ?_⟩
  refine List.forall_mem_cons.mpr ⟨ae_mk (pu_push (fun _ => trivial)) (fun X => ok_bipush X (n := 64) (by decide) (by decide +kernel)), ?_⟩
  refine List.forall_mem_cons.mpr ⟨ae_mkc (fun X => ok_callV X (mid := 17) (index := 19) (y := my_17) rfl (by decide) ⟨by decide, by decide⟩ (n := 2) (by decide +kernel) wd_236 wd_47 wd_233 wd_234 wd_235 (ci := 2) rfl (by decide +kernel)), ?_⟩
  refine List.forall_mem_cons.mpr ⟨ae_mk pu_al (fun X => ok_aload_n X (k := 0) rfl (by decide +kernel)), ?_⟩
  refine List.forall_mem_cons.mpr ⟨ae_mk (pu_push (fun _ => trivial)) (fun X => ok_bipush X (n := 12) (by decide) (by decide +kernel)), ?_⟩
  refine List.forall_mem_cons.mpr ⟨ae_mk (pu_push (fun _ => trivial)) (fun X => ok_bipush X (n := 8) (by decide) (by decide +kernel)), ?_⟩
  refine List.forall_mem_cons.mpr ⟨ae_mkc (fun X => ok_callV X (mid := 17) (index := 19) (y := my_17) rfl (by decide) ⟨by decide, by decide⟩ (n := 2) (by decide +kernel) wd_236 wd_47 wd_233 wd_234 wd_235 (ci := 2) rfl (by decide +kernel)), ?_⟩
  refine List.forall_mem_cons.mpr ⟨ae_mk pu_al (fun X => ok_aload_n X (k := 0) rfl (by decide +kernel)), ?_⟩
  refine List.forall_mem_cons.mpr ⟨ae_mk (pu_push (fun _ => trivial)) (fun X => ok_bipush X (n := 14) (by decide) (by decide +kernel)), ?_⟩
  refine List.forall_mem_cons.mpr ⟨ae_mk (pu_push (fun _ => trivial)) (fun X => ok_bipush X (n := 69) (by decide) (by decide +kernel)), ?_⟩
  refine List.forall_mem_cons.mpr ⟨ae_mkc (fun X => ok_callV X (mid := 17) (index := 19) (y := my_17) rfl (by decide) ⟨by decide, by decide⟩ (n := 2) (by decide +kernel) wd_236 wd_47 wd_233 wd_234 wd_235 (ci := 2) rfl (by decide +kernel)), ?_⟩
  refine List.forall_mem_cons.mpr ⟨ae_mk pu_al (fun X => ok_aload_n X (k := 0) rfl (by decide +kernel)), ?_⟩
  refine List.forall_mem_cons.mpr ⟨ae_mk (pu_push (fun _ => trivial)) (fun X => ok_bipush X (n := 16) (by decide) (by decide +kernel)), ?_⟩
  refine List.forall_mem_cons.mpr ⟨ae_mk (pu_push (fun _ => trivial)) (fun X => ok_bipush X (n := 20) (by decide) (by decide +kernel)), ?_⟩
  refine List.forall_mem_cons.mpr ⟨ae_mk pu_il (fun X => ok_iload X (by decide +kernel)), ?_⟩
  refine List.forall_mem_cons.mpr ⟨ae_mk pu_bin (fun X => ok_iadd X (by decide +kernel)), ?_⟩
  refine List.forall_mem_cons.mpr ⟨ae_mkc (fun X => ok_callV X (mid := 18) (index := 38) (y := my_18) rfl (by decide) ⟨by decide, by decide⟩ (n := 2) (by decide +kernel) wd_240 wd_47 wd_237 wd_238 wd_239 (ci := 2) rfl (by decide +kernel)), ?_⟩
  refine List.forall_mem_cons.mpr ⟨ae_mk pu_al (fun X => ok_aload_n X (k := 0) rfl (by decide +kernel)), ?_⟩
  refine List.forall_mem_cons.mpr ⟨ae_mk (pu_push (fun _ => trivial)) (fun X => ok_bipush X (n := 22) (by decide) (by decide +kernel)), ?_⟩
  refine List.forall_mem_cons.mpr ⟨ae_mk (pu_push (fun _ => trivial)) (fun X => ok_iconst X (n := 1) (by decide) (by decide +kernel)), ?_⟩
  refine List.forall_mem_cons.mpr ⟨ae_mkc (fun X => ok_callV X (mid := 17) (index := 19) (y := my_17) rfl (by decide) ⟨by decide, by decide⟩ (n := 2) (by decide +kernel) wd_236 wd_47 wd_233 wd_234 wd_235 (ci := 2) rfl (by decide +kernel)), ?_⟩
  refine List.forall_mem_cons.mpr ⟨ae_mk pu_al (fun X => ok_aload_n X (k := 0) rfl (by decide +kernel)), ?_⟩
  refine List.forall_mem_cons.mpr ⟨ae_mk (pu_push (fun _ => trivial)) (fun X => ok_bipush X (n := 23) (by decide) (by decide +kernel)), ?_⟩
  refine List.forall_mem_cons.mpr ⟨ae_mk (pu_push (fun _ => trivial)) (fun X => ok_bipush X (n := 17) (by decide) (by decide +kernel)), ?_⟩
  refine List.forall_mem_cons.mpr ⟨ae_mkc (fun X => ok_callV X (mid := 17) (index := 19) (y := my_17) rfl (by decide) ⟨by decide, by decide⟩ (n := 2) (by decide +kernel) wd_236 wd_47 wd_233 wd_234 wd_235 (ci := 2) rfl (by decide +kernel)), ?_⟩
  refine List.forall_mem_cons.mpr ⟨ae_mk pu_al (fun X => ok_aload_n X (k := 0) rfl (by decide +kernel)), ?_⟩
  refine List.forall_mem_cons.mpr ⟨ae_mk (pu_push (fun _ => trivial)) (fun X => ok_bipush X (n := 26) (by decide) (by decide +kernel)), ?_⟩
  refine List.forall_mem_cons.mpr ⟨ae_mk (pu_push (fun _ => trivial)) (fun X => ok_bipush X (n := 10) (by decide) (by decide +kernel)), ?_⟩
  refine List.forall_mem_cons.mpr ⟨ae_mkc (fun X => ok_callV X (mid := 17) (index := 19) (y := my_17) rfl (by decide) ⟨by decide, by decide⟩ (n := 2) (by decide +kernel) wd_236 wd_47 wd_233 wd_234 wd_235 (ci := 2) rfl (by decide +kernel)), ?_⟩
  refine List.forall_mem_cons.mpr ⟨ae_mk pu_al (fun X => ok_aload_n X (k := 0) rfl (by decide +kernel)), ?_⟩
  refine List.forall_mem_cons.mpr ⟨ae_mk (pu_push (fun _ => trivial)) (fun X => ok_bipush X (n := 27) (by decide) (by decide +kernel)), ?_⟩
  refine List.forall_mem_cons.mpr ⟨ae_mk (pu_push (fun _ => trivial)) (fun X => ok_iconst X (n := 1) (by decide) (by decide +kernel)), ?_⟩
  refine List.forall_mem_cons.mpr ⟨ae_mkc (fun X => ok_callV X (mid := 17) (index := 19) (y := my_17) rfl (by decide) ⟨by decide, by decide⟩ (n := 2) (by decide +kernel) wd_236 wd_47 wd_233 wd_234 wd_235 (ci := 2) rfl (by decide +kernel)), ?_⟩
  refine List.forall_mem_cons.mpr ⟨ae_mk pu_al (fun X => ok_aload_n X (k := 0) rfl (by decide +kernel)), ?_⟩
  refine List.forall_mem_cons.mpr ⟨ae_mk (pu_push (fun _ => trivial)) (fun X => ok_bipush X (n := 28) (by decide) (by decide +kernel)), ?_⟩
  refine List.forall_mem_cons.mpr ⟨ae_mk pu_il (fun X => ok_iload_n X (k := 2) rfl (by decide +kernel)), ?_⟩
  refine List.forall_mem_cons.mpr ⟨ae_mkc (fun X => ok_callV X (mid := 17) (index := 19) (y := my_17) rfl (by decide) ⟨by decide, by decide⟩ (n := 2) (by decide +kernel) wd_236 wd_47 wd_233 wd_234 wd_235 (ci := 2) rfl (by decide +kernel)), ?_⟩
  refine List.forall_mem_cons.mpr ⟨ae_mk pu_al (fun X => ok_aload_n X (k := 0) rfl (by decide +kernel)), ?_⟩
  refine List.forall_mem_cons.mpr ⟨ae_mk (pu_push (fun _ => trivial)) (fun X => ok_bipush X (n := 29) (by decide) (by decide +kernel)), ?_⟩
  refine List.forall_mem_cons.mpr ⟨ae_mk (pu_push (fun _ => trivial)) (fun X => ok_iconst X (n := 1) (by decide) (by decide +kernel)), ?_⟩
  refine List.forall_mem_cons.mpr ⟨ae_mkc (fun X => ok_callV X (mid := 17) (index := 19) (y := my_17) rfl (by decide) ⟨by decide, by decide⟩ (n := 2) (by decide +kernel) wd_236 wd_47 wd_233 wd_234 wd_235 (ci := 2) rfl (by decide +kernel)), ?_⟩
  refine List.forall_mem_cons.mpr ⟨ae_mk pu_al (fun X => ok_aload_n X (k := 0) rfl (by decide +kernel)), ?_⟩
  refine List.forall_mem_cons.mpr ⟨ae_mk (pu_push (fun _ => trivial)) (fun X => ok_bipush X (n := 30) (by decide) (by decide +kernel)), ?_⟩
  refine List.forall_mem_cons.mpr ⟨ae_mk (pu_push (fun _ => trivial)) (fun X => ok_sipush X (n := 224) (by decide) (by decide +kernel)), ?_⟩
  refine List.forall_mem_cons.mpr ⟨ae_mkc (fun X => ok_callV X (mid := 17) (index := 19) (y := my_17) rfl (by decide) ⟨by decide, by decide⟩ (n := 2) (by decide +kernel) wd_236 wd_47 wd_233 wd_234 wd_235 (ci := 2) rfl (by decide +kernel)), ?_⟩
  refine List.forall_mem_cons.mpr ⟨ae_mk pu_al (fun X => ok_aload_n X (k := 0) rfl (by decide +kernel)), ?_⟩
  refine List.forall_mem_cons.mpr ⟨ae_mk (pu_push (fun _ => trivial)) (fun X => ok_bipush X (n := 31) (by decide) (by decide +kernel)), ?_⟩
  refine List.forall_mem_cons.mpr ⟨ae_mk (pu_push (fun _ => trivial)) (fun X => ok_sipush X (n := 224) (by decide) (by decide +kernel)), ?_⟩
  refine List.forall_mem_cons.mpr ⟨ae_mkc (fun X => ok_callV X (mid := 17) (index := 19) (y := my_17) rfl (by decide) ⟨by decide, by decide⟩ (n := 2) (by decide +kernel) wd_236 wd_47 wd_233 wd_234 wd_235 (ci := 2) rfl (by decide +kernel)), ?_⟩
  refine List.forall_mem_cons.mpr ⟨ae_mk pu_al (fun X => ok_aload_n X (k := 0) rfl (by decide +kernel)), ?_⟩
  refine List.forall_mem_cons.mpr ⟨ae_mk (pu_push (fun _ => trivial)) (fun X => ok_bipush X (n := 33) (by decide) (by decide +kernel)), ?_⟩
  refine List.forall_mem_cons.mpr ⟨ae_mk pu_il (fun X => ok_iload_n X (k := 1) rfl (by decide +kernel)), ?_⟩
  refine List.forall_mem_cons.mpr ⟨ae_mkc (fun X => ok_callV X (mid := 17) (index := 19) (y := my_17) rfl (by decide) ⟨by decide, by decide⟩ (n := 2) (by decide +kernel) wd_236 wd_47 wd_233 wd_234 wd_235 (ci := 2) rfl (by decide +kernel)), ?_⟩
  refine List.forall_mem_cons.mpr ⟨⟨rfl, (by decide +kernel)⟩, ?_⟩
  exact fun _ h => absurd h List.not_mem_nil
def tb_17 : List (Nat × ae_I) := [(0, .inl (o_il 1 1)),
  (1, .inl (o_if (fun x => decide (x < 0)) 20 4)),
  (4, .inl (o_il 1 5)),
  (5, .inl (o_al 0 6)),
  (6, .inl (o_get 2 1 9)),
  (9, .inl (o_ic (fun x y => decide (y ≤ x)) 20 12)),
  (12, .inl (o_al 0 13)),
  (13, .inl (o_get 2 0 16)),
  (16, .inl (o_il 1 17)),
  (17, .inl (o_il 2 18)),
  (18, .inl (o_un (fun x => x.toInt8.toInt32) 19)),
  (19, .inl (o_bas 20)),
  (20, .inr (.inl none))]
theorem te_17 : ∀ q ∈ tb_17, ae_E am "TwinNetwork$Frame" "set" prog_4_method_4_code 3 (Option.none : Option Jvm.ClassFile.FieldType) [] q := by
  unfold tb_17
  refine List.forall_mem_cons.mpr ⟨ae_mk pu_il (fun X => ok_iload_n X (k := 1) rfl (by decide +kernel)), ?_⟩
  refine List.forall_mem_cons.mpr ⟨ae_mk pu_if (fun X => ok_if_lt X (off := 19) (by decide) (by decide +kernel)), ?_⟩
  refine List.forall_mem_cons.mpr ⟨ae_mk pu_il (fun X => ok_iload_n X (k := 1) rfl (by decide +kernel)), ?_⟩
  refine List.forall_mem_cons.mpr ⟨ae_mk pu_al (fun X => ok_aload_n X (k := 0) rfl (by decide +kernel)), ?_⟩
  refine List.forall_mem_cons.mpr ⟨ae_mk pu_get (fun X => ok_get X (ci := 2) (kk := 1) (index := 15) rfl aw_c_Frame (by decide) wd_81 (by decide +kernel)), ?_⟩
  refine List.forall_mem_cons.mpr ⟨ae_mk pu_ic (fun X => ok_ic_ge X (off := 11) (by decide) (by decide +kernel)), ?_⟩
  refine List.forall_mem_cons.mpr ⟨ae_mk pu_al (fun X => ok_aload_n X (k := 0) rfl (by decide +kernel)), ?_⟩
  refine List.forall_mem_cons.mpr ⟨ae_mk pu_get (fun X => ok_get X (ci := 2) (kk := 0) (index := 9) rfl aw_c_Frame (by decide) wd_80 (by decide +kernel)), ?_⟩
  refine List.forall_mem_cons.mpr ⟨ae_mk pu_il (fun X => ok_iload_n X (k := 1) rfl (by decide +kernel)), ?_⟩
  refine List.forall_mem_cons.mpr ⟨ae_mk pu_il (fun X => ok_iload_n X (k := 2) rfl (by decide +kernel)), ?_⟩
  refine List.forall_mem_cons.mpr ⟨ae_mk pu_un (fun X => ok_i2b X (by decide +kernel)), ?_⟩
  refine List.forall_mem_cons.mpr ⟨ae_mk pu_bas (fun X => ok_bas X (by decide +kernel)), ?_⟩
  refine List.forall_mem_cons.mpr ⟨⟨rfl, (by decide +kernel)⟩, ?_⟩
  exact fun _ h => absurd h List.not_mem_nil
def tb_18 : List (Nat × ae_I) := [(0, .inl (o_al 0 1)),
  (1, .inl (o_il 1 2)),
  (2, .inl (o_il 2 3)),
  (3, .inl (o_push (.int 8) 5)),
  (5, .inl (o_bin (fun x y => x >>> (y &&& 31)) 6)),
  (6, .inr (.inr (.inl (17, 3, 9, some 2, [])))),
  (9, .inl (o_al 0 10)),
  (10, .inl (o_il 1 11)),
  (11, .inl (o_push (.int 1) 12)),
  (12, .inl (o_bin (fun x y => x + y) 13)),
  (13, .inl (o_il 2 14)),
  (14, .inr (.inr (.inl (17, 3, 17, some 2, [])))),
  (17, .inr (.inl none))]
theorem te_18 : ∀ q ∈ tb_18, ae_E am "TwinNetwork$Frame" "setPair" prog_4_method_5_code 3 (Option.none : Option Jvm.ClassFile.FieldType) [] q := by
  unfold tb_18
  refine List.forall_mem_cons.mpr ⟨ae_mk pu_al (fun X => ok_aload_n X (k := 0) rfl (by decide +kernel)), ?_⟩
  refine List.forall_mem_cons.mpr ⟨ae_mk pu_il (fun X => ok_iload_n X (k := 1) rfl (by decide +kernel)), ?_⟩
  refine List.forall_mem_cons.mpr ⟨ae_mk pu_il (fun X => ok_iload_n X (k := 2) rfl (by decide +kernel)), ?_⟩
  refine List.forall_mem_cons.mpr ⟨ae_mk (pu_push (fun _ => trivial)) (fun X => ok_bipush X (n := 8) (by decide) (by decide +kernel)), ?_⟩
  refine List.forall_mem_cons.mpr ⟨ae_mk pu_bin (fun X => ok_ishr X (by decide +kernel)), ?_⟩
  refine List.forall_mem_cons.mpr ⟨ae_mkc (fun X => ok_callV X (mid := 17) (index := 19) (y := my_17) rfl (by decide) ⟨by decide, by decide⟩ (n := 2) (by decide +kernel) wd_236 wd_47 wd_233 wd_234 wd_235 (ci := 2) rfl (by decide +kernel)), ?_⟩
  refine List.forall_mem_cons.mpr ⟨ae_mk pu_al (fun X => ok_aload_n X (k := 0) rfl (by decide +kernel)), ?_⟩
  refine List.forall_mem_cons.mpr ⟨ae_mk pu_il (fun X => ok_iload_n X (k := 1) rfl (by decide +kernel)), ?_⟩
  refine List.forall_mem_cons.mpr ⟨ae_mk (pu_push (fun _ => trivial)) (fun X => ok_iconst X (n := 1) (by decide) (by decide +kernel)), ?_⟩
  refine List.forall_mem_cons.mpr ⟨ae_mk pu_bin (fun X => ok_iadd X (by decide +kernel)), ?_⟩
  refine List.forall_mem_cons.mpr ⟨ae_mk pu_il (fun X => ok_iload_n X (k := 2) rfl (by decide +kernel)), ?_⟩
  refine List.forall_mem_cons.mpr ⟨ae_mkc (fun X => ok_callV X (mid := 17) (index := 19) (y := my_17) rfl (by decide) ⟨by decide, by decide⟩ (n := 2) (by decide +kernel) wd_236 wd_47 wd_233 wd_234 wd_235 (ci := 2) rfl (by decide +kernel)), ?_⟩
  refine List.forall_mem_cons.mpr ⟨⟨rfl, (by decide +kernel)⟩, ?_⟩
  exact fun _ h => absurd h List.not_mem_nil
def tb_19 : List (Nat × ae_I) := [(0, .inl (o_al 0 1)),
  (1, .inl (o_push (.int 18) 3)),
  (3, .inl (o_il 1 4)),
  (4, .inr (.inr (.inl (18, 3, 7, some 2, [])))),
  (7, .inl (o_al 0 8)),
  (8, .inl (o_push (.int 20) 10)),
  (10, .inl (o_il 3 11)),
  (11, .inl (o_if (fun x => decide (x = 0)) 19 14)),
  (14, .inl (o_push (.int 32) 16)),
  (16, .inl (o_goto 20)),
  (19, .inl (o_push (.int 0) 20)),
  (20, .inr (.inr (.inl (17, 3, 23, some 2, [])))),
  (23, .inl (o_al 0 24)),
  (24, .inl (o_push (.int 21) 26)),
  (26, .inl (o_il 2 27)),
  (27, .inl (o_push (.int 8) 29)),
  (29, .inl (o_dv (fun x y => x / y) 30)),
  (30, .inr (.inr (.inl (17, 3, 33, some 2, [])))),
  (33, .inr (.inl none))]
theorem te_19 : ∀ q ∈ tb_19, ae_E am "TwinNetwork$Frame" "tellFragment" prog_4_method_8_code 4 (Option.none : Option Jvm.ClassFile.FieldType) [] q := by
  unfold tb_19
  refine List.forall_mem_cons.mpr ⟨ae_mk pu_al (fun X => ok_aload_n X (k := 0) rfl (by decide +kernel)), ?_⟩
  refine List.forall_mem_cons.mpr ⟨ae_mk (pu_push (fun _ => trivial)) (fun X => ok_bipush X (n := 18) (by decide) (by decide +kernel)), ?_⟩
  refine List.forall_mem_cons.mpr ⟨ae_mk pu_il (fun X => ok_iload_n X (k := 1) rfl (by decide +kernel)), ?_⟩
  refine List.forall_mem_cons.mpr ⟨ae_mkc (fun X => ok_callV X (mid := 18) (index := 38) (y := my_18) rfl (by decide) ⟨by decide, by decide⟩ (n := 2) (by decide +kernel) wd_240 wd_47 wd_237 wd_238 wd_239 (ci := 2) rfl (by decide +kernel)), ?_⟩
  refine List.forall_mem_cons.mpr ⟨ae_mk pu_al (fun X => ok_aload_n X (k := 0) rfl (by decide +kernel)), ?_⟩
  refine List.forall_mem_cons.mpr ⟨ae_mk (pu_push (fun _ => trivial)) (fun X => ok_bipush X (n := 20) (by decide) (by decide +kernel)), ?_⟩
  refine List.forall_mem_cons.mpr ⟨ae_mk pu_il (fun X => ok_iload_n X (k := 3) rfl (by decide +kernel)), ?_⟩
  refine List.forall_mem_cons.mpr ⟨ae_mk pu_if (fun X => ok_if_eq X (off := 8) (by decide) (by decide +kernel)), ?_⟩
  refine List.forall_mem_cons.mpr ⟨ae_mk (pu_push (fun _ => trivial)) (fun X => ok_bipush X (n := 32) (by decide) (by decide +kernel)), ?_⟩
  refine List.forall_mem_cons.mpr ⟨ae_mk pu_goto (fun X => ok_goto X (off := 4) (by decide) (by decide +kernel)), ?_⟩
  refine List.forall_mem_cons.mpr ⟨ae_mk (pu_push (fun _ => trivial)) (fun X => ok_iconst X (n := 0) (by decide) (by decide +kernel)), ?_⟩
  refine List.forall_mem_cons.mpr ⟨ae_mkc (fun X => ok_callV X (mid := 17) (index := 19) (y := my_17) rfl (by decide) ⟨by decide, by decide⟩ (n := 2) (by decide +kernel) wd_236 wd_47 wd_233 wd_234 wd_235 (ci := 2) rfl (by decide +kernel)), ?_⟩
  refine List.forall_mem_cons.mpr ⟨ae_mk pu_al (fun X => ok_aload_n X (k := 0) rfl (by decide +kernel)), ?_⟩
  refine List.forall_mem_cons.mpr ⟨ae_mk (pu_push (fun _ => trivial)) (fun X => ok_bipush X (n := 21) (by decide) (by decide +kernel)), ?_⟩
  refine List.forall_mem_cons.mpr ⟨ae_mk pu_il (fun X => ok_iload_n X (k := 2) rfl (by decide +kernel)), ?_⟩
  refine List.forall_mem_cons.mpr ⟨ae_mk (pu_push (fun _ => trivial)) (fun X => ok_bipush X (n := 8) (by decide) (by decide +kernel)), ?_⟩
  refine List.forall_mem_cons.mpr ⟨ae_mk pu_dv (fun X => ok_idiv X (by decide +kernel)), ?_⟩
  refine List.forall_mem_cons.mpr ⟨ae_mkc (fun X => ok_callV X (mid := 17) (index := 19) (y := my_17) rfl (by decide) ⟨by decide, by decide⟩ (n := 2) (by decide +kernel) wd_236 wd_47 wd_233 wd_234 wd_235 (ci := 2) rfl (by decide +kernel)), ?_⟩
  refine List.forall_mem_cons.mpr ⟨⟨rfl, (by decide +kernel)⟩, ?_⟩
  exact fun _ h => absurd h List.not_mem_nil
def tb_20 : List (Nat × ae_I) := [(0, .inl (o_il 2 1)),
  (1, .inl (o_sw 0 7 [48, 50, 56, 59, 65, 76, 88, 90] 92)),
  (48, .inl (o_push (.int 3) 49)),
  (49, .inr (.inl (some k_int))),
  (50, .inl (o_push (.int 232) 53)),
  (53, .inl (o_il 1 54)),
  (54, .inl (o_bin (fun x y => x + y) 55)),
  (55, .inr (.inl (some k_int))),
  (56, .inl (o_push (.int 7) 58)),
  (58, .inr (.inl (some k_int))),
  (59, .inl (o_push (.int 208) 62)),
  (62, .inl (o_il 1 63)),
  (63, .inl (o_bin (fun x y => x + y) 64)),
  (64, .inr (.inl (some k_int))),
  (65, .inl (o_push (.int 8) 67)),
  (67, .inl (o_al 0 68)),
  (68, .inl (o_get 1 1 71)),
  (71, .inl (o_bin (fun x y => x + y) 72)),
  (72, .inl (o_push (.int 8) 74)),
  (74, .inl (o_bin (fun x y => x >>> (y &&& 31)) 75)),
  (75, .inr (.inl (some k_int))),
  (76, .inl (o_push (.int 8) 78)),
  (78, .inl (o_al 0 79)),
  (79, .inl (o_get 1 1 82)),
  (82, .inl (o_bin (fun x y => x + y) 83)),
  (83, .inl (o_push (.int 255) 86)),
  (86, .inl (o_bin (fun x y => x &&& y) 87)),
  (87, .inr (.inl (some k_int))),
  (88, .inl (o_push (.int 0) 89)),
  (89, .inr (.inl (some k_int))),
  (90, .inl (o_push (.int 0) 91)),
  (91, .inr (.inl (some k_int))),
  (92, .inl (o_il 2 93)),
  (93, .inl (o_push (.int 8) 95)),
  (95, .inl (o_bin (fun x y => x - y) 96)),
  (96, .inl (o_is 3 97)),
  (97, .inl (o_al 0 98)),
  (98, .inl (o_get 1 2 101)),
  (101, .inl (o_push (.int 37) 103)),
  (103, .inl (o_il 3 104)),
  (104, .inl (o_bin (fun x y => x * y) 105)),
  (105, .inl (o_bin (fun x y => x + y) 106)),
  (106, .inl (o_il 3 107)),
  (107, .inl (o_il 3 108)),
  (108, .inl (o_bin (fun x y => x * y) 109)),
  (109, .inl (o_push (.int 8) 111)),
  (111, .inl (o_dv (fun x y => x / y) 112)),
  (112, .inl (o_bin (fun x y => x + y) 113)),
  (113, .inl (o_push (.int 255) 116)),
  (116, .inl (o_bin (fun x y => x &&& y) 117)),
  (117, .inr (.inl (some k_int)))]
theorem te_20 : ∀ q ∈ tb_20, ae_E am "TwinNetwork$Fragment" "datagramByte" prog_3_method_2_code 4 (Option.some Jvm.ClassFile.FieldType.int) [] q := by
  unfold tb_20
  refine List.forall_mem_cons.mpr ⟨ae_mk pu_il (fun X => ok_iload_n X (k := 2) rfl (by decide +kernel)), ?_⟩
  refine List.forall_mem_cons.mpr ⟨ae_mk pu_sw (fun X => ok_sw X (dflt := 91) (offs := #[47, 49, 55, 58, 64, 75, 87, 89]) (len := 47) (by decide) (sw_ok (by decide +kernel)) (by decide +kernel)), ?_⟩
  refine List.forall_mem_cons.mpr ⟨ae_mk (pu_push (fun _ => trivial)) (fun X => ok_iconst X (n := 3) (by decide) (by decide +kernel)), ?_⟩
  refine List.forall_mem_cons.mpr ⟨Or.inl ⟨rfl, (by decide +kernel), rt_int⟩, ?_⟩
  refine List.forall_mem_cons.mpr ⟨ae_mk (pu_push (fun _ => trivial)) (fun X => ok_sipush X (n := 232) (by decide) (by decide +kernel)), ?_⟩
  refine List.forall_mem_cons.mpr ⟨ae_mk pu_il (fun X => ok_iload_n X (k := 1) rfl (by decide +kernel)), ?_⟩
  refine List.forall_mem_cons.mpr ⟨ae_mk pu_bin (fun X => ok_iadd X (by decide +kernel)), ?_⟩
  refine List.forall_mem_cons.mpr ⟨Or.inl ⟨rfl, (by decide +kernel), rt_int⟩, ?_⟩
  refine List.forall_mem_cons.mpr ⟨ae_mk (pu_push (fun _ => trivial)) (fun X => ok_bipush X (n := 7) (by decide) (by decide +kernel)), ?_⟩
  refine List.forall_mem_cons.mpr ⟨Or.inl ⟨rfl, (by decide +kernel), rt_int⟩, ?_⟩
  refine List.forall_mem_cons.mpr ⟨ae_mk (pu_push (fun _ => trivial)) (fun X => ok_sipush X (n := 208) (by decide) (by decide +kernel)), ?_⟩
  refine List.forall_mem_cons.mpr ⟨ae_mk pu_il (fun X => ok_iload_n X (k := 1) rfl (by decide +kernel)), ?_⟩
  refine List.forall_mem_cons.mpr ⟨ae_mk pu_bin (fun X => ok_iadd X (by decide +kernel)), ?_⟩
  refine List.forall_mem_cons.mpr ⟨Or.inl ⟨rfl, (by decide +kernel), rt_int⟩, ?_⟩
  refine List.forall_mem_cons.mpr ⟨ae_mk (pu_push (fun _ => trivial)) (fun X => ok_bipush X (n := 8) (by decide) (by decide +kernel)), ?_⟩
  refine List.forall_mem_cons.mpr ⟨ae_mk pu_al (fun X => ok_aload_n X (k := 0) rfl (by decide +kernel)), ?_⟩
  refine List.forall_mem_cons.mpr ⟨ae_mk pu_get (fun X => ok_get X (ci := 1) (kk := 1) (index := 15) rfl aw_c_Fragment (by decide) wd_651 (by decide +kernel)), ?_⟩
  refine List.forall_mem_cons.mpr ⟨ae_mk pu_bin (fun X => ok_iadd X (by decide +kernel)), ?_⟩
  refine List.forall_mem_cons.mpr ⟨ae_mk (pu_push (fun _ => trivial)) (fun X => ok_bipush X (n := 8) (by decide) (by decide +kernel)), ?_⟩
  refine List.forall_mem_cons.mpr ⟨ae_mk pu_bin (fun X => ok_ishr X (by decide +kernel)), ?_⟩
  refine List.forall_mem_cons.mpr ⟨Or.inl ⟨rfl, (by decide +kernel), rt_int⟩, ?_⟩
  refine List.forall_mem_cons.mpr ⟨ae_mk (pu_push (fun _ => trivial)) (fun X => ok_bipush X (n := 8) (by decide) (by decide +kernel)), ?_⟩
  refine List.forall_mem_cons.mpr ⟨ae_mk pu_al (fun X => ok_aload_n X (k := 0) rfl (by decide +kernel)), ?_⟩
  refine List.forall_mem_cons.mpr ⟨ae_mk pu_get (fun X => ok_get X (ci := 1) (kk := 1) (index := 15) rfl aw_c_Fragment (by decide) wd_651 (by decide +kernel)), ?_⟩
  refine List.forall_mem_cons.mpr ⟨ae_mk pu_bin (fun X => ok_iadd X (by decide +kernel)), ?_⟩
  refine List.forall_mem_cons.mpr ⟨ae_mk (pu_push (fun _ => trivial)) (fun X => ok_sipush X (n := 255) (by decide) (by decide +kernel)), ?_⟩
  refine List.forall_mem_cons.mpr ⟨ae_mk pu_bin (fun X => ok_iand X (by decide +kernel)), ?_⟩
  refine List.forall_mem_cons.mpr ⟨Or.inl ⟨rfl, (by decide +kernel), rt_int⟩, ?_⟩
  refine List.forall_mem_cons.mpr ⟨ae_mk (pu_push (fun _ => trivial)) (fun X => ok_iconst X (n := 0) (by decide) (by decide +kernel)), ?_⟩
  refine List.forall_mem_cons.mpr ⟨Or.inl ⟨rfl, (by decide +kernel), rt_int⟩, ?_⟩
  refine List.forall_mem_cons.mpr ⟨ae_mk (pu_push (fun _ => trivial)) (fun X => ok_iconst X (n := 0) (by decide) (by decide +kernel)), ?_⟩
  refine List.forall_mem_cons.mpr ⟨Or.inl ⟨rfl, (by decide +kernel), rt_int⟩, ?_⟩
  refine List.forall_mem_cons.mpr ⟨ae_mk pu_il (fun X => ok_iload_n X (k := 2) rfl (by decide +kernel)), ?_⟩
  refine List.forall_mem_cons.mpr ⟨ae_mk (pu_push (fun _ => trivial)) (fun X => ok_bipush X (n := 8) (by decide) (by decide +kernel)), ?_⟩
  refine List.forall_mem_cons.mpr ⟨ae_mk pu_bin (fun X => ok_isub X (by decide +kernel)), ?_⟩
  refine List.forall_mem_cons.mpr ⟨ae_mk pu_is (fun X => ok_istore_n X (k := 3) rfl (by decide +kernel)), ?_⟩
  refine List.forall_mem_cons.mpr ⟨ae_mk pu_al (fun X => ok_aload_n X (k := 0) rfl (by decide +kernel)), ?_⟩
  refine List.forall_mem_cons.mpr ⟨ae_mk pu_get (fun X => ok_get X (ci := 1) (kk := 2) (index := 18) rfl aw_c_Fragment (by decide) wd_653 (by decide +kernel)), ?_⟩
  refine List.forall_mem_cons.mpr ⟨ae_mk (pu_push (fun _ => trivial)) (fun X => ok_bipush X (n := 37) (by decide) (by decide +kernel)), ?_⟩
  refine List.forall_mem_cons.mpr ⟨ae_mk pu_il (fun X => ok_iload_n X (k := 3) rfl (by decide +kernel)), ?_⟩
  refine List.forall_mem_cons.mpr ⟨ae_mk pu_bin (fun X => ok_imul X (by decide +kernel)), ?_⟩
  refine List.forall_mem_cons.mpr ⟨ae_mk pu_bin (fun X => ok_iadd X (by decide +kernel)), ?_⟩
  refine List.forall_mem_cons.mpr ⟨ae_mk pu_il (fun X => ok_iload_n X (k := 3) rfl (by decide +kernel)), ?_⟩
  refine List.forall_mem_cons.mpr ⟨ae_mk pu_il (fun X => ok_iload_n X (k := 3) rfl (by decide +kernel)), ?_⟩
  refine List.forall_mem_cons.mpr ⟨ae_mk pu_bin (fun X => ok_imul X (by decide +kernel)), ?_⟩
  refine List.forall_mem_cons.mpr ⟨ae_mk (pu_push (fun _ => trivial)) (fun X => ok_bipush X (n := 8) (by decide) (by decide +kernel)), ?_⟩
  refine List.forall_mem_cons.mpr ⟨ae_mk pu_dv (fun X => ok_idiv X (by decide +kernel)), ?_⟩
  refine List.forall_mem_cons.mpr ⟨ae_mk pu_bin (fun X => ok_iadd X (by decide +kernel)), ?_⟩
  refine List.forall_mem_cons.mpr ⟨ae_mk (pu_push (fun _ => trivial)) (fun X => ok_sipush X (n := 255) (by decide) (by decide +kernel)), ?_⟩
  refine List.forall_mem_cons.mpr ⟨ae_mk pu_bin (fun X => ok_iand X (by decide +kernel)), ?_⟩
  refine List.forall_mem_cons.mpr ⟨Or.inl ⟨rfl, (by decide +kernel), rt_int⟩, ?_⟩
  exact fun _ h => absurd h List.not_mem_nil
def tb_21 : List (Nat × ae_I) := [(0, .inl (o_al 0 1)),
  (1, .inl (o_push (.int 24) 3)),
  (3, .inl (o_al 0 4)),
  (4, .inr (.inr (.inl (22, 1, 7, some 2, [])))),
  (7, .inr (.inr (.inl (18, 3, 10, some 2, [])))),
  (10, .inl (o_al 0 11)),
  (11, .inl (o_al 0 12)),
  (12, .inl (o_get 2 1 15)),
  (15, .inl (o_push (.int 4) 16)),
  (16, .inl (o_bin (fun x y => x - y) 17)),
  (17, .inl (o_push (.int 1) 18)),
  (18, .inl (o_bin (fun x y => x - y) 19)),
  (19, .inl (o_il 1 20)),
  (20, .inr (.inr (.inl (17, 3, 23, some 2, [])))),
  (23, .inl (o_al 0 24)),
  (24, .inr (.inr (.inl (24, 1, 27, some 2, [])))),
  (27, .inl (o_is 2 28)),
  (28, .inl (o_push (.int 0) 29)),
  (29, .inl (o_is 3 30)),
  (30, .inl (o_il 3 31)),
  (31, .inl (o_push (.int 4) 32)),
  (32, .inl (o_ic (fun x y => decide (y ≤ x)) 59 35)),
  (35, .inl (o_al 0 36)),
  (36, .inl (o_al 0 37)),
  (37, .inl (o_get 2 1 40)),
  (40, .inl (o_push (.int 4) 41)),
  (41, .inl (o_bin (fun x y => x - y) 42)),
  (42, .inl (o_il 3 43)),
  (43, .inl (o_bin (fun x y => x + y) 44)),
  (44, .inl (o_il 2 45)),
  (45, .inl (o_push (.int 8) 47)),
  (47, .inl (o_il 3 48)),
  (48, .inl (o_bin (fun x y => x * y) 49)),
  (49, .inl (o_bin (fun x y => x >>> (y &&& 31)) 50)),
  (50, .inr (.inr (.inl (17, 3, 53, some 2, [])))),
  (53, .inl (o_inc 3 1 56)),
  (56, .inl (o_goto 30)),
  (59, .inr (.inl none))]
theorem te_21 : ∀ q ∈ tb_21, ae_E am "TwinNetwork$Frame" "seal" prog_4_method_9_code 4 (Option.none : Option Jvm.ClassFile.FieldType) [] q := by
  unfold tb_21
  refine List.forall_mem_cons.mpr ⟨ae_mk pu_al (fun X => ok_aload_n X (k := 0) rfl (by decide +kernel)), ?_⟩
  refine List.forall_mem_cons.mpr ⟨ae_mk (pu_push (fun _ => trivial)) (fun X => ok_bipush X (n := 24) (by decide) (by decide +kernel)), ?_⟩
  refine List.forall_mem_cons.mpr ⟨ae_mk pu_al (fun X => ok_aload_n X (k := 0) rfl (by decide +kernel)), ?_⟩
  refine List.forall_mem_cons.mpr ⟨ae_mkc (fun X => ok_callV X (mid := 22) (index := 41) (y := my_22) rfl (by decide) ⟨by decide, by decide⟩ (n := 0) (by decide +kernel) wd_257 wd_47 wd_254 wd_256 wd_4 (ci := 2) rfl (by decide +kernel)), ?_⟩
  refine List.forall_mem_cons.mpr ⟨ae_mkc (fun X => ok_callV X (mid := 18) (index := 38) (y := my_18) rfl (by decide) ⟨by decide, by decide⟩ (n := 2) (by decide +kernel) wd_240 wd_47 wd_237 wd_238 wd_239 (ci := 2) rfl (by decide +kernel)), ?_⟩
  refine List.forall_mem_cons.mpr ⟨ae_mk pu_al (fun X => ok_aload_n X (k := 0) rfl (by decide +kernel)), ?_⟩
  refine List.forall_mem_cons.mpr ⟨ae_mk pu_al (fun X => ok_aload_n X (k := 0) rfl (by decide +kernel)), ?_⟩
  refine List.forall_mem_cons.mpr ⟨ae_mk pu_get (fun X => ok_get X (ci := 2) (kk := 1) (index := 15) rfl aw_c_Frame (by decide) wd_81 (by decide +kernel)), ?_⟩
  refine List.forall_mem_cons.mpr ⟨ae_mk (pu_push (fun _ => trivial)) (fun X => ok_iconst X (n := 4) (by decide) (by decide +kernel)), ?_⟩
  refine List.forall_mem_cons.mpr ⟨ae_mk pu_bin (fun X => ok_isub X (by decide +kernel)), ?_⟩
  refine List.forall_mem_cons.mpr ⟨ae_mk (pu_push (fun _ => trivial)) (fun X => ok_iconst X (n := 1) (by decide) (by decide +kernel)), ?_⟩
  refine List.forall_mem_cons.mpr ⟨ae_mk pu_bin (fun X => ok_isub X (by decide +kernel)), ?_⟩
  refine List.forall_mem_cons.mpr ⟨ae_mk pu_il (fun X => ok_iload_n X (k := 1) rfl (by decide +kernel)), ?_⟩
  refine List.forall_mem_cons.mpr ⟨ae_mkc (fun X => ok_callV X (mid := 17) (index := 19) (y := my_17) rfl (by decide) ⟨by decide, by decide⟩ (n := 2) (by decide +kernel) wd_236 wd_47 wd_233 wd_234 wd_235 (ci := 2) rfl (by decide +kernel)), ?_⟩
  refine List.forall_mem_cons.mpr ⟨ae_mk pu_al (fun X => ok_aload_n X (k := 0) rfl (by decide +kernel)), ?_⟩
  refine List.forall_mem_cons.mpr ⟨ae_mkc (fun X => ok_callV X (mid := 24) (index := 45) (y := my_24) rfl (by decide) ⟨by decide, by decide⟩ (n := 0) (by decide +kernel) wd_266 wd_47 wd_263 wd_265 wd_5 (ci := 2) rfl (by decide +kernel)), ?_⟩
  refine List.forall_mem_cons.mpr ⟨ae_mk pu_is (fun X => ok_istore_n X (k := 2) rfl (by decide +kernel)), ?_⟩
  refine List.forall_mem_cons.mpr ⟨ae_mk (pu_push (fun _ => trivial)) (fun X => ok_iconst X (n := 0) (by decide) (by decide +kernel)), ?_⟩
  refine List.forall_mem_cons.mpr ⟨ae_mk pu_is (fun X => ok_istore_n X (k := 3) rfl (by decide +kernel)), ?_⟩
  refine List.forall_mem_cons.mpr ⟨ae_mk pu_il (fun X => ok_iload_n X (k := 3) rfl (by decide +kernel)), ?_⟩
  refine List.forall_mem_cons.mpr ⟨ae_mk (pu_push (fun _ => trivial)) (fun X => ok_iconst X (n := 4) (by decide) (by decide +kernel)), ?_⟩
  refine List.forall_mem_cons.mpr ⟨ae_mk pu_ic (fun X => ok_ic_ge X (off := 27) (by decide) (by decide +kernel)), ?_⟩
  refine List.forall_mem_cons.mpr ⟨ae_mk pu_al (fun X => ok_aload_n X (k := 0) rfl (by decide +kernel)), ?_⟩
  refine List.forall_mem_cons.mpr ⟨ae_mk pu_al (fun X => ok_aload_n X (k := 0) rfl (by decide +kernel)), ?_⟩
  refine List.forall_mem_cons.mpr ⟨ae_mk pu_get (fun X => ok_get X (ci := 2) (kk := 1) (index := 15) rfl aw_c_Frame (by decide) wd_81 (by decide +kernel)), ?_⟩
  refine List.forall_mem_cons.mpr ⟨ae_mk (pu_push (fun _ => trivial)) (fun X => ok_iconst X (n := 4) (by decide) (by decide +kernel)), ?_⟩
  refine List.forall_mem_cons.mpr ⟨ae_mk pu_bin (fun X => ok_isub X (by decide +kernel)), ?_⟩
  refine List.forall_mem_cons.mpr ⟨ae_mk pu_il (fun X => ok_iload_n X (k := 3) rfl (by decide +kernel)), ?_⟩
  refine List.forall_mem_cons.mpr ⟨ae_mk pu_bin (fun X => ok_iadd X (by decide +kernel)), ?_⟩
  refine List.forall_mem_cons.mpr ⟨ae_mk pu_il (fun X => ok_iload_n X (k := 2) rfl (by decide +kernel)), ?_⟩
  refine List.forall_mem_cons.mpr ⟨ae_mk (pu_push (fun _ => trivial)) (fun X => ok_bipush X (n := 8) (by decide) (by decide +kernel)), ?_⟩
  refine List.forall_mem_cons.mpr ⟨ae_mk pu_il (fun X => ok_iload_n X (k := 3) rfl (by decide +kernel)), ?_⟩
  refine List.forall_mem_cons.mpr ⟨ae_mk pu_bin (fun X => ok_imul X (by decide +kernel)), ?_⟩
  refine List.forall_mem_cons.mpr ⟨ae_mk pu_bin (fun X => ok_ishr X (by decide +kernel)), ?_⟩
  refine List.forall_mem_cons.mpr ⟨ae_mkc (fun X => ok_callV X (mid := 17) (index := 19) (y := my_17) rfl (by decide) ⟨by decide, by decide⟩ (n := 2) (by decide +kernel) wd_236 wd_47 wd_233 wd_234 wd_235 (ci := 2) rfl (by decide +kernel)), ?_⟩
  refine List.forall_mem_cons.mpr ⟨ae_mk pu_inc (fun X => ok_iinc X (n := 1) (by decide) (by decide +kernel)), ?_⟩
  refine List.forall_mem_cons.mpr ⟨ae_mk pu_goto (fun X => ok_goto X (off := (-26)) (by decide) (by decide +kernel)), ?_⟩
  refine List.forall_mem_cons.mpr ⟨⟨rfl, (by decide +kernel)⟩, ?_⟩
  exact fun _ h => absurd h List.not_mem_nil
def tb_22 : List (Nat × ae_I) := [(0, .inl (o_push (.int 0) 1)),
  (1, .inl (o_is 1 2)),
  (2, .inl (o_push (.int 14) 4)),
  (4, .inl (o_is 2 5)),
  (5, .inl (o_il 2 6)),
  (6, .inl (o_push (.int 34) 8)),
  (8, .inl (o_ic (fun x y => decide (y ≤ x)) 31 11)),
  (11, .inl (o_il 2 12)),
  (12, .inl (o_push (.int 24) 14)),
  (14, .inl (o_ic (fun x y => decide (x = y)) 25 17)),
  (17, .inl (o_il 1 18)),
  (18, .inl (o_al 0 19)),
  (19, .inl (o_il 2 20)),
  (20, .inr (.inr (.inl (23, 2, 23, some 2, [])))),
  (23, .inl (o_bin (fun x y => x + y) 24)),
  (24, .inl (o_is 1 25)),
  (25, .inl (o_inc 2 2 28)),
  (28, .inl (o_goto 5)),
  (31, .inl (o_il 1 32)),
  (32, .inl (o_push (.int 16) 34)),
  (34, .inl (o_bin (fun x y => x >>> (y &&& 31)) 35)),
  (35, .inl (o_il 1 36)),
  (36, .inl (o_push (.int (65535 : Int32)) 38)),
  (38, .inl (o_bin (fun x y => x &&& y) 39)),
  (39, .inl (o_bin (fun x y => x + y) 40)),
  (40, .inl (o_is 1 41)),
  (41, .inl (o_il 1 42)),
  (42, .inl (o_push (.int 16) 44)),
  (44, .inl (o_bin (fun x y => x >>> (y &&& 31)) 45)),
  (45, .inl (o_il 1 46)),
  (46, .inl (o_push (.int (65535 : Int32)) 48)),
  (48, .inl (o_bin (fun x y => x &&& y) 49)),
  (49, .inl (o_bin (fun x y => x + y) 50)),
  (50, .inl (o_is 1 51)),
  (51, .inl (o_il 1 52)),
  (52, .inl (o_push (.int (-1)) 53)),
  (53, .inl (o_bin (fun x y => x ^^^ y) 54)),
  (54, .inl (o_push (.int (65535 : Int32)) 56)),
  (56, .inl (o_bin (fun x y => x &&& y) 57)),
  (57, .inr (.inl (some k_int)))]
theorem te_22 : ∀ q ∈ tb_22, ae_E am "TwinNetwork$Frame" "sum" prog_4_method_19_code 3 (Option.some Jvm.ClassFile.FieldType.int) [] q := by
  unfold tb_22
  refine List.forall_mem_cons.mpr ⟨ae_mk (pu_push (fun _ => trivial)) (fun X => ok_iconst X (n := 0) (by decide) (by decide +kernel)), ?_⟩
  refine List.forall_mem_cons.mpr ⟨ae_mk pu_is (fun X => ok_istore_n X (k := 1) rfl (by decide +kernel)), ?_⟩
  refine List.forall_mem_cons.mpr ⟨ae_mk (pu_push (fun _ => trivial)) (fun X => ok_bipush X (n := 14) (by decide) (by decide +kernel)), ?_⟩
  refine List.forall_mem_cons.mpr ⟨ae_mk pu_is (fun X => ok_istore_n X (k := 2) rfl (by decide +kernel)), ?_⟩
  refine List.forall_mem_cons.mpr ⟨ae_mk pu_il (fun X => ok_iload_n X (k := 2) rfl (by decide +kernel)), ?_⟩
  refine List.forall_mem_cons.mpr ⟨ae_mk (pu_push (fun _ => trivial)) (fun X => ok_bipush X (n := 34) (by decide) (by decide +kernel)), ?_⟩
  refine List.forall_mem_cons.mpr ⟨ae_mk pu_ic (fun X => ok_ic_ge X (off := 23) (by decide) (by decide +kernel)), ?_⟩
  refine List.forall_mem_cons.mpr ⟨ae_mk pu_il (fun X => ok_iload_n X (k := 2) rfl (by decide +kernel)), ?_⟩
  refine List.forall_mem_cons.mpr ⟨ae_mk (pu_push (fun _ => trivial)) (fun X => ok_bipush X (n := 24) (by decide) (by decide +kernel)), ?_⟩
  refine List.forall_mem_cons.mpr ⟨ae_mk pu_ic (fun X => ok_ic_eq X (off := 11) (by decide) (by decide +kernel)), ?_⟩
  refine List.forall_mem_cons.mpr ⟨ae_mk pu_il (fun X => ok_iload_n X (k := 1) rfl (by decide +kernel)), ?_⟩
  refine List.forall_mem_cons.mpr ⟨ae_mk pu_al (fun X => ok_aload_n X (k := 0) rfl (by decide +kernel)), ?_⟩
  refine List.forall_mem_cons.mpr ⟨ae_mk pu_il (fun X => ok_iload_n X (k := 2) rfl (by decide +kernel)), ?_⟩
  refine List.forall_mem_cons.mpr ⟨ae_mkc (fun X => ok_callV X (mid := 23) (index := 52) (y := my_23) rfl (by decide) ⟨by decide, by decide⟩ (n := 1) (by decide +kernel) wd_261 wd_47 wd_258 wd_259 wd_260 (ci := 2) rfl (by decide +kernel)), ?_⟩
  refine List.forall_mem_cons.mpr ⟨ae_mk pu_bin (fun X => ok_iadd X (by decide +kernel)), ?_⟩
  refine List.forall_mem_cons.mpr ⟨ae_mk pu_is (fun X => ok_istore_n X (k := 1) rfl (by decide +kernel)), ?_⟩
  refine List.forall_mem_cons.mpr ⟨ae_mk pu_inc (fun X => ok_iinc X (n := 2) (by decide) (by decide +kernel)), ?_⟩
  refine List.forall_mem_cons.mpr ⟨ae_mk pu_goto (fun X => ok_goto X (off := (-23)) (by decide) (by decide +kernel)), ?_⟩
  refine List.forall_mem_cons.mpr ⟨ae_mk pu_il (fun X => ok_iload_n X (k := 1) rfl (by decide +kernel)), ?_⟩
  refine List.forall_mem_cons.mpr ⟨ae_mk (pu_push (fun _ => trivial)) (fun X => ok_bipush X (n := 16) (by decide) (by decide +kernel)), ?_⟩
  refine List.forall_mem_cons.mpr ⟨ae_mk pu_bin (fun X => ok_ishr X (by decide +kernel)), ?_⟩
  refine List.forall_mem_cons.mpr ⟨ae_mk pu_il (fun X => ok_iload_n X (k := 1) rfl (by decide +kernel)), ?_⟩
  refine List.forall_mem_cons.mpr ⟨ae_mk (pu_push (fun _ => trivial)) (fun X => ok_ldc X (index := 58) wd_262 (by decide +kernel)), ?_⟩
  refine List.forall_mem_cons.mpr ⟨ae_mk pu_bin (fun X => ok_iand X (by decide +kernel)), ?_⟩
  refine List.forall_mem_cons.mpr ⟨ae_mk pu_bin (fun X => ok_iadd X (by decide +kernel)), ?_⟩
  refine List.forall_mem_cons.mpr ⟨ae_mk pu_is (fun X => ok_istore_n X (k := 1) rfl (by decide +kernel)), ?_⟩
  refine List.forall_mem_cons.mpr ⟨ae_mk pu_il (fun X => ok_iload_n X (k := 1) rfl (by decide +kernel)), ?_⟩
  refine List.forall_mem_cons.mpr ⟨ae_mk (pu_push (fun _ => trivial)) (fun X => ok_bipush X (n := 16) (by decide) (by decide +kernel)), ?_⟩
  refine List.forall_mem_cons.mpr ⟨ae_mk pu_bin (fun X => ok_ishr X (by decide +kernel)), ?_⟩
  refine List.forall_mem_cons.mpr ⟨ae_mk pu_il (fun X => ok_iload_n X (k := 1) rfl (by decide +kernel)), ?_⟩
  refine List.forall_mem_cons.mpr ⟨ae_mk (pu_push (fun _ => trivial)) (fun X => ok_ldc X (index := 58) wd_262 (by decide +kernel)), ?_⟩
  refine List.forall_mem_cons.mpr ⟨ae_mk pu_bin (fun X => ok_iand X (by decide +kernel)), ?_⟩
  refine List.forall_mem_cons.mpr ⟨ae_mk pu_bin (fun X => ok_iadd X (by decide +kernel)), ?_⟩
  refine List.forall_mem_cons.mpr ⟨ae_mk pu_is (fun X => ok_istore_n X (k := 1) rfl (by decide +kernel)), ?_⟩
  refine List.forall_mem_cons.mpr ⟨ae_mk pu_il (fun X => ok_iload_n X (k := 1) rfl (by decide +kernel)), ?_⟩
  refine List.forall_mem_cons.mpr ⟨ae_mk (pu_push (fun _ => trivial)) (fun X => ok_iconst X (n := (-1)) (by decide) (by decide +kernel)), ?_⟩
  refine List.forall_mem_cons.mpr ⟨ae_mk pu_bin (fun X => ok_ixor X (by decide +kernel)), ?_⟩
  refine List.forall_mem_cons.mpr ⟨ae_mk (pu_push (fun _ => trivial)) (fun X => ok_ldc X (index := 58) wd_262 (by decide +kernel)), ?_⟩
  refine List.forall_mem_cons.mpr ⟨ae_mk pu_bin (fun X => ok_iand X (by decide +kernel)), ?_⟩
  refine List.forall_mem_cons.mpr ⟨Or.inl ⟨rfl, (by decide +kernel), rt_int⟩, ?_⟩
  exact fun _ h => absurd h List.not_mem_nil
def tb_23 : List (Nat × ae_I) := [(0, .inl (o_il 1 1)),
  (1, .inl (o_if (fun x => decide (x < 0)) 43 4)),
  (4, .inl (o_il 1 5)),
  (5, .inl (o_push (.int 1) 6)),
  (6, .inl (o_bin (fun x y => x + y) 7)),
  (7, .inl (o_al 0 8)),
  (8, .inl (o_get 2 1 11)),
  (11, .inl (o_ic (fun x y => decide (y ≤ x)) 43 14)),
  (14, .inl (o_al 0 15)),
  (15, .inl (o_get 2 0 18)),
  (18, .inl (o_il 1 19)),
  (19, .inl (o_ba 20)),
  (20, .inl (o_push (.int 255) 23)),
  (23, .inl (o_bin (fun x y => x &&& y) 24)),
  (24, .inl (o_push (.int 8) 26)),
  (26, .inl (o_bin (fun x y => x <<< (y &&& 31)) 27)),
  (27, .inl (o_al 0 28)),
  (28, .inl (o_get 2 0 31)),
  (31, .inl (o_il 1 32)),
  (32, .inl (o_push (.int 1) 33)),
  (33, .inl (o_bin (fun x y => x + y) 34)),
  (34, .inl (o_ba 35)),
  (35, .inl (o_push (.int 255) 38)),
  (38, .inl (o_bin (fun x y => x &&& y) 39)),
  (39, .inl (o_bin (fun x y => x ||| y) 40)),
  (40, .inl (o_goto 44)),
  (43, .inl (o_push (.int (-1)) 44)),
  (44, .inr (.inl (some k_int)))]
theorem te_23 : ∀ q ∈ tb_23, ae_E am "TwinNetwork$Frame" "pairAt" prog_4_method_3_code 2 (Option.some Jvm.ClassFile.FieldType.int) [] q := by
  unfold tb_23
  refine List.forall_mem_cons.mpr ⟨ae_mk pu_il (fun X => ok_iload_n X (k := 1) rfl (by decide +kernel)), ?_⟩
  refine List.forall_mem_cons.mpr ⟨ae_mk pu_if (fun X => ok_if_lt X (off := 42) (by decide) (by decide +kernel)), ?_⟩
  refine List.forall_mem_cons.mpr ⟨ae_mk pu_il (fun X => ok_iload_n X (k := 1) rfl (by decide +kernel)), ?_⟩
  refine List.forall_mem_cons.mpr ⟨ae_mk (pu_push (fun _ => trivial)) (fun X => ok_iconst X (n := 1) (by decide) (by decide +kernel)), ?_⟩
  refine List.forall_mem_cons.mpr ⟨ae_mk pu_bin (fun X => ok_iadd X (by decide +kernel)), ?_⟩
  refine List.forall_mem_cons.mpr ⟨ae_mk pu_al (fun X => ok_aload_n X (k := 0) rfl (by decide +kernel)), ?_⟩
  refine List.forall_mem_cons.mpr ⟨ae_mk pu_get (fun X => ok_get X (ci := 2) (kk := 1) (index := 15) rfl aw_c_Frame (by decide) wd_81 (by decide +kernel)), ?_⟩
  refine List.forall_mem_cons.mpr ⟨ae_mk pu_ic (fun X => ok_ic_ge X (off := 32) (by decide) (by decide +kernel)), ?_⟩
  refine List.forall_mem_cons.mpr ⟨ae_mk pu_al (fun X => ok_aload_n X (k := 0) rfl (by decide +kernel)), ?_⟩
  refine List.forall_mem_cons.mpr ⟨ae_mk pu_get (fun X => ok_get X (ci := 2) (kk := 0) (index := 9) rfl aw_c_Frame (by decide) wd_80 (by decide +kernel)), ?_⟩
  refine List.forall_mem_cons.mpr ⟨ae_mk pu_il (fun X => ok_iload_n X (k := 1) rfl (by decide +kernel)), ?_⟩
  refine List.forall_mem_cons.mpr ⟨ae_mk pu_ba (fun X => ok_ba X (by decide +kernel)), ?_⟩
  refine List.forall_mem_cons.mpr ⟨ae_mk (pu_push (fun _ => trivial)) (fun X => ok_sipush X (n := 255) (by decide) (by decide +kernel)), ?_⟩
  refine List.forall_mem_cons.mpr ⟨ae_mk pu_bin (fun X => ok_iand X (by decide +kernel)), ?_⟩
  refine List.forall_mem_cons.mpr ⟨ae_mk (pu_push (fun _ => trivial)) (fun X => ok_bipush X (n := 8) (by decide) (by decide +kernel)), ?_⟩
  refine List.forall_mem_cons.mpr ⟨ae_mk pu_bin (fun X => ok_ishl X (by decide +kernel)), ?_⟩
  refine List.forall_mem_cons.mpr ⟨ae_mk pu_al (fun X => ok_aload_n X (k := 0) rfl (by decide +kernel)), ?_⟩
  refine List.forall_mem_cons.mpr ⟨ae_mk pu_get (fun X => ok_get X (ci := 2) (kk := 0) (index := 9) rfl aw_c_Frame (by decide) wd_80 (by decide +kernel)), ?_⟩
  refine List.forall_mem_cons.mpr ⟨ae_mk pu_il (fun X => ok_iload_n X (k := 1) rfl (by decide +kernel)), ?_⟩
  refine List.forall_mem_cons.mpr ⟨ae_mk (pu_push (fun _ => trivial)) (fun X => ok_iconst X (n := 1) (by decide) (by decide +kernel)), ?_⟩
  refine List.forall_mem_cons.mpr ⟨ae_mk pu_bin (fun X => ok_iadd X (by decide +kernel)), ?_⟩
  refine List.forall_mem_cons.mpr ⟨ae_mk pu_ba (fun X => ok_ba X (by decide +kernel)), ?_⟩
  refine List.forall_mem_cons.mpr ⟨ae_mk (pu_push (fun _ => trivial)) (fun X => ok_sipush X (n := 255) (by decide) (by decide +kernel)), ?_⟩
  refine List.forall_mem_cons.mpr ⟨ae_mk pu_bin (fun X => ok_iand X (by decide +kernel)), ?_⟩
  refine List.forall_mem_cons.mpr ⟨ae_mk pu_bin (fun X => ok_ior X (by decide +kernel)), ?_⟩
  refine List.forall_mem_cons.mpr ⟨ae_mk pu_goto (fun X => ok_goto X (off := 4) (by decide) (by decide +kernel)), ?_⟩
  refine List.forall_mem_cons.mpr ⟨ae_mk (pu_push (fun _ => trivial)) (fun X => ok_iconst X (n := (-1)) (by decide) (by decide +kernel)), ?_⟩
  refine List.forall_mem_cons.mpr ⟨Or.inl ⟨rfl, (by decide +kernel), rt_int⟩, ?_⟩
  exact fun _ h => absurd h List.not_mem_nil
def tb_24 : List (Nat × ae_I) := [(0, .inl (o_push (.int (-1)) 1)),
  (1, .inl (o_is 1 2)),
  (2, .inl (o_push (.int 0) 3)),
  (3, .inl (o_is 2 4)),
  (4, .inl (o_il 2 5)),
  (5, .inl (o_al 0 6)),
  (6, .inl (o_get 2 1 9)),
  (9, .inl (o_push (.int 4) 10)),
  (10, .inl (o_bin (fun x y => x - y) 11)),
  (11, .inl (o_ic (fun x y => decide (y ≤ x)) 59 14)),
  (14, .inl (o_il 1 15)),
  (15, .inl (o_al 0 16)),
  (16, .inl (o_get 2 0 19)),
  (19, .inl (o_il 2 20)),
  (20, .inl (o_ba 21)),
  (21, .inl (o_push (.int 255) 24)),
  (24, .inl (o_bin (fun x y => x &&& y) 25)),
  (25, .inl (o_bin (fun x y => x ^^^ y) 26)),
  (26, .inl (o_is 1 27)),
  (27, .inl (o_il 1 28)),
  (28, .inl (o_push (.int 4) 29)),
  (29, .inl (o_bin (fun x y => (x.toUInt32 >>> (y.toUInt32 &&& Int32.toUInt32 31)).toInt32) 30)),
  (30, .inl (o_push (.retAddr 3) 33)),
  (33, .inl (o_il 1 34)),
  (34, .inl (o_push (.int 15) 36)),
  (36, .inl (o_bin (fun x y => x &&& y) 37)),
  (37, .inl (o_ia 38)),
  (38, .inl (o_bin (fun x y => x ^^^ y) 39)),
  (39, .inl (o_is 1 40)),
  (40, .inl (o_il 1 41)),
  (41, .inl (o_push (.int 4) 42)),
  (42, .inl (o_bin (fun x y => (x.toUInt32 >>> (y.toUInt32 &&& Int32.toUInt32 31)).toInt32) 43)),
  (43, .inl (o_push (.retAddr 3) 46)),
  (46, .inl (o_il 1 47)),
  (47, .inl (o_push (.int 15) 49)),
  (49, .inl (o_bin (fun x y => x &&& y) 50)),
  (50, .inl (o_ia 51)),
  (51, .inl (o_bin (fun x y => x ^^^ y) 52)),
  (52, .inl (o_is 1 53)),
  (53, .inl (o_inc 2 1 56)),
  (56, .inl (o_goto 4)),
  (59, .inl (o_il 1 60)),
  (60, .inl (o_push (.int (-1)) 61)),
  (61, .inl (o_bin (fun x y => x ^^^ y) 62)),
  (62, .inr (.inl (some k_int)))]
theorem te_24 : ∀ q ∈ tb_24, ae_E am "TwinNetwork$Frame" "check" prog_4_method_20_code 3 (Option.some Jvm.ClassFile.FieldType.int) [] q := by
  unfold tb_24
  refine List.forall_mem_cons.mpr ⟨ae_mk (pu_push (fun _ => trivial)) (fun X => ok_iconst X (n := (-1)) (by decide) (by decide +kernel)), ?_⟩
  refine List.forall_mem_cons.mpr ⟨ae_mk pu_is (fun X => ok_istore_n X (k := 1) rfl (by decide +kernel)), ?_⟩
  refine List.forall_mem_cons.mpr ⟨ae_mk (pu_push (fun _ => trivial)) (fun X => ok_iconst X (n := 0) (by decide) (by decide +kernel)), ?_⟩
  refine List.forall_mem_cons.mpr ⟨ae_mk pu_is (fun X => ok_istore_n X (k := 2) rfl (by decide +kernel)), ?_⟩
  refine List.forall_mem_cons.mpr ⟨ae_mk pu_il (fun X => ok_iload_n X (k := 2) rfl (by decide +kernel)), ?_⟩
  refine List.forall_mem_cons.mpr ⟨ae_mk pu_al (fun X => ok_aload_n X (k := 0) rfl (by decide +kernel)), ?_⟩
  refine List.forall_mem_cons.mpr ⟨ae_mk pu_get (fun X => ok_get X (ci := 2) (kk := 1) (index := 15) rfl aw_c_Frame (by decide) wd_81 (by decide +kernel)), ?_⟩
  refine List.forall_mem_cons.mpr ⟨ae_mk (pu_push (fun _ => trivial)) (fun X => ok_iconst X (n := 4) (by decide) (by decide +kernel)), ?_⟩
  refine List.forall_mem_cons.mpr ⟨ae_mk pu_bin (fun X => ok_isub X (by decide +kernel)), ?_⟩
  refine List.forall_mem_cons.mpr ⟨ae_mk pu_ic (fun X => ok_ic_ge X (off := 48) (by decide) (by decide +kernel)), ?_⟩
  refine List.forall_mem_cons.mpr ⟨ae_mk pu_il (fun X => ok_iload_n X (k := 1) rfl (by decide +kernel)), ?_⟩
  refine List.forall_mem_cons.mpr ⟨ae_mk pu_al (fun X => ok_aload_n X (k := 0) rfl (by decide +kernel)), ?_⟩
  refine List.forall_mem_cons.mpr ⟨ae_mk pu_get (fun X => ok_get X (ci := 2) (kk := 0) (index := 9) rfl aw_c_Frame (by decide) wd_80 (by decide +kernel)), ?_⟩
  refine List.forall_mem_cons.mpr ⟨ae_mk pu_il (fun X => ok_iload_n X (k := 2) rfl (by decide +kernel)), ?_⟩
  refine List.forall_mem_cons.mpr ⟨ae_mk pu_ba (fun X => ok_ba X (by decide +kernel)), ?_⟩
  refine List.forall_mem_cons.mpr ⟨ae_mk (pu_push (fun _ => trivial)) (fun X => ok_sipush X (n := 255) (by decide) (by decide +kernel)), ?_⟩
  refine List.forall_mem_cons.mpr ⟨ae_mk pu_bin (fun X => ok_iand X (by decide +kernel)), ?_⟩
  refine List.forall_mem_cons.mpr ⟨ae_mk pu_bin (fun X => ok_ixor X (by decide +kernel)), ?_⟩
  refine List.forall_mem_cons.mpr ⟨ae_mk pu_is (fun X => ok_istore_n X (k := 1) rfl (by decide +kernel)), ?_⟩
  refine List.forall_mem_cons.mpr ⟨ae_mk pu_il (fun X => ok_iload_n X (k := 1) rfl (by decide +kernel)), ?_⟩
  refine List.forall_mem_cons.mpr ⟨ae_mk (pu_push (fun _ => trivial)) (fun X => ok_iconst X (n := 4) (by decide) (by decide +kernel)), ?_⟩
  refine List.forall_mem_cons.mpr ⟨ae_mk pu_bin (fun X => ok_iushr X (by decide +kernel)), ?_⟩
  refine List.forall_mem_cons.mpr ⟨ae_mk (pu_push (fun _ => trivial)) (fun X => ok_gstN X (index := 59) (ro_z3 X) wd_267 (by decide +kernel)), ?_⟩
  refine List.forall_mem_cons.mpr ⟨ae_mk pu_il (fun X => ok_iload_n X (k := 1) rfl (by decide +kernel)), ?_⟩
  refine List.forall_mem_cons.mpr ⟨ae_mk (pu_push (fun _ => trivial)) (fun X => ok_bipush X (n := 15) (by decide) (by decide +kernel)), ?_⟩
  refine List.forall_mem_cons.mpr ⟨ae_mk pu_bin (fun X => ok_iand X (by decide +kernel)), ?_⟩
  refine List.forall_mem_cons.mpr ⟨ae_mk pu_ia (fun X => ok_ia X (by decide +kernel)), ?_⟩
  refine List.forall_mem_cons.mpr ⟨ae_mk pu_bin (fun X => ok_ixor X (by decide +kernel)), ?_⟩
  refine List.forall_mem_cons.mpr ⟨ae_mk pu_is (fun X => ok_istore_n X (k := 1) rfl (by decide +kernel)), ?_⟩
  refine List.forall_mem_cons.mpr ⟨ae_mk pu_il (fun X => ok_iload_n X (k := 1) rfl (by decide +kernel)), ?_⟩
  refine List.forall_mem_cons.mpr ⟨ae_mk (pu_push (fun _ => trivial)) (fun X => ok_iconst X (n := 4) (by decide) (by decide +kernel)), ?_⟩
  refine List.forall_mem_cons.mpr ⟨ae_mk pu_bin (fun X => ok_iushr X (by decide +kernel)), ?_⟩
  refine List.forall_mem_cons.mpr ⟨ae_mk (pu_push (fun _ => trivial)) (fun X => ok_gstN X (index := 59) (ro_z3 X) wd_267 (by decide +kernel)), ?_⟩
  refine List.forall_mem_cons.mpr ⟨ae_mk pu_il (fun X => ok_iload_n X (k := 1) rfl (by decide +kernel)), ?_⟩
  refine List.forall_mem_cons.mpr ⟨ae_mk (pu_push (fun _ => trivial)) (fun X => ok_bipush X (n := 15) (by decide) (by decide +kernel)), ?_⟩
  refine List.forall_mem_cons.mpr ⟨ae_mk pu_bin (fun X => ok_iand X (by decide +kernel)), ?_⟩
  refine List.forall_mem_cons.mpr ⟨ae_mk pu_ia (fun X => ok_ia X (by decide +kernel)), ?_⟩
  refine List.forall_mem_cons.mpr ⟨ae_mk pu_bin (fun X => ok_ixor X (by decide +kernel)), ?_⟩
  refine List.forall_mem_cons.mpr ⟨ae_mk pu_is (fun X => ok_istore_n X (k := 1) rfl (by decide +kernel)), ?_⟩
  refine List.forall_mem_cons.mpr ⟨ae_mk pu_inc (fun X => ok_iinc X (n := 1) (by decide) (by decide +kernel)), ?_⟩
  refine List.forall_mem_cons.mpr ⟨ae_mk pu_goto (fun X => ok_goto X (off := (-52)) (by decide) (by decide +kernel)), ?_⟩
  refine List.forall_mem_cons.mpr ⟨ae_mk pu_il (fun X => ok_iload_n X (k := 1) rfl (by decide +kernel)), ?_⟩
  refine List.forall_mem_cons.mpr ⟨ae_mk (pu_push (fun _ => trivial)) (fun X => ok_iconst X (n := (-1)) (by decide) (by decide +kernel)), ?_⟩
  refine List.forall_mem_cons.mpr ⟨ae_mk pu_bin (fun X => ok_ixor X (by decide +kernel)), ?_⟩
  refine List.forall_mem_cons.mpr ⟨Or.inl ⟨rfl, (by decide +kernel), rt_int⟩, ?_⟩
  exact fun _ h => absurd h List.not_mem_nil
def tb_25 : List (Nat × ae_I) := [(0, .inl (o_al 0 1)),
  (1, .inl (o_il 1 2)),
  (2, .inl (o_il 2 3)),
  (3, .inr (.inr (.inl (26, 3, 6, some 7, [])))),
  (6, .inl (o_as 5 8)),
  (8, .inl (o_al 5 10)),
  (10, .inl (o_nul 31 13)),
  (13, .inl (o_al 5 15)),
  (15, .inl (o_il 3 16)),
  (16, .inr (.inr (.inl (28, 2, 19, some 3, [])))),
  (19, .inl (o_al 4 21)),
  (21, .inr (.inr (.inl (29, 2, 24, some 6, [])))),
  (24, .inl (o_if (fun x => decide (x = 0)) 31 27)),
  (27, .inl (o_push (.int 1) 28)),
  (28, .inl (o_goto 32)),
  (31, .inl (o_push (.int 0) 32)),
  (32, .inl (o_is 6 34)),
  (34, .inl (o_il 6 36)),
  (36, .inl (o_if (fun x => decide (¬ x = 0)) 50 39)),
  (39, .inl (o_al 0 40)),
  (40, .inl (o_get 7 2 43)),
  (43, .inl (o_push (.int 6) 45)),
  (45, .inl (o_dup2 46)),
  (46, .inl (o_ia 47)),
  (47, .inl (o_push (.int 1) 48)),
  (48, .inl (o_bin (fun x y => x + y) 49)),
  (49, .inl (o_ias 50)),
  (50, .inl (o_il 6 52)),
  (52, .inr (.inl (some k_bool)))]
theorem te_25 : ∀ q ∈ tb_25, ae_E am "TwinNetwork" "enqueue" prog_1_method_30_code 7 (Option.some Jvm.ClassFile.FieldType.boolean) [] q := by
  unfold tb_25
  refine List.forall_mem_cons.mpr ⟨ae_mk pu_al (fun X => ok_aload_n X (k := 0) rfl (by decide +kernel)), ?_⟩
  refine List.forall_mem_cons.mpr ⟨ae_mk pu_il (fun X => ok_iload_n X (k := 1) rfl (by decide +kernel)), ?_⟩
  refine List.forall_mem_cons.mpr ⟨ae_mk pu_il (fun X => ok_iload_n X (k := 2) rfl (by decide +kernel)), ?_⟩
  refine List.forall_mem_cons.mpr ⟨ae_mkc (fun X => ok_callV X (mid := 26) (index := 124) (y := my_26) rfl (by decide) ⟨by decide, by decide⟩ (n := 2) (by decide +kernel) wd_276 wd_46 wd_273 wd_275 wd_7 (ci := 7) rfl (by decide +kernel)), ?_⟩
  refine List.forall_mem_cons.mpr ⟨ae_mk pu_as (fun X => ok_astore X (by decide +kernel)), ?_⟩
  refine List.forall_mem_cons.mpr ⟨ae_mk pu_al (fun X => ok_aload X (by decide +kernel)), ?_⟩
  refine List.forall_mem_cons.mpr ⟨ae_mk pu_nul (fun X => ok_ifnull X (off := 21) (by decide) (by decide +kernel)), ?_⟩
  refine List.forall_mem_cons.mpr ⟨ae_mk pu_al (fun X => ok_aload X (by decide +kernel)), ?_⟩
  refine List.forall_mem_cons.mpr ⟨ae_mk pu_il (fun X => ok_iload_n X (k := 3) rfl (by decide +kernel)), ?_⟩
  refine List.forall_mem_cons.mpr ⟨ae_mkc (fun X => ok_callV X (mid := 28) (index := 245) (y := my_28) rfl (by decide) ⟨by decide, by decide⟩ (n := 1) (by decide +kernel) wd_283 wd_49 wd_280 wd_281 wd_282 (ci := 3) rfl (by decide +kernel)), ?_⟩
  refine List.forall_mem_cons.mpr ⟨ae_mk pu_al (fun X => ok_aload X (by decide +kernel)), ?_⟩
  refine List.forall_mem_cons.mpr ⟨ae_mkc (fun X => ok_callV X (mid := 29) (index := 249) (y := my_29) rfl (by decide) ⟨by decide, by decide⟩ (n := 1) (by decide +kernel) wd_287 wd_50 wd_284 wd_285 wd_286 (ci := 6) rfl (by decide +kernel)), ?_⟩
  refine List.forall_mem_cons.mpr ⟨ae_mk pu_if (fun X => ok_if_eq X (off := 7) (by decide) (by decide +kernel)), ?_⟩
  refine List.forall_mem_cons.mpr ⟨ae_mk (pu_push (fun _ => trivial)) (fun X => ok_iconst X (n := 1) (by decide) (by decide +kernel)), ?_⟩
  refine List.forall_mem_cons.mpr ⟨ae_mk pu_goto (fun X => ok_goto X (off := 4) (by decide) (by decide +kernel)), ?_⟩
  refine List.forall_mem_cons.mpr ⟨ae_mk (pu_push (fun _ => trivial)) (fun X => ok_iconst X (n := 0) (by decide) (by decide +kernel)), ?_⟩
  refine List.forall_mem_cons.mpr ⟨ae_mk pu_is (fun X => ok_istore X (by decide +kernel)), ?_⟩
  refine List.forall_mem_cons.mpr ⟨ae_mk pu_il (fun X => ok_iload X (by decide +kernel)), ?_⟩
  refine List.forall_mem_cons.mpr ⟨ae_mk pu_if (fun X => ok_if_ne X (off := 14) (by decide) (by decide +kernel)), ?_⟩
  refine List.forall_mem_cons.mpr ⟨ae_mk pu_al (fun X => ok_aload_n X (k := 0) rfl (by decide +kernel)), ?_⟩
  refine List.forall_mem_cons.mpr ⟨ae_mk pu_get (fun X => ok_get X (ci := 7) (kk := 2) (index := 21) rfl aw_c_Net (by decide) wd_166 (by decide +kernel)), ?_⟩
  refine List.forall_mem_cons.mpr ⟨ae_mk (pu_push (fun _ => trivial)) (fun X => ok_bipush X (n := 6) (by decide) (by decide +kernel)), ?_⟩
  refine List.forall_mem_cons.mpr ⟨ae_mk pu_dup2 (fun X => ok_dup2 X (by decide +kernel)), ?_⟩
  refine List.forall_mem_cons.mpr ⟨ae_mk pu_ia (fun X => ok_ia X (by decide +kernel)), ?_⟩
  refine List.forall_mem_cons.mpr ⟨ae_mk (pu_push (fun _ => trivial)) (fun X => ok_iconst X (n := 1) (by decide) (by decide +kernel)), ?_⟩
  refine List.forall_mem_cons.mpr ⟨ae_mk pu_bin (fun X => ok_iadd X (by decide +kernel)), ?_⟩
  refine List.forall_mem_cons.mpr ⟨ae_mk pu_ias (fun X => ok_ias X (by decide +kernel)), ?_⟩
  refine List.forall_mem_cons.mpr ⟨ae_mk pu_il (fun X => ok_iload X (by decide +kernel)), ?_⟩
  refine List.forall_mem_cons.mpr ⟨Or.inr (Or.inl ⟨rfl, (by decide +kernel), rt_bool⟩), ?_⟩
  exact fun _ h => absurd h List.not_mem_nil
def tb_26 : List (Nat × ae_I) := [(0, .inl (o_il 1 1)),
  (1, .inr (.inr (.inl (27, 1, 4, none, [])))),
  (4, .inl (o_if (fun x => decide (x = 0)) 31 7)),
  (7, .inl (o_il 2 8)),
  (8, .inl (o_if (fun x => decide (x < 0)) 31 11)),
  (11, .inl (o_il 2 12)),
  (12, .inl (o_push (.int 12) 14)),
  (14, .inl (o_ic (fun x y => decide (y ≤ x)) 31 17)),
  (17, .inl (o_al 0 18)),
  (18, .inl (o_get 7 1 21)),
  (21, .inl (o_il 1 22)),
  (22, .inl (o_push (.int 12) 24)),
  (24, .inl (o_bin (fun x y => x * y) 25)),
  (25, .inl (o_il 2 26)),
  (26, .inl (o_bin (fun x y => x + y) 27)),
  (27, .inl (o_aa 28)),
  (28, .inl (o_goto 32)),
  (31, .inl (o_push .null 32)),
  (32, .inr (.inl (some k_ref)))]
theorem te_26 : ∀ q ∈ tb_26, ae_E am "TwinNetwork" "lineAt" prog_1_method_23_code 3 (Option.some (Jvm.ClassFile.FieldType.object "TwinNetwork$Line")) [] q := by
  unfold tb_26
  refine List.forall_mem_cons.mpr ⟨ae_mk pu_il (fun X => ok_iload_n X (k := 1) rfl (by decide +kernel)), ?_⟩
  refine List.forall_mem_cons.mpr ⟨ae_mkc (fun X => ok_callS X (mid := 27) (index := 132) (y := my_27) rfl (by decide) ⟨by decide, by decide⟩ (n := 1) (by decide +kernel) wd_279 wd_46 wd_277 wd_278 (by decide +kernel)), ?_⟩
  refine List.forall_mem_cons.mpr ⟨ae_mk pu_if (fun X => ok_if_eq X (off := 27) (by decide) (by decide +kernel)), ?_⟩
  refine List.forall_mem_cons.mpr ⟨ae_mk pu_il (fun X => ok_iload_n X (k := 2) rfl (by decide +kernel)), ?_⟩
  refine List.forall_mem_cons.mpr ⟨ae_mk pu_if (fun X => ok_if_lt X (off := 23) (by decide) (by decide +kernel)), ?_⟩
  refine List.forall_mem_cons.mpr ⟨ae_mk pu_il (fun X => ok_iload_n X (k := 2) rfl (by decide +kernel)), ?_⟩
  refine List.forall_mem_cons.mpr ⟨ae_mk (pu_push (fun _ => trivial)) (fun X => ok_bipush X (n := 12) (by decide) (by decide +kernel)), ?_⟩
  refine List.forall_mem_cons.mpr ⟨ae_mk pu_ic (fun X => ok_ic_ge X (off := 17) (by decide) (by decide +kernel)), ?_⟩
  refine List.forall_mem_cons.mpr ⟨ae_mk pu_al (fun X => ok_aload_n X (k := 0) rfl (by decide +kernel)), ?_⟩
  refine List.forall_mem_cons.mpr ⟨ae_mk pu_get (fun X => ok_get X (ci := 7) (kk := 1) (index := 17) rfl aw_c_Net (by decide) wd_165 (by decide +kernel)), ?_⟩
  refine List.forall_mem_cons.mpr ⟨ae_mk pu_il (fun X => ok_iload_n X (k := 1) rfl (by decide +kernel)), ?_⟩
  refine List.forall_mem_cons.mpr ⟨ae_mk (pu_push (fun _ => trivial)) (fun X => ok_bipush X (n := 12) (by decide) (by decide +kernel)), ?_⟩
  refine List.forall_mem_cons.mpr ⟨ae_mk pu_bin (fun X => ok_imul X (by decide +kernel)), ?_⟩
  refine List.forall_mem_cons.mpr ⟨ae_mk pu_il (fun X => ok_iload_n X (k := 2) rfl (by decide +kernel)), ?_⟩
  refine List.forall_mem_cons.mpr ⟨ae_mk pu_bin (fun X => ok_iadd X (by decide +kernel)), ?_⟩
  refine List.forall_mem_cons.mpr ⟨ae_mk pu_aa (fun X => ok_aa X (by decide +kernel)), ?_⟩
  refine List.forall_mem_cons.mpr ⟨ae_mk pu_goto (fun X => ok_goto X (off := 4) (by decide) (by decide +kernel)), ?_⟩
  refine List.forall_mem_cons.mpr ⟨ae_mk (pu_push (fun _ => trivial)) (fun X => ok_null X (by decide +kernel)), ?_⟩
  refine List.forall_mem_cons.mpr ⟨Or.inr (Or.inr ⟨Or.inl ⟨_, rfl⟩, (by decide +kernel), rt_ref⟩), ?_⟩
  exact fun _ h => absurd h List.not_mem_nil
def tb_27 : List (Nat × ae_I) := [(0, .inl (o_il 0 1)),
  (1, .inl (o_if (fun x => decide (x < 0)) 13 4)),
  (4, .inl (o_il 0 5)),
  (5, .inl (o_push (.int 2) 6)),
  (6, .inl (o_ic (fun x y => decide (y ≤ x)) 13 9)),
  (9, .inl (o_push (.int 1) 10)),
  (10, .inl (o_goto 14)),
  (13, .inl (o_push (.int 0) 14)),
  (14, .inr (.inl (some k_bool)))]
theorem te_27 : ∀ q ∈ tb_27, ae_E am "TwinNetwork" "isNetwork" prog_1_method_16_code 1 (Option.some Jvm.ClassFile.FieldType.boolean) [] q := by
  unfold tb_27
  refine List.forall_mem_cons.mpr ⟨ae_mk pu_il (fun X => ok_iload_n X (k := 0) rfl (by decide +kernel)), ?_⟩
  refine List.forall_mem_cons.mpr ⟨ae_mk pu_if (fun X => ok_if_lt X (off := 12) (by decide) (by decide +kernel)), ?_⟩
  refine List.forall_mem_cons.mpr ⟨ae_mk pu_il (fun X => ok_iload_n X (k := 0) rfl (by decide +kernel)), ?_⟩
  refine List.forall_mem_cons.mpr ⟨ae_mk (pu_push (fun _ => trivial)) (fun X => ok_iconst X (n := 2) (by decide) (by decide +kernel)), ?_⟩
  refine List.forall_mem_cons.mpr ⟨ae_mk pu_ic (fun X => ok_ic_ge X (off := 7) (by decide) (by decide +kernel)), ?_⟩
  refine List.forall_mem_cons.mpr ⟨ae_mk (pu_push (fun _ => trivial)) (fun X => ok_iconst X (n := 1) (by decide) (by decide +kernel)), ?_⟩
  refine List.forall_mem_cons.mpr ⟨ae_mk pu_goto (fun X => ok_goto X (off := 4) (by decide) (by decide +kernel)), ?_⟩
  refine List.forall_mem_cons.mpr ⟨ae_mk (pu_push (fun _ => trivial)) (fun X => ok_iconst X (n := 0) (by decide) (by decide +kernel)), ?_⟩
  refine List.forall_mem_cons.mpr ⟨Or.inr (Or.inl ⟨rfl, (by decide +kernel), rt_bool⟩), ?_⟩
  exact fun _ h => absurd h List.not_mem_nil
def tb_28 : List (Nat × ae_I) := [(0, .inl (o_il 1 1)),
  (1, .inl (o_if (fun x => decide (x = 0)) 18 4)),
  (4, .inl (o_al 0 5)),
  (5, .inl (o_get 3 2 8)),
  (8, .inl (o_if (fun x => decide (¬ x = 0)) 18 11)),
  (11, .inl (o_al 0 12)),
  (12, .inl (o_get 3 1 15)),
  (15, .inl (o_goto 22)),
  (18, .inl (o_al 0 19)),
  (19, .inl (o_get 3 0 22)),
  (22, .inr (.inl (some k_ref)))]
theorem te_28 : ∀ q ∈ tb_28, ae_E am "TwinNetwork$Line" "rowFor" prog_5_method_2_code 2 (Option.some (Jvm.ClassFile.FieldType.object "TwinNetwork$Row")) [] q := by
  unfold tb_28
  refine List.forall_mem_cons.mpr ⟨ae_mk pu_il (fun X => ok_iload_n X (k := 1) rfl (by decide +kernel)), ?_⟩
  refine List.forall_mem_cons.mpr ⟨ae_mk pu_if (fun X => ok_if_eq X (off := 17) (by decide) (by decide +kernel)), ?_⟩
  refine List.forall_mem_cons.mpr ⟨ae_mk pu_al (fun X => ok_aload_n X (k := 0) rfl (by decide +kernel)), ?_⟩
  refine List.forall_mem_cons.mpr ⟨ae_mk pu_get (fun X => ok_get X (ci := 3) (kk := 2) (index := 35) rfl aw_c_Line (by decide) wd_136 (by decide +kernel)), ?_⟩
  refine List.forall_mem_cons.mpr ⟨ae_mk pu_if (fun X => ok_if_ne X (off := 10) (by decide) (by decide +kernel)), ?_⟩
  refine List.forall_mem_cons.mpr ⟨ae_mk pu_al (fun X => ok_aload_n X (k := 0) rfl (by decide +kernel)), ?_⟩
  refine List.forall_mem_cons.mpr ⟨ae_mk pu_get (fun X => ok_get X (ci := 3) (kk := 1) (index := 47) rfl aw_c_Line (by decide) wd_134 (by decide +kernel)), ?_⟩
  refine List.forall_mem_cons.mpr ⟨ae_mk pu_goto (fun X => ok_goto X (off := 7) (by decide) (by decide +kernel)), ?_⟩
  refine List.forall_mem_cons.mpr ⟨ae_mk pu_al (fun X => ok_aload_n X (k := 0) rfl (by decide +kernel)), ?_⟩
  refine List.forall_mem_cons.mpr ⟨ae_mk pu_get (fun X => ok_get X (ci := 3) (kk := 0) (index := 43) rfl aw_c_Line (by decide) wd_132 (by decide +kernel)), ?_⟩
  refine List.forall_mem_cons.mpr ⟨Or.inr (Or.inr ⟨Or.inl ⟨_, rfl⟩, (by decide +kernel), rt_ref⟩), ?_⟩
  exact fun _ h => absurd h List.not_mem_nil
