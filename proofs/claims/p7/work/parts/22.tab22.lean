def tb_123 : List (Nat × ae_I) := [(0, .inl (o_al 0 1)),
  (1, .inl (o_il 1 2)),
  (2, .inl (o_push (.int 16) 4)),
  (4, .inr (.inr (.inl (107, 3, 7, some 8, [])))),
  (7, .inl (o_push (.int 20) 9)),
  (9, .inl (o_bin (fun x y => x - y) 10)),
  (10, .inl (o_is 3 11)),
  (11, .inl (o_push (.int 8) 13)),
  (13, .inl (o_al 0 14)),
  (14, .inl (o_il 1 15)),
  (15, .inl (o_push (.int 21) 17)),
  (17, .inr (.inr (.inl (108, 3, 20, some 8, [])))),
  (20, .inl (o_bin (fun x y => x * y) 21)),
  (21, .inl (o_is 4 23)),
  (23, .inl (o_il 4 25)),
  (25, .inl (o_if (fun x => decide (¬ x = 0)) 48 28)),
  (28, .inl (o_al 0 29)),
  (29, .inl (o_get 8 31 32)),
  (32, .inl (o_il 2 33)),
  (33, .inl (o_al 0 34)),
  (34, .inl (o_il 1 35)),
  (35, .inl (o_push (.int 18) 37)),
  (37, .inr (.inr (.inl (107, 3, 40, some 8, [])))),
  (40, .inl (o_ias 41)),
  (41, .inl (o_al 0 42)),
  (42, .inl (o_get 8 32 45)),
  (45, .inl (o_il 2 46)),
  (46, .inl (o_push (.int 0) 47)),
  (47, .inl (o_ias 48)),
  (48, .inl (o_al 0 49)),
  (49, .inl (o_get 8 31 52)),
  (52, .inl (o_il 2 53)),
  (53, .inl (o_ia 54)),
  (54, .inl (o_al 0 55)),
  (55, .inl (o_il 1 56)),
  (56, .inl (o_push (.int 18) 58)),
  (58, .inr (.inr (.inl (107, 3, 61, some 8, [])))),
  (61, .inl (o_ic (fun x y => decide (¬ x = y)) 89 64)),
  (64, .inl (o_al 0 65)),
  (65, .inl (o_get 8 32 68)),
  (68, .inl (o_il 2 69)),
  (69, .inl (o_ia 70)),
  (70, .inl (o_il 4 72)),
  (72, .inl (o_ic (fun x y => decide (¬ x = y)) 89 75)),
  (75, .inl (o_il 4 77)),
  (77, .inl (o_il 3 78)),
  (78, .inl (o_bin (fun x y => x + y) 79)),
  (79, .inl (o_push (.int 1000) 82)),
  (82, .inl (o_ic (fun x y => decide (y < x)) 89 85)),
  (85, .inl (o_push (.int 1) 86)),
  (86, .inl (o_goto 90)),
  (89, .inl (o_push (.int 0) 90)),
  (90, .inl (o_is 5 92)),
  (92, .inl (o_il 5 94)),
  (94, .inl (o_if (fun x => decide (¬ x = 0)) 107 97)),
  (97, .inl (o_al 0 98)),
  (98, .inl (o_get 8 31 101)),
  (101, .inl (o_il 2 102)),
  (102, .inl (o_push (.int (-1)) 103)),
  (103, .inl (o_ias 104)),
  (104, .inl (o_push (.int 10) 106)),
  (106, .inr (.inl (some k_int))),
  (107, .inl (o_push (.int 0) 108)),
  (108, .inl (o_is 6 110)),
  (110, .inl (o_il 6 112)),
  (112, .inl (o_il 3 113)),
  (113, .inl (o_ic (fun x y => decide (y ≤ x)) 148 116)),
  (116, .inl (o_al 0 117)),
  (117, .inl (o_get 8 33 120)),
  (120, .inl (o_push (.int 1000) 123)),
  (123, .inl (o_il 2 124)),
  (124, .inl (o_bin (fun x y => x * y) 125)),
  (125, .inl (o_il 4 127)),
  (127, .inl (o_bin (fun x y => x + y) 128)),
  (128, .inl (o_il 6 130)),
  (130, .inl (o_bin (fun x y => x + y) 131)),
  (131, .inl (o_al 0 132)),
  (132, .inl (o_il 1 133)),
  (133, .inl (o_push (.int 34) 135)),
  (135, .inl (o_il 6 137)),
  (137, .inl (o_bin (fun x y => x + y) 138)),
  (138, .inr (.inr (.inl (108, 3, 141, some 8, [])))),
  (141, .inl (o_ias 142)),
  (142, .inl (o_inc 6 1 145)),
  (145, .inl (o_goto 110)),
  (148, .inl (o_al 0 149)),
  (149, .inl (o_get 8 32 152)),
  (152, .inl (o_il 2 153)),
  (153, .inl (o_dup2 154)),
  (154, .inl (o_ia 155)),
  (155, .inl (o_il 3 156)),
  (156, .inl (o_bin (fun x y => x + y) 157)),
  (157, .inl (o_ias 158)),
  (158, .inl (o_al 0 159)),
  (159, .inl (o_il 1 160)),
  (160, .inl (o_push (.int 20) 162)),
  (162, .inr (.inr (.inl (108, 3, 165, some 8, [])))),
  (165, .inl (o_push (.int 32) 167)),
  (167, .inl (o_dv (fun x y => x / y) 168)),
  (168, .inl (o_push (.int 2) 169)),
  (169, .inl (o_dv (fun x y => x - x / y * y) 170)),
  (170, .inl (o_push (.int 1) 171)),
  (171, .inl (o_ic (fun x y => decide (¬ x = y)) 176 174)),
  (174, .inl (o_push (.int 0) 175)),
  (175, .inr (.inl (some k_int))),
  (176, .inl (o_al 0 177)),
  (177, .inl (o_get 8 31 180)),
  (180, .inl (o_il 2 181)),
  (181, .inl (o_push (.int (-1)) 182)),
  (182, .inl (o_ias 183)),
  (183, .inl (o_al 0 184)),
  (184, .inl (o_get 8 32 187)),
  (187, .inl (o_il 2 188)),
  (188, .inl (o_ia 189)),
  (189, .inl (o_is 6 191)),
  (191, .inl (o_il 6 193)),
  (193, .inl (o_push (.int 8) 195)),
  (195, .inl (o_ic (fun x y => decide (x < y)) 232 198)),
  (198, .inl (o_push (.int 256) 201)),
  (201, .inl (o_al 0 202)),
  (202, .inl (o_get 8 33 205)),
  (205, .inl (o_push (.int 1000) 208)),
  (208, .inl (o_il 2 209)),
  (209, .inl (o_bin (fun x y => x * y) 210)),
  (210, .inl (o_push (.int 4) 211)),
  (211, .inl (o_bin (fun x y => x + y) 212)),
  (212, .inl (o_ia 213)),
  (213, .inl (o_bin (fun x y => x * y) 214)),
  (214, .inl (o_al 0 215)),
  (215, .inl (o_get 8 33 218)),
  (218, .inl (o_push (.int 1000) 221)),
  (221, .inl (o_il 2 222)),
  (222, .inl (o_bin (fun x y => x * y) 223)),
  (223, .inl (o_push (.int 5) 224)),
  (224, .inl (o_bin (fun x y => x + y) 225)),
  (225, .inl (o_ia 226)),
  (226, .inl (o_bin (fun x y => x + y) 227)),
  (227, .inl (o_il 6 229)),
  (229, .inl (o_ic (fun x y => decide (x = y)) 235 232)),
  (232, .inl (o_push (.int 10) 234)),
  (234, .inr (.inl (some k_int))),
  (235, .inl (o_al 0 236)),
  (236, .inl (o_get 8 4 239)),
  (239, .inl (o_il 2 240)),
  (240, .inl (o_push (.int 8) 242)),
  (242, .inl (o_dv (fun x y => x - x / y * y) 243)),
  (243, .inl (o_ba 244)),
  (244, .inl (o_if (fun x => decide (¬ x = 0)) 254 247)),
  (247, .inl (o_al 0 248)),
  (248, .inl (o_get 8 34 251)),
  (251, .inl (o_il 2 252)),
  (252, .inl (o_push (.int 0) 253)),
  (253, .inl (o_ias 254)),
  (254, .inl (o_al 0 255)),
  (255, .inl (o_get 8 34 258)),
  (258, .inl (o_il 2 259)),
  (259, .inl (o_ia 260)),
  (260, .inl (o_push (.int 4) 261)),
  (261, .inl (o_ic (fun x y => decide (¬ x = y)) 267 264)),
  (264, .inl (o_push (.int 11) 266)),
  (266, .inr (.inl (some k_int))),
  (267, .inl (o_push (.int 4) 268)),
  (268, .inl (o_il 2 269)),
  (269, .inl (o_bin (fun x y => x * y) 270)),
  (270, .inl (o_al 0 271)),
  (271, .inl (o_get 8 34 274)),
  (274, .inl (o_il 2 275)),
  (275, .inl (o_ia 276)),
  (276, .inl (o_bin (fun x y => x + y) 277)),
  (277, .inl (o_is 7 279)),
  (279, .inl (o_al 0 280)),
  (280, .inl (o_get 8 35 283)),
  (283, .inl (o_il 7 285)),
  (285, .inl (o_il 6 287)),
  (287, .inl (o_push (.int 8) 289)),
  (289, .inl (o_bin (fun x y => x - y) 290)),
  (290, .inl (o_ias 291)),
  (291, .inl (o_push (.int 8) 293)),
  (293, .inl (o_is 8 295)),
  (295, .inl (o_il 8 297)),
  (297, .inl (o_il 6 299)),
  (299, .inl (o_ic (fun x y => decide (y ≤ x)) 338 302)),
  (302, .inl (o_al 0 303)),
  (303, .inl (o_get 8 36 306)),
  (306, .inl (o_push (.int 1000) 309)),
  (309, .inl (o_il 7 311)),
  (311, .inl (o_bin (fun x y => x * y) 312)),
  (312, .inl (o_il 8 314)),
  (314, .inl (o_bin (fun x y => x + y) 315)),
  (315, .inl (o_push (.int 8) 317)),
  (317, .inl (o_bin (fun x y => x - y) 318)),
  (318, .inl (o_al 0 319)),
  (319, .inl (o_get 8 33 322)),
  (322, .inl (o_push (.int 1000) 325)),
  (325, .inl (o_il 2 326)),
  (326, .inl (o_bin (fun x y => x * y) 327)),
  (327, .inl (o_il 8 329)),
  (329, .inl (o_bin (fun x y => x + y) 330)),
  (330, .inl (o_ia 331)),
  (331, .inl (o_ias 332)),
  (332, .inl (o_inc 8 1 335)),
  (335, .inl (o_goto 295)),
  (338, .inl (o_al 0 339)),
  (339, .inl (o_get 8 34 342)),
  (342, .inl (o_il 2 343)),
  (343, .inl (o_dup2 344)),
  (344, .inl (o_ia 345)),
  (345, .inl (o_push (.int 1) 346)),
  (346, .inl (o_bin (fun x y => x + y) 347)),
  (347, .inl (o_ias 348)),
  (348, .inl (o_al 0 349)),
  (349, .inl (o_get 8 37 352)),
  (352, .inl (o_il 2 353)),
  (353, .inl (o_al 0 354)),
  (354, .inl (o_get 8 1 357)),
  (357, .inl (o_ias 358)),
  (358, .inl (o_push (.int 0) 359)),
  (359, .inr (.inl (some k_int)))]
theorem te_123 : ∀ q ∈ tb_123, ae_E am "TwinNetworkModel" "join" prog_10_method_34_code 9 (Option.some Jvm.ClassFile.FieldType.int) [] q := by
  unfold tb_123
  refine List.forall_mem_cons.mpr ⟨ae_mk pu_al (fun X => ok_aload_n X (k := 0) rfl (by decide +kernel)), ?_⟩
  refine List.forall_mem_cons.mpr ⟨ae_mk pu_il (fun X => ok_iload_n X (k := 1) rfl (by decide +kernel)), ?_⟩
  refine List.forall_mem_cons.mpr ⟨ae_mk (pu_push (fun _ => trivial)) (fun X => ok_bipush X (n := 16) (by decide) (by decide +kernel)), ?_⟩
  refine List.forall_mem_cons.mpr ⟨ae_mkc (fun X => ok_callV X (mid := 107) (index := 154) (y := my_107) rfl (by decide) ⟨by decide, by decide⟩ (n := 2) (by decide +kernel) wd_945 wd_51 wd_942 wd_944 wd_27 (ci := 8) rfl (by decide +kernel)), ?_⟩
  refine List.forall_mem_cons.mpr ⟨ae_mk (pu_push (fun _ => trivial)) (fun X => ok_bipush X (n := 20) (by decide) (by decide +kernel)), ?_⟩
  refine List.forall_mem_cons.mpr ⟨ae_mk pu_bin (fun X => ok_isub X (by decide +kernel)), ?_⟩
  refine List.forall_mem_cons.mpr ⟨ae_mk pu_is (fun X => ok_istore_n X (k := 3) rfl (by decide +kernel)), ?_⟩
  refine List.forall_mem_cons.mpr ⟨ae_mk (pu_push (fun _ => trivial)) (fun X => ok_bipush X (n := 8) (by decide) (by decide +kernel)), ?_⟩
  refine List.forall_mem_cons.mpr ⟨ae_mk pu_al (fun X => ok_aload_n X (k := 0) rfl (by decide +kernel)), ?_⟩
  refine List.forall_mem_cons.mpr ⟨ae_mk pu_il (fun X => ok_iload_n X (k := 1) rfl (by decide +kernel)), ?_⟩
  refine List.forall_mem_cons.mpr ⟨ae_mk (pu_push (fun _ => trivial)) (fun X => ok_bipush X (n := 21) (by decide) (by decide +kernel)), ?_⟩
  refine List.forall_mem_cons.mpr ⟨ae_mkc (fun X => ok_callV X (mid := 108) (index := 150) (y := my_108) rfl (by decide) ⟨by decide, by decide⟩ (n := 2) (by decide +kernel) wd_949 wd_51 wd_946 wd_948 wd_28 (ci := 8) rfl (by decide +kernel)), ?_⟩
  refine List.forall_mem_cons.mpr ⟨ae_mk pu_bin (fun X => ok_imul X (by decide +kernel)), ?_⟩
  refine List.forall_mem_cons.mpr ⟨ae_mk pu_is (fun X => ok_istore X (by decide +kernel)), ?_⟩
  refine List.forall_mem_cons.mpr ⟨ae_mk pu_il (fun X => ok_iload X (by decide +kernel)), ?_⟩
  refine List.forall_mem_cons.mpr ⟨ae_mk pu_if (fun X => ok_if_ne X (off := 23) (by decide) (by decide +kernel)), ?_⟩
  refine List.forall_mem_cons.mpr ⟨ae_mk pu_al (fun X => ok_aload_n X (k := 0) rfl (by decide +kernel)), ?_⟩
  refine List.forall_mem_cons.mpr ⟨ae_mk pu_get (fun X => ok_get X (ci := 8) (kk := 31) (index := 99) rfl aw_c_Model (by decide) wd_807 (by decide +kernel)), ?_⟩
  refine List.forall_mem_cons.mpr ⟨ae_mk pu_il (fun X => ok_iload_n X (k := 2) rfl (by decide +kernel)), ?_⟩
  refine List.forall_mem_cons.mpr ⟨ae_mk pu_al (fun X => ok_aload_n X (k := 0) rfl (by decide +kernel)), ?_⟩
  refine List.forall_mem_cons.mpr ⟨ae_mk pu_il (fun X => ok_iload_n X (k := 1) rfl (by decide +kernel)), ?_⟩
  refine List.forall_mem_cons.mpr ⟨ae_mk (pu_push (fun _ => trivial)) (fun X => ok_bipush X (n := 18) (by decide) (by decide +kernel)), ?_⟩
  refine List.forall_mem_cons.mpr ⟨ae_mkc (fun X => ok_callV X (mid := 107) (index := 154) (y := my_107) rfl (by decide) ⟨by decide, by decide⟩ (n := 2) (by decide +kernel) wd_945 wd_51 wd_942 wd_944 wd_27 (ci := 8) rfl (by decide +kernel)), ?_⟩
  refine List.forall_mem_cons.mpr ⟨ae_mk pu_ias (fun X => ok_ias X (by decide +kernel)), ?_⟩
  refine List.forall_mem_cons.mpr ⟨ae_mk pu_al (fun X => ok_aload_n X (k := 0) rfl (by decide +kernel)), ?_⟩
  refine List.forall_mem_cons.mpr ⟨ae_mk pu_get (fun X => ok_get X (ci := 8) (kk := 32) (index := 102) rfl aw_c_Model (by decide) wd_808 (by decide +kernel)), ?_⟩
  refine List.forall_mem_cons.mpr ⟨ae_mk pu_il (fun X => ok_iload_n X (k := 2) rfl (by decide +kernel)), ?_⟩
  refine List.forall_mem_cons.mpr ⟨ae_mk (pu_push (fun _ => trivial)) (fun X => ok_iconst X (n := 0) (by decide) (by decide +kernel)), ?_⟩
  refine List.forall_mem_cons.mpr ⟨ae_mk pu_ias (fun X => ok_ias X (by decide +kernel)), ?_⟩
  refine List.forall_mem_cons.mpr ⟨ae_mk pu_al (fun X => ok_aload_n X (k := 0) rfl (by decide +kernel)), ?_⟩
  refine List.forall_mem_cons.mpr ⟨ae_mk pu_get (fun X => ok_get X (ci := 8) (kk := 31) (index := 99) rfl aw_c_Model (by decide) wd_807 (by decide +kernel)), ?_⟩
  refine List.forall_mem_cons.mpr ⟨ae_mk pu_il (fun X => ok_iload_n X (k := 2) rfl (by decide +kernel)), ?_⟩
  refine List.forall_mem_cons.mpr ⟨ae_mk pu_ia (fun X => ok_ia X (by decide +kernel)), ?_⟩
  refine List.forall_mem_cons.mpr ⟨ae_mk pu_al (fun X => ok_aload_n X (k := 0) rfl (by decide +kernel)), ?_⟩
  refine List.forall_mem_cons.mpr ⟨ae_mk pu_il (fun X => ok_iload_n X (k := 1) rfl (by decide +kernel)), ?_⟩
  refine List.forall_mem_cons.mpr ⟨ae_mk (pu_push (fun _ => trivial)) (fun X => ok_bipush X (n := 18) (by decide) (by decide +kernel)), ?_⟩
  refine List.forall_mem_cons.mpr ⟨ae_mkc (fun X => ok_callV X (mid := 107) (index := 154) (y := my_107) rfl (by decide) ⟨by decide, by decide⟩ (n := 2) (by decide +kernel) wd_945 wd_51 wd_942 wd_944 wd_27 (ci := 8) rfl (by decide +kernel)), ?_⟩
  refine List.forall_mem_cons.mpr ⟨ae_mk pu_ic (fun X => ok_ic_ne X (off := 28) (by decide) (by decide +kernel)), ?_⟩
  refine List.forall_mem_cons.mpr ⟨ae_mk pu_al (fun X => ok_aload_n X (k := 0) rfl (by decide +kernel)), ?_⟩
  refine List.forall_mem_cons.mpr ⟨ae_mk pu_get (fun X => ok_get X (ci := 8) (kk := 32) (index := 102) rfl aw_c_Model (by decide) wd_808 (by decide +kernel)), ?_⟩
  refine List.forall_mem_cons.mpr ⟨ae_mk pu_il (fun X => ok_iload_n X (k := 2) rfl (by decide +kernel)), ?_⟩
  refine List.forall_mem_cons.mpr ⟨ae_mk pu_ia (fun X => ok_ia X (by decide +kernel)), ?_⟩
  refine List.forall_mem_cons.mpr ⟨ae_mk pu_il (fun X => ok_iload X (by decide +kernel)), ?_⟩
  refine List.forall_mem_cons.mpr ⟨ae_mk pu_ic (fun X => ok_ic_ne X (off := 17) (by decide) (by decide +kernel)), ?_⟩
  refine List.forall_mem_cons.mpr ⟨ae_mk pu_il (fun X => ok_iload X (by decide +kernel)), ?_⟩
  refine List.forall_mem_cons.mpr ⟨ae_mk pu_il (fun X => ok_iload_n X (k := 3) rfl (by decide +kernel)), ?_⟩
  refine List.forall_mem_cons.mpr ⟨ae_mk pu_bin (fun X => ok_iadd X (by decide +kernel)), ?_⟩
  refine List.forall_mem_cons.mpr ⟨ae_mk (pu_push (fun _ => trivial)) (fun X => ok_sipush X (n := 1000) (by decide) (by decide +kernel)), ?_⟩
  refine List.forall_mem_cons.mpr ⟨ae_mk pu_ic (fun X => ok_ic_gt X (off := 7) (by decide) (by decide +kernel)), ?_⟩
  refine List.forall_mem_cons.mpr ⟨ae_mk (pu_push (fun _ => trivial)) (fun X => ok_iconst X (n := 1) (by decide) (by decide +kernel)), ?_⟩
  refine List.forall_mem_cons.mpr ⟨ae_mk pu_goto (fun X => ok_goto X (off := 4) (by decide) (by decide +kernel)), ?_⟩
  refine List.forall_mem_cons.mpr ⟨ae_mk (pu_push (fun _ => trivial)) (fun X => ok_iconst X (n := 0) (by decide) (by decide +kernel)), ?_⟩
  refine List.forall_mem_cons.mpr ⟨ae_mk pu_is (fun X => ok_istore X (by decide +kernel)), ?_⟩
  refine List.forall_mem_cons.mpr ⟨ae_mk pu_il (fun X => ok_iload X (by decide +kernel)), ?_⟩
  refine List.forall_mem_cons.mpr ⟨ae_mk pu_if (fun X => ok_if_ne X (off := 13) (by decide) (by decide +kernel)), ?_⟩
  refine List.forall_mem_cons.mpr ⟨ae_mk pu_al (fun X => ok_aload_n X (k := 0) rfl (by decide +kernel)), ?_⟩
  refine List.forall_mem_cons.mpr ⟨ae_mk pu_get (fun X => ok_get X (ci := 8) (kk := 31) (index := 99) rfl aw_c_Model (by decide) wd_807 (by decide +kernel)), ?_⟩
  refine List.forall_mem_cons.mpr ⟨ae_mk pu_il (fun X => ok_iload_n X (k := 2) rfl (by decide +kernel)), ?_⟩
  refine List.forall_mem_cons.mpr ⟨ae_mk (pu_push (fun _ => trivial)) (fun X => ok_iconst X (n := (-1)) (by decide) (by decide +kernel)), ?_⟩
  refine List.forall_mem_cons.mpr ⟨ae_mk pu_ias (fun X => ok_ias X (by decide +kernel)), ?_⟩
  refine List.forall_mem_cons.mpr ⟨ae_mk (pu_push (fun _ => trivial)) (fun X => ok_bipush X (n := 10) (by decide) (by decide +kernel)), ?_⟩
  refine List.forall_mem_cons.mpr ⟨Or.inl ⟨rfl, (by decide +kernel), rt_int⟩, ?_⟩
  refine List.forall_mem_cons.mpr ⟨ae_mk (pu_push (fun _ => trivial)) (fun X => ok_iconst X (n := 0) (by decide) (by decide +kernel)), ?_⟩
  refine List.forall_mem_cons.mpr ⟨ae_mk pu_is (fun X => ok_istore X (by decide +kernel)), ?_⟩
  refine List.forall_mem_cons.mpr ⟨ae_mk pu_il (fun X => ok_iload X (by decide +kernel)), ?_⟩
  refine List.forall_mem_cons.mpr ⟨ae_mk pu_il (fun X => ok_iload_n X (k := 3) rfl (by decide +kernel)), ?_⟩
  refine List.forall_mem_cons.mpr ⟨ae_mk pu_ic (fun X => ok_ic_ge X (off := 35) (by decide) (by decide +kernel)), ?_⟩
  refine List.forall_mem_cons.mpr ⟨ae_mk pu_al (fun X => ok_aload_n X (k := 0) rfl (by decide +kernel)), ?_⟩
  refine List.forall_mem_cons.mpr ⟨ae_mk pu_get (fun X => ok_get X (ci := 8) (kk := 33) (index := 105) rfl aw_c_Model (by decide) wd_809 (by decide +kernel)), ?_⟩
  refine List.forall_mem_cons.mpr ⟨ae_mk (pu_push (fun _ => trivial)) (fun X => ok_sipush X (n := 1000) (by decide) (by decide +kernel)), ?_⟩
  refine List.forall_mem_cons.mpr ⟨ae_mk pu_il (fun X => ok_iload_n X (k := 2) rfl (by decide +kernel)), ?_⟩
  refine List.forall_mem_cons.mpr ⟨ae_mk pu_bin (fun X => ok_imul X (by decide +kernel)), ?_⟩
  refine List.forall_mem_cons.mpr ⟨ae_mk pu_il (fun X => ok_iload X (by decide +kernel)), ?_⟩
  refine List.forall_mem_cons.mpr ⟨ae_mk pu_bin (fun X => ok_iadd X (by decide +kernel)), ?_⟩
  refine List.forall_mem_cons.mpr ⟨ae_mk pu_il (fun X => ok_iload X (by decide +kernel)), ?_⟩
  refine List.forall_mem_cons.mpr ⟨ae_mk pu_bin (fun X => ok_iadd X (by decide +kernel)), ?_⟩
  refine List.forall_mem_cons.mpr ⟨ae_mk pu_al (fun X => ok_aload_n X (k := 0) rfl (by decide +kernel)), ?_⟩
  refine List.forall_mem_cons.mpr ⟨ae_mk pu_il (fun X => ok_iload_n X (k := 1) rfl (by decide +kernel)), ?_⟩
  refine List.forall_mem_cons.mpr ⟨ae_mk (pu_push (fun _ => trivial)) (fun X => ok_bipush X (n := 34) (by decide) (by decide +kernel)), ?_⟩
  refine List.forall_mem_cons.mpr ⟨ae_mk pu_il (fun X => ok_iload X (by decide +kernel)), ?_⟩
  refine List.forall_mem_cons.mpr ⟨ae_mk pu_bin (fun X => ok_iadd X (by decide +kernel)), ?_⟩
  refine List.forall_mem_cons.mpr ⟨ae_mkc (fun X => ok_callV X (mid := 108) (index := 150) (y := my_108) rfl (by decide) ⟨by decide, by decide⟩ (n := 2) (by decide +kernel) wd_949 wd_51 wd_946 wd_948 wd_28 (ci := 8) rfl (by decide +kernel)), ?_⟩
  refine List.forall_mem_cons.mpr ⟨ae_mk pu_ias (fun X => ok_ias X (by decide +kernel)), ?_⟩
  refine List.forall_mem_cons.mpr ⟨ae_mk pu_inc (fun X => ok_iinc X (n := 1) (by decide) (by decide +kernel)), ?_⟩
  refine List.forall_mem_cons.mpr ⟨ae_mk pu_goto (fun X => ok_goto X (off := (-35)) (by decide) (by decide +kernel)), ?_⟩
  refine List.forall_mem_cons.mpr ⟨ae_mk pu_al (fun X => ok_aload_n X (k := 0) rfl (by decide +kernel)), ?_⟩
  refine List.forall_mem_cons.mpr ⟨ae_mk pu_get (fun X => ok_get X (ci := 8) (kk := 32) (index := 102) rfl aw_c_Model (by decide) wd_808 (by decide +kernel)), ?_⟩
  refine List.forall_mem_cons.mpr ⟨ae_mk pu_il (fun X => ok_iload_n X (k := 2) rfl (by decide +kernel)), ?_⟩
  refine List.forall_mem_cons.mpr ⟨ae_mk pu_dup2 (fun X => ok_dup2 X (by decide +kernel)), ?_⟩
  refine List.forall_mem_cons.mpr ⟨ae_mk pu_ia (fun X => ok_ia X (by decide +kernel)), ?_⟩
  refine List.forall_mem_cons.mpr ⟨ae_mk pu_il (fun X => ok_iload_n X (k := 3) rfl (by decide +kernel)), ?_⟩
  refine List.forall_mem_cons.mpr ⟨ae_mk pu_bin (fun X => ok_iadd X (by decide +kernel)), ?_⟩
  refine List.forall_mem_cons.mpr ⟨ae_mk pu_ias (fun X => ok_ias X (by decide +kernel)), ?_⟩
  refine List.forall_mem_cons.mpr ⟨ae_mk pu_al (fun X => ok_aload_n X (k := 0) rfl (by decide +kernel)), ?_⟩
  refine List.forall_mem_cons.mpr ⟨ae_mk pu_il (fun X => ok_iload_n X (k := 1) rfl (by decide +kernel)), ?_⟩
  refine List.forall_mem_cons.mpr ⟨ae_mk (pu_push (fun _ => trivial)) (fun X => ok_bipush X (n := 20) (by decide) (by decide +kernel)), ?_⟩
  refine List.forall_mem_cons.mpr ⟨ae_mkc (fun X => ok_callV X (mid := 108) (index := 150) (y := my_108) rfl (by decide) ⟨by decide, by decide⟩ (n := 2) (by decide +kernel) wd_949 wd_51 wd_946 wd_948 wd_28 (ci := 8) rfl (by decide +kernel)), ?_⟩
  refine List.forall_mem_cons.mpr ⟨ae_mk (pu_push (fun _ => trivial)) (fun X => ok_bipush X (n := 32) (by decide) (by decide +kernel)), ?_⟩
  refine List.forall_mem_cons.mpr ⟨ae_mk pu_dv (fun X => ok_idiv X (by decide +kernel)), ?_⟩
  refine List.forall_mem_cons.mpr ⟨ae_mk (pu_push (fun _ => trivial)) (fun X => ok_iconst X (n := 2) (by decide) (by decide +kernel)), ?_⟩
  refine List.forall_mem_cons.mpr ⟨ae_mk pu_dv (fun X => ok_irem X (by decide +kernel)), ?_⟩
  refine List.forall_mem_cons.mpr ⟨ae_mk (pu_push (fun _ => trivial)) (fun X => ok_iconst X (n := 1) (by decide) (by decide +kernel)), ?_⟩
  refine List.forall_mem_cons.mpr ⟨ae_mk pu_ic (fun X => ok_ic_ne X (off := 5) (by decide) (by decide +kernel)), ?_⟩
  refine List.forall_mem_cons.mpr ⟨ae_mk (pu_push (fun _ => trivial)) (fun X => ok_iconst X (n := 0) (by decide) (by decide +kernel)), ?_⟩
  refine List.forall_mem_cons.mpr ⟨Or.inl ⟨rfl, (by decide +kernel), rt_int⟩, ?_⟩
  refine List.forall_mem_cons.mpr ⟨ae_mk pu_al (fun X => ok_aload_n X (k := 0) rfl (by decide +kernel)), ?_⟩
  refine List.forall_mem_cons.mpr ⟨ae_mk pu_get (fun X => ok_get X (ci := 8) (kk := 31) (index := 99) rfl aw_c_Model (by decide) wd_807 (by decide +kernel)), ?_⟩
  refine List.forall_mem_cons.mpr ⟨ae_mk pu_il (fun X => ok_iload_n X (k := 2) rfl (by decide +kernel)), ?_⟩
  refine List.forall_mem_cons.mpr ⟨ae_mk (pu_push (fun _ => trivial)) (fun X => ok_iconst X (n := (-1)) (by decide) (by decide +kernel)), ?_⟩
  refine List.forall_mem_cons.mpr ⟨ae_mk pu_ias (fun X => ok_ias X (by decide +kernel)), ?_⟩
  refine List.forall_mem_cons.mpr ⟨ae_mk pu_al (fun X => ok_aload_n X (k := 0) rfl (by decide +kernel)), ?_⟩
  refine List.forall_mem_cons.mpr ⟨ae_mk pu_get (fun X => ok_get X (ci := 8) (kk := 32) (index := 102) rfl aw_c_Model (by decide) wd_808 (by decide +kernel)), ?_⟩
  refine List.forall_mem_cons.mpr ⟨ae_mk pu_il (fun X => ok_iload_n X (k := 2) rfl (by decide +kernel)), ?_⟩
  refine List.forall_mem_cons.mpr ⟨ae_mk pu_ia (fun X => ok_ia X (by decide +kernel)), ?_⟩
  refine List.forall_mem_cons.mpr ⟨ae_mk pu_is (fun X => ok_istore X (by decide +kernel)), ?_⟩
  refine List.forall_mem_cons.mpr ⟨ae_mk pu_il (fun X => ok_iload X (by decide +kernel)), ?_⟩
  refine List.forall_mem_cons.mpr ⟨ae_mk (pu_push (fun _ => trivial)) (fun X => ok_bipush X (n := 8) (by decide) (by decide +kernel)), ?_⟩
  refine List.forall_mem_cons.mpr ⟨ae_mk pu_ic (fun X => ok_ic_lt X (off := 37) (by decide) (by decide +kernel)), ?_⟩
  refine List.forall_mem_cons.mpr ⟨ae_mk (pu_push (fun _ => trivial)) (fun X => ok_sipush X (n := 256) (by decide) (by decide +kernel)), ?_⟩
  refine List.forall_mem_cons.mpr ⟨ae_mk pu_al (fun X => ok_aload_n X (k := 0) rfl (by decide +kernel)), ?_⟩
  refine List.forall_mem_cons.mpr ⟨ae_mk pu_get (fun X => ok_get X (ci := 8) (kk := 33) (index := 105) rfl aw_c_Model (by decide) wd_809 (by decide +kernel)), ?_⟩
  refine List.forall_mem_cons.mpr ⟨ae_mk (pu_push (fun _ => trivial)) (fun X => ok_sipush X (n := 1000) (by decide) (by decide +kernel)), ?_⟩
  refine List.forall_mem_cons.mpr ⟨ae_mk pu_il (fun X => ok_iload_n X (k := 2) rfl (by decide +kernel)), ?_⟩
  refine List.forall_mem_cons.mpr ⟨ae_mk pu_bin (fun X => ok_imul X (by decide +kernel)), ?_⟩
  refine List.forall_mem_cons.mpr ⟨ae_mk (pu_push (fun _ => trivial)) (fun X => ok_iconst X (n := 4) (by decide) (by decide +kernel)), ?_⟩
  refine List.forall_mem_cons.mpr ⟨ae_mk pu_bin (fun X => ok_iadd X (by decide +kernel)), ?_⟩
  refine List.forall_mem_cons.mpr ⟨ae_mk pu_ia (fun X => ok_ia X (by decide +kernel)), ?_⟩
  refine List.forall_mem_cons.mpr ⟨ae_mk pu_bin (fun X => ok_imul X (by decide +kernel)), ?_⟩
  refine List.forall_mem_cons.mpr ⟨ae_mk pu_al (fun X => ok_aload_n X (k := 0) rfl (by decide +kernel)), ?_⟩
  refine List.forall_mem_cons.mpr ⟨ae_mk pu_get (fun X => ok_get X (ci := 8) (kk := 33) (index := 105) rfl aw_c_Model (by decide) wd_809 (by decide +kernel)), ?_⟩
  refine List.forall_mem_cons.mpr ⟨ae_mk (pu_push (fun _ => trivial)) (fun X => ok_sipush X (n := 1000) (by decide) (by decide +kernel)), ?_⟩
  refine List.forall_mem_cons.mpr ⟨ae_mk pu_il (fun X => ok_iload_n X (k := 2) rfl (by decide +kernel)), ?_⟩
  refine List.forall_mem_cons.mpr ⟨ae_mk pu_bin (fun X => ok_imul X (by decide +kernel)), ?_⟩
  refine List.forall_mem_cons.mpr ⟨ae_mk (pu_push (fun _ => trivial)) (fun X => ok_iconst X (n := 5) (by decide) (by decide +kernel)), ?_⟩
  refine List.forall_mem_cons.mpr ⟨ae_mk pu_bin (fun X => ok_iadd X (by decide +kernel)), ?_⟩
  refine List.forall_mem_cons.mpr ⟨ae_mk pu_ia (fun X => ok_ia X (by decide +kernel)), ?_⟩
  refine List.forall_mem_cons.mpr ⟨ae_mk pu_bin (fun X => ok_iadd X (by decide +kernel)), ?_⟩
  refine List.forall_mem_cons.mpr ⟨ae_mk pu_il (fun X => ok_iload X (by decide +kernel)), ?_⟩
  refine List.forall_mem_cons.mpr ⟨ae_mk pu_ic (fun X => ok_ic_eq X (off := 6) (by decide) (by decide +kernel)), ?_⟩
  refine List.forall_mem_cons.mpr ⟨ae_mk (pu_push (fun _ => trivial)) (fun X => ok_bipush X (n := 10) (by decide) (by decide +kernel)), ?_⟩
  refine List.forall_mem_cons.mpr ⟨Or.inl ⟨rfl, (by decide +kernel), rt_int⟩, ?_⟩
  refine List.forall_mem_cons.mpr ⟨ae_mk pu_al (fun X => ok_aload_n X (k := 0) rfl (by decide +kernel)), ?_⟩
  refine List.forall_mem_cons.mpr ⟨ae_mk pu_get (fun X => ok_get X (ci := 8) (kk := 4) (index := 16) rfl aw_c_Model (by decide) wd_780 (by decide +kernel)), ?_⟩
  refine List.forall_mem_cons.mpr ⟨ae_mk pu_il (fun X => ok_iload_n X (k := 2) rfl (by decide +kernel)), ?_⟩
  refine List.forall_mem_cons.mpr ⟨ae_mk (pu_push (fun _ => trivial)) (fun X => ok_bipush X (n := 8) (by decide) (by decide +kernel)), ?_⟩
  refine List.forall_mem_cons.mpr ⟨ae_mk pu_dv (fun X => ok_irem X (by decide +kernel)), ?_⟩
  refine List.forall_mem_cons.mpr ⟨ae_mk pu_ba (fun X => ok_ba X (by decide +kernel)), ?_⟩
  refine List.forall_mem_cons.mpr ⟨ae_mk pu_if (fun X => ok_if_ne X (off := 10) (by decide) (by decide +kernel)), ?_⟩
  refine List.forall_mem_cons.mpr ⟨ae_mk pu_al (fun X => ok_aload_n X (k := 0) rfl (by decide +kernel)), ?_⟩
  refine List.forall_mem_cons.mpr ⟨ae_mk pu_get (fun X => ok_get X (ci := 8) (kk := 34) (index := 108) rfl aw_c_Model (by decide) wd_810 (by decide +kernel)), ?_⟩
  refine List.forall_mem_cons.mpr ⟨ae_mk pu_il (fun X => ok_iload_n X (k := 2) rfl (by decide +kernel)), ?_⟩
  refine List.forall_mem_cons.mpr ⟨ae_mk (pu_push (fun _ => trivial)) (fun X => ok_iconst X (n := 0) (by decide) (by decide +kernel)), ?_⟩
  refine List.forall_mem_cons.mpr ⟨ae_mk pu_ias (fun X => ok_ias X (by decide +kernel)), ?_⟩
  refine List.forall_mem_cons.mpr ⟨ae_mk pu_al (fun X => ok_aload_n X (k := 0) rfl (by decide +kernel)), ?_⟩
  refine List.forall_mem_cons.mpr ⟨ae_mk pu_get (fun X => ok_get X (ci := 8) (kk := 34) (index := 108) rfl aw_c_Model (by decide) wd_810 (by decide +kernel)), ?_⟩
  refine List.forall_mem_cons.mpr ⟨ae_mk pu_il (fun X => ok_iload_n X (k := 2) rfl (by decide +kernel)), ?_⟩
  refine List.forall_mem_cons.mpr ⟨ae_mk pu_ia (fun X => ok_ia X (by decide +kernel)), ?_⟩
  refine List.forall_mem_cons.mpr ⟨ae_mk (pu_push (fun _ => trivial)) (fun X => ok_iconst X (n := 4) (by decide) (by decide +kernel)), ?_⟩
  refine List.forall_mem_cons.mpr ⟨ae_mk pu_ic (fun X => ok_ic_ne X (off := 6) (by decide) (by decide +kernel)), ?_⟩
  refine List.forall_mem_cons.mpr ⟨ae_mk (pu_push (fun _ => trivial)) (fun X => ok_bipush X (n := 11) (by decide) (by decide +kernel)), ?_⟩
  refine List.forall_mem_cons.mpr ⟨Or.inl ⟨rfl, (by decide +kernel), rt_int⟩, ?_⟩
  refine List.forall_mem_cons.mpr ⟨ae_mk (pu_push (fun _ => trivial)) (fun X => ok_iconst X (n := 4) (by decide) (by decide +kernel)), ?_⟩
  refine List.forall_mem_cons.mpr ⟨ae_mk pu_il (fun X => ok_iload_n X (k := 2) rfl (by decide +kernel)), ?_⟩
  refine List.forall_mem_cons.mpr ⟨ae_mk pu_bin (fun X => ok_imul X (by decide +kernel)), ?_⟩
  refine List.forall_mem_cons.mpr ⟨ae_mk pu_al (fun X => ok_aload_n X (k := 0) rfl (by decide +kernel)), ?_⟩
  refine List.forall_mem_cons.mpr ⟨ae_mk pu_get (fun X => ok_get X (ci := 8) (kk := 34) (index := 108) rfl aw_c_Model (by decide) wd_810 (by decide +kernel)), ?_⟩
  refine List.forall_mem_cons.mpr ⟨ae_mk pu_il (fun X => ok_iload_n X (k := 2) rfl (by decide +kernel)), ?_⟩
  refine List.forall_mem_cons.mpr ⟨ae_mk pu_ia (fun X => ok_ia X (by decide +kernel)), ?_⟩
  refine List.forall_mem_cons.mpr ⟨ae_mk pu_bin (fun X => ok_iadd X (by decide +kernel)), ?_⟩
  refine List.forall_mem_cons.mpr ⟨ae_mk pu_is (fun X => ok_istore X (by decide +kernel)), ?_⟩
  refine List.forall_mem_cons.mpr ⟨ae_mk pu_al (fun X => ok_aload_n X (k := 0) rfl (by decide +kernel)), ?_⟩
  refine List.forall_mem_cons.mpr ⟨ae_mk pu_get (fun X => ok_get X (ci := 8) (kk := 35) (index := 111) rfl aw_c_Model (by decide) wd_811 (by decide +kernel)), ?_⟩
  refine List.forall_mem_cons.mpr ⟨ae_mk pu_il (fun X => ok_iload X (by decide +kernel)), ?_⟩
  refine List.forall_mem_cons.mpr ⟨ae_mk pu_il (fun X => ok_iload X (by decide +kernel)), ?_⟩
  refine List.forall_mem_cons.mpr ⟨ae_mk (pu_push (fun _ => trivial)) (fun X => ok_bipush X (n := 8) (by decide) (by decide +kernel)), ?_⟩
  refine List.forall_mem_cons.mpr ⟨ae_mk pu_bin (fun X => ok_isub X (by decide +kernel)), ?_⟩
  refine List.forall_mem_cons.mpr ⟨ae_mk pu_ias (fun X => ok_ias X (by decide +kernel)), ?_⟩
  refine List.forall_mem_cons.mpr ⟨ae_mk (pu_push (fun _ => trivial)) (fun X => ok_bipush X (n := 8) (by decide) (by decide +kernel)), ?_⟩
  refine List.forall_mem_cons.mpr ⟨ae_mk pu_is (fun X => ok_istore X (by decide +kernel)), ?_⟩
  refine List.forall_mem_cons.mpr ⟨ae_mk pu_il (fun X => ok_iload X (by decide +kernel)), ?_⟩
  refine List.forall_mem_cons.mpr ⟨ae_mk pu_il (fun X => ok_iload X (by decide +kernel)), ?_⟩
  refine List.forall_mem_cons.mpr ⟨ae_mk pu_ic (fun X => ok_ic_ge X (off := 39) (by decide) (by decide +kernel)), ?_⟩
  refine List.forall_mem_cons.mpr ⟨ae_mk pu_al (fun X => ok_aload_n X (k := 0) rfl (by decide +kernel)), ?_⟩
  refine List.forall_mem_cons.mpr ⟨ae_mk pu_get (fun X => ok_get X (ci := 8) (kk := 36) (index := 115) rfl aw_c_Model (by decide) wd_812 (by decide +kernel)), ?_⟩
  refine List.forall_mem_cons.mpr ⟨ae_mk (pu_push (fun _ => trivial)) (fun X => ok_sipush X (n := 1000) (by decide) (by decide +kernel)), ?_⟩
  refine List.forall_mem_cons.mpr ⟨ae_mk pu_il (fun X => ok_iload X (by decide +kernel)), ?_⟩
  refine List.forall_mem_cons.mpr ⟨ae_mk pu_bin (fun X => ok_imul X (by decide +kernel)), ?_⟩
  refine List.forall_mem_cons.mpr ⟨ae_mk pu_il (fun X => ok_iload X (by decide +kernel)), ?_⟩
  refine List.forall_mem_cons.mpr ⟨ae_mk pu_bin (fun X => ok_iadd X (by decide +kernel)), ?_⟩
  refine List.forall_mem_cons.mpr ⟨ae_mk (pu_push (fun _ => trivial)) (fun X => ok_bipush X (n := 8) (by decide) (by decide +kernel)), ?_⟩
  refine List.forall_mem_cons.mpr ⟨ae_mk pu_bin (fun X => ok_isub X (by decide +kernel)), ?_⟩
  refine List.forall_mem_cons.mpr ⟨ae_mk pu_al (fun X => ok_aload_n X (k := 0) rfl (by decide +kernel)), ?_⟩
  refine List.forall_mem_cons.mpr ⟨ae_mk pu_get (fun X => ok_get X (ci := 8) (kk := 33) (index := 105) rfl aw_c_Model (by decide) wd_809 (by decide +kernel)), ?_⟩
  refine List.forall_mem_cons.mpr ⟨ae_mk (pu_push (fun _ => trivial)) (fun X => ok_sipush X (n := 1000) (by decide) (by decide +kernel)), ?_⟩
  refine List.forall_mem_cons.mpr ⟨ae_mk pu_il (fun X => ok_iload_n X (k := 2) rfl (by decide +kernel)), ?_⟩
  refine List.forall_mem_cons.mpr ⟨ae_mk pu_bin (fun X => ok_imul X (by decide +kernel)), ?_⟩
  refine List.forall_mem_cons.mpr ⟨ae_mk pu_il (fun X => ok_iload X (by decide +kernel)), ?_⟩
  refine List.forall_mem_cons.mpr ⟨ae_mk pu_bin (fun X => ok_iadd X (by decide +kernel)), ?_⟩
  refine List.forall_mem_cons.mpr ⟨ae_mk pu_ia (fun X => ok_ia X (by decide +kernel)), ?_⟩
  refine List.forall_mem_cons.mpr ⟨ae_mk pu_ias (fun X => ok_ias X (by decide +kernel)), ?_⟩
  refine List.forall_mem_cons.mpr ⟨ae_mk pu_inc (fun X => ok_iinc X (n := 1) (by decide) (by decide +kernel)), ?_⟩
  refine List.forall_mem_cons.mpr ⟨ae_mk pu_goto (fun X => ok_goto X (off := (-40)) (by decide) (by decide +kernel)), ?_⟩
  refine List.forall_mem_cons.mpr ⟨ae_mk pu_al (fun X => ok_aload_n X (k := 0) rfl (by decide +kernel)), ?_⟩
  refine List.forall_mem_cons.mpr ⟨ae_mk pu_get (fun X => ok_get X (ci := 8) (kk := 34) (index := 108) rfl aw_c_Model (by decide) wd_810 (by decide +kernel)), ?_⟩
  refine List.forall_mem_cons.mpr ⟨ae_mk pu_il (fun X => ok_iload_n X (k := 2) rfl (by decide +kernel)), ?_⟩
  refine List.forall_mem_cons.mpr ⟨ae_mk pu_dup2 (fun X => ok_dup2 X (by decide +kernel)), ?_⟩
  refine List.forall_mem_cons.mpr ⟨ae_mk pu_ia (fun X => ok_ia X (by decide +kernel)), ?_⟩
  refine List.forall_mem_cons.mpr ⟨ae_mk (pu_push (fun _ => trivial)) (fun X => ok_iconst X (n := 1) (by decide) (by decide +kernel)), ?_⟩
  refine List.forall_mem_cons.mpr ⟨ae_mk pu_bin (fun X => ok_iadd X (by decide +kernel)), ?_⟩
  refine List.forall_mem_cons.mpr ⟨ae_mk pu_ias (fun X => ok_ias X (by decide +kernel)), ?_⟩
  refine List.forall_mem_cons.mpr ⟨ae_mk pu_al (fun X => ok_aload_n X (k := 0) rfl (by decide +kernel)), ?_⟩
  refine List.forall_mem_cons.mpr ⟨ae_mk pu_get (fun X => ok_get X (ci := 8) (kk := 37) (index := 118) rfl aw_c_Model (by decide) wd_813 (by decide +kernel)), ?_⟩
  refine List.forall_mem_cons.mpr ⟨ae_mk pu_il (fun X => ok_iload_n X (k := 2) rfl (by decide +kernel)), ?_⟩
  refine List.forall_mem_cons.mpr ⟨ae_mk pu_al (fun X => ok_aload_n X (k := 0) rfl (by decide +kernel)), ?_⟩
  refine List.forall_mem_cons.mpr ⟨ae_mk pu_get (fun X => ok_get X (ci := 8) (kk := 1) (index := 177) rfl aw_c_Model (by decide) wd_777 (by decide +kernel)), ?_⟩
  refine List.forall_mem_cons.mpr ⟨ae_mk pu_ias (fun X => ok_ias X (by decide +kernel)), ?_⟩
  refine List.forall_mem_cons.mpr ⟨ae_mk (pu_push (fun _ => trivial)) (fun X => ok_iconst X (n := 0) (by decide) (by decide +kernel)), ?_⟩
  refine List.forall_mem_cons.mpr ⟨Or.inl ⟨rfl, (by decide +kernel), rt_int⟩, ?_⟩
  exact fun _ h => absurd h List.not_mem_nil
def tb_124 : List (Nat × ae_I) := [(0, .inl (o_al 0 1)),
  (1, .inl (o_il 1 2)),
  (2, .inr (.inr (.inl (117, 2, 5, some 8, [])))),
  (5, .inl (o_is 4 7)),
  (7, .inl (o_al 0 8)),
  (8, .inl (o_il 1 9)),
  (9, .inr (.inr (.inl (118, 2, 12, some 8, [])))),
  (12, .inl (o_if (fun x => decide (¬ x = 0)) 19 15)),
  (15, .inl (o_push (.int 1) 16)),
  (16, .inl (o_goto 64)),
  (19, .inl (o_il 4 21)),
  (21, .inl (o_push (.int (-1)) 22)),
  (22, .inl (o_ic (fun x y => decide (¬ x = y)) 29 25)),
  (25, .inl (o_push (.int 2) 26)),
  (26, .inl (o_goto 64)),
  (29, .inl (o_al 0 30)),
  (30, .inl (o_il 3 31)),
  (31, .inl (o_il 4 33)),
  (33, .inr (.inr (.inl (125, 3, 36, some 8, [])))),
  (36, .inl (o_if (fun x => decide (¬ x = 0)) 43 39)),
  (39, .inl (o_push (.int 3) 40)),
  (40, .inl (o_goto 64)),
  (43, .inl (o_al 0 44)),
  (44, .inl (o_get 8 20 47)),
  (47, .inl (o_il 1 48)),
  (48, .inl (o_ia 49)),
  (49, .inl (o_al 0 50)),
  (50, .inl (o_get 8 7 53)),
  (53, .inl (o_il 4 55)),
  (55, .inl (o_ia 56)),
  (56, .inl (o_ic (fun x y => decide (x ≤ y)) 63 59)),
  (59, .inl (o_push (.int 4) 60)),
  (60, .inl (o_goto 64)),
  (63, .inl (o_push (.int 0) 64)),
  (64, .inl (o_is 5 66)),
  (66, .inl (o_il 5 68)),
  (68, .inl (o_if (fun x => decide (¬ x = 0)) 108 71)),
  (71, .inl (o_il 3 72)),
  (72, .inl (o_push (.int 4) 73)),
  (73, .inl (o_ic (fun x y => decide (y ≤ x)) 108 76)),
  (76, .inl (o_al 0 77)),
  (77, .inl (o_get 8 13 80)),
  (80, .inl (o_push (.int 8) 82)),
  (82, .inl (o_il 2 83)),
  (83, .inl (o_bin (fun x y => x * y) 84)),
  (84, .inl (o_il 4 86)),
  (86, .inl (o_bin (fun x y => x + y) 87)),
  (87, .inl (o_ia 88)),
  (88, .inl (o_al 0 89)),
  (89, .inl (o_get 8 20 92)),
  (92, .inl (o_il 1 93)),
  (93, .inl (o_ia 94)),
  (94, .inl (o_al 0 95)),
  (95, .inl (o_get 8 6 98)),
  (98, .inl (o_il 4 100)),
  (100, .inl (o_ia 101)),
  (101, .inl (o_bin (fun x y => x * y) 102)),
  (102, .inl (o_ic (fun x y => decide (y ≤ x)) 108 105)),
  (105, .inl (o_push (.int 5) 106)),
  (106, .inl (o_is 5 108)),
  (108, .inl (o_il 5 110)),
  (110, .inl (o_if (fun x => decide (x ≤ 0)) 121 113)),
  (113, .inl (o_al 0 114)),
  (114, .inl (o_il 1 115)),
  (115, .inl (o_il 5 117)),
  (117, .inr (.inr (.inl (113, 3, 120, some 8, [])))),
  (120, .inr (.inl none)),
  (121, .inl (o_il 3 122)),
  (122, .inl (o_push (.int 4) 123)),
  (123, .inl (o_ic (fun x y => decide (y ≤ x)) 155 126)),
  (126, .inl (o_al 0 127)),
  (127, .inl (o_get 8 13 130)),
  (130, .inl (o_push (.int 8) 132)),
  (132, .inl (o_il 2 133)),
  (133, .inl (o_bin (fun x y => x * y) 134)),
  (134, .inl (o_il 4 136)),
  (136, .inl (o_bin (fun x y => x + y) 137)),
  (137, .inl (o_dup2 138)),
  (138, .inl (o_ia 139)),
  (139, .inl (o_al 0 140)),
  (140, .inl (o_get 8 20 143)),
  (143, .inl (o_il 1 144)),
  (144, .inl (o_ia 145)),
  (145, .inl (o_al 0 146)),
  (146, .inl (o_get 8 6 149)),
  (149, .inl (o_il 4 151)),
  (151, .inl (o_ia 152)),
  (152, .inl (o_bin (fun x y => x * y) 153)),
  (153, .inl (o_bin (fun x y => x - y) 154)),
  (154, .inl (o_ias 155)),
  (155, .inl (o_push (.int 4) 156)),
  (156, .inl (o_is 6 158)),
  (158, .inl (o_il 6 160)),
  (160, .inl (o_push (.int 12) 162)),
  (162, .inl (o_ic (fun x y => decide (y ≤ x)) 277 165)),
  (165, .inl (o_il 6 167)),
  (167, .inr (.inr (.inl (127, 1, 170, none, [])))),
  (170, .inl (o_il 3 171)),
  (171, .inr (.inr (.inl (115, 1, 174, none, [])))),
  (174, .inl (o_ic (fun x y => decide (¬ x = y)) 271 177)),
  (177, .inl (o_al 0 178)),
  (178, .inl (o_il 6 180)),
  (180, .inl (o_il 4 182)),
  (182, .inr (.inr (.inl (125, 3, 185, some 8, [])))),
  (185, .inl (o_if (fun x => decide (¬ x = 0)) 191 188)),
  (188, .inl (o_goto 271)),
  (191, .inl (o_al 0 192)),
  (192, .inr (.inr (.inl (104, 1, 195, some 8, [])))),
  (195, .inl (o_is 7 197)),
  (197, .inl (o_al 0 198)),
  (198, .inl (o_get 8 20 201)),
  (201, .inl (o_il 7 203)),
  (203, .inl (o_al 0 204)),
  (204, .inl (o_get 8 20 207)),
  (207, .inl (o_il 1 208)),
  (208, .inl (o_ia 209)),
  (209, .inl (o_ias 210)),
  (210, .inl (o_push (.int 0) 211)),
  (211, .inl (o_is 8 213)),
  (213, .inl (o_il 8 215)),
  (215, .inl (o_al 0 216)),
  (216, .inl (o_get 8 20 219)),
  (219, .inl (o_il 1 220)),
  (220, .inl (o_ia 221)),
  (221, .inl (o_ic (fun x y => decide (y ≤ x)) 251 224)),
  (224, .inl (o_al 0 225)),
  (225, .inl (o_get 8 19 228)),
  (228, .inl (o_push (.int 200) 231)),
  (231, .inl (o_il 7 233)),
  (233, .inl (o_bin (fun x y => x * y) 234)),
  (234, .inl (o_il 8 236)),
  (236, .inl (o_bin (fun x y => x + y) 237)),
  (237, .inl (o_al 0 238)),
  (238, .inl (o_il 1 239)),
  (239, .inl (o_il 8 241)),
  (241, .inr (.inr (.inl (108, 3, 244, some 8, [])))),
  (244, .inl (o_ias 245)),
  (245, .inl (o_inc 8 1 248)),
  (248, .inl (o_goto 213)),
  (251, .inl (o_al 0 252)),
  (252, .inl (o_push (.int 12) 254)),
  (254, .inl (o_il 2 255)),
  (255, .inl (o_bin (fun x y => x * y) 256)),
  (256, .inl (o_il 6 258)),
  (258, .inl (o_bin (fun x y => x + y) 259)),
  (259, .inl (o_il 7 261)),
  (261, .inl (o_al 0 262)),
  (262, .inl (o_get 8 3 265)),
  (265, .inl (o_il 4 267)),
  (267, .inl (o_ba 268)),
  (268, .inr (.inr (.inl (112, 4, 271, some 8, [])))),
  (271, .inl (o_inc 6 1 274)),
  (274, .inl (o_goto 158)),
  (277, .inl (o_al 0 278)),
  (278, .inl (o_get 8 21 281)),
  (281, .inl (o_il 1 282)),
  (282, .inl (o_push (.int 0) 283)),
  (283, .inl (o_bas 284)),
  (284, .inr (.inl none))]
theorem te_124 : ∀ q ∈ tb_124, ae_E am "TwinNetworkModel" "atSwitch" prog_10_method_29_code 9 (Option.none : Option Jvm.ClassFile.FieldType) [] q := by
  unfold tb_124
  refine List.forall_mem_cons.mpr ⟨ae_mk pu_al (fun X => ok_aload_n X (k := 0) rfl (by decide +kernel)), ?_⟩
  refine List.forall_mem_cons.mpr ⟨ae_mk pu_il (fun X => ok_iload_n X (k := 1) rfl (by decide +kernel)), ?_⟩
  refine List.forall_mem_cons.mpr ⟨ae_mkc (fun X => ok_callV X (mid := 117) (index := 204) (y := my_117) rfl (by decide) ⟨by decide, by decide⟩ (n := 1) (by decide +kernel) wd_985 wd_51 wd_982 wd_984 wd_35 (ci := 8) rfl (by decide +kernel)), ?_⟩
  refine List.forall_mem_cons.mpr ⟨ae_mk pu_is (fun X => ok_istore X (by decide +kernel)), ?_⟩
  refine List.forall_mem_cons.mpr ⟨ae_mk pu_al (fun X => ok_aload_n X (k := 0) rfl (by decide +kernel)), ?_⟩
  refine List.forall_mem_cons.mpr ⟨ae_mk pu_il (fun X => ok_iload_n X (k := 1) rfl (by decide +kernel)), ?_⟩
  refine List.forall_mem_cons.mpr ⟨ae_mkc (fun X => ok_callV X (mid := 118) (index := 207) (y := my_118) rfl (by decide) ⟨by decide, by decide⟩ (n := 1) (by decide +kernel) wd_989 wd_51 wd_986 wd_988 wd_36 (ci := 8) rfl (by decide +kernel)), ?_⟩
  refine List.forall_mem_cons.mpr ⟨ae_mk pu_if (fun X => ok_if_ne X (off := 7) (by decide) (by decide +kernel)), ?_⟩
  refine List.forall_mem_cons.mpr ⟨ae_mk (pu_push (fun _ => trivial)) (fun X => ok_iconst X (n := 1) (by decide) (by decide +kernel)), ?_⟩
  refine List.forall_mem_cons.mpr ⟨ae_mk pu_goto (fun X => ok_goto X (off := 48) (by decide) (by decide +kernel)), ?_⟩
  refine List.forall_mem_cons.mpr ⟨ae_mk pu_il (fun X => ok_iload X (by decide +kernel)), ?_⟩
  refine List.forall_mem_cons.mpr ⟨ae_mk (pu_push (fun _ => trivial)) (fun X => ok_iconst X (n := (-1)) (by decide) (by decide +kernel)), ?_⟩
  refine List.forall_mem_cons.mpr ⟨ae_mk pu_ic (fun X => ok_ic_ne X (off := 7) (by decide) (by decide +kernel)), ?_⟩
  refine List.forall_mem_cons.mpr ⟨ae_mk (pu_push (fun _ => trivial)) (fun X => ok_iconst X (n := 2) (by decide) (by decide +kernel)), ?_⟩
  refine List.forall_mem_cons.mpr ⟨ae_mk pu_goto (fun X => ok_goto X (off := 38) (by decide) (by decide +kernel)), ?_⟩
  refine List.forall_mem_cons.mpr ⟨ae_mk pu_al (fun X => ok_aload_n X (k := 0) rfl (by decide +kernel)), ?_⟩
  refine List.forall_mem_cons.mpr ⟨ae_mk pu_il (fun X => ok_iload_n X (k := 3) rfl (by decide +kernel)), ?_⟩
  refine List.forall_mem_cons.mpr ⟨ae_mk pu_il (fun X => ok_iload X (by decide +kernel)), ?_⟩
  refine List.forall_mem_cons.mpr ⟨ae_mkc (fun X => ok_callV X (mid := 125) (index := 210) (y := my_125) rfl (by decide) ⟨by decide, by decide⟩ (n := 2) (by decide +kernel) wd_1016 wd_51 wd_1013 wd_1015 wd_42 (ci := 8) rfl (by decide +kernel)), ?_⟩
  refine List.forall_mem_cons.mpr ⟨ae_mk pu_if (fun X => ok_if_ne X (off := 7) (by decide) (by decide +kernel)), ?_⟩
  refine List.forall_mem_cons.mpr ⟨ae_mk (pu_push (fun _ => trivial)) (fun X => ok_iconst X (n := 3) (by decide) (by decide +kernel)), ?_⟩
  refine List.forall_mem_cons.mpr ⟨ae_mk pu_goto (fun X => ok_goto X (off := 24) (by decide) (by decide +kernel)), ?_⟩
  refine List.forall_mem_cons.mpr ⟨ae_mk pu_al (fun X => ok_aload_n X (k := 0) rfl (by decide +kernel)), ?_⟩
  refine List.forall_mem_cons.mpr ⟨ae_mk pu_get (fun X => ok_get X (ci := 8) (kk := 20) (index := 66) rfl aw_c_Model (by decide) wd_796 (by decide +kernel)), ?_⟩
  refine List.forall_mem_cons.mpr ⟨ae_mk pu_il (fun X => ok_iload_n X (k := 1) rfl (by decide +kernel)), ?_⟩
  refine List.forall_mem_cons.mpr ⟨ae_mk pu_ia (fun X => ok_ia X (by decide +kernel)), ?_⟩
  refine List.forall_mem_cons.mpr ⟨ae_mk pu_al (fun X => ok_aload_n X (k := 0) rfl (by decide +kernel)), ?_⟩
  refine List.forall_mem_cons.mpr ⟨ae_mk pu_get (fun X => ok_get X (ci := 8) (kk := 7) (index := 26) rfl aw_c_Model (by decide) wd_783 (by decide +kernel)), ?_⟩
  refine List.forall_mem_cons.mpr ⟨ae_mk pu_il (fun X => ok_iload X (by decide +kernel)), ?_⟩
  refine List.forall_mem_cons.mpr ⟨ae_mk pu_ia (fun X => ok_ia X (by decide +kernel)), ?_⟩
  refine List.forall_mem_cons.mpr ⟨ae_mk pu_ic (fun X => ok_ic_le X (off := 7) (by decide) (by decide +kernel)), ?_⟩
  refine List.forall_mem_cons.mpr ⟨ae_mk (pu_push (fun _ => trivial)) (fun X => ok_iconst X (n := 4) (by decide) (by decide +kernel)), ?_⟩
  refine List.forall_mem_cons.mpr ⟨ae_mk pu_goto (fun X => ok_goto X (off := 4) (by decide) (by decide +kernel)), ?_⟩
  refine List.forall_mem_cons.mpr ⟨ae_mk (pu_push (fun _ => trivial)) (fun X => ok_iconst X (n := 0) (by decide) (by decide +kernel)), ?_⟩
  refine List.forall_mem_cons.mpr ⟨ae_mk pu_is (fun X => ok_istore X (by decide +kernel)), ?_⟩
  refine List.forall_mem_cons.mpr ⟨ae_mk pu_il (fun X => ok_iload X (by decide +kernel)), ?_⟩
  refine List.forall_mem_cons.mpr ⟨ae_mk pu_if (fun X => ok_if_ne X (off := 40) (by decide) (by decide +kernel)), ?_⟩
  refine List.forall_mem_cons.mpr ⟨ae_mk pu_il (fun X => ok_iload_n X (k := 3) rfl (by decide +kernel)), ?_⟩
  refine List.forall_mem_cons.mpr ⟨ae_mk (pu_push (fun _ => trivial)) (fun X => ok_iconst X (n := 4) (by decide) (by decide +kernel)), ?_⟩
  refine List.forall_mem_cons.mpr ⟨ae_mk pu_ic (fun X => ok_ic_ge X (off := 35) (by decide) (by decide +kernel)), ?_⟩
  refine List.forall_mem_cons.mpr ⟨ae_mk pu_al (fun X => ok_aload_n X (k := 0) rfl (by decide +kernel)), ?_⟩
  refine List.forall_mem_cons.mpr ⟨ae_mk pu_get (fun X => ok_get X (ci := 8) (kk := 13) (index := 44) rfl aw_c_Model (by decide) wd_789 (by decide +kernel)), ?_⟩
  refine List.forall_mem_cons.mpr ⟨ae_mk (pu_push (fun _ => trivial)) (fun X => ok_bipush X (n := 8) (by decide) (by decide +kernel)), ?_⟩
  refine List.forall_mem_cons.mpr ⟨ae_mk pu_il (fun X => ok_iload_n X (k := 2) rfl (by decide +kernel)), ?_⟩
  refine List.forall_mem_cons.mpr ⟨ae_mk pu_bin (fun X => ok_imul X (by decide +kernel)), ?_⟩
  refine List.forall_mem_cons.mpr ⟨ae_mk pu_il (fun X => ok_iload X (by decide +kernel)), ?_⟩
  refine List.forall_mem_cons.mpr ⟨ae_mk pu_bin (fun X => ok_iadd X (by decide +kernel)), ?_⟩
  refine List.forall_mem_cons.mpr ⟨ae_mk pu_ia (fun X => ok_ia X (by decide +kernel)), ?_⟩
  refine List.forall_mem_cons.mpr ⟨ae_mk pu_al (fun X => ok_aload_n X (k := 0) rfl (by decide +kernel)), ?_⟩
  refine List.forall_mem_cons.mpr ⟨ae_mk pu_get (fun X => ok_get X (ci := 8) (kk := 20) (index := 66) rfl aw_c_Model (by decide) wd_796 (by decide +kernel)), ?_⟩
  refine List.forall_mem_cons.mpr ⟨ae_mk pu_il (fun X => ok_iload_n X (k := 1) rfl (by decide +kernel)), ?_⟩
  refine List.forall_mem_cons.mpr ⟨ae_mk pu_ia (fun X => ok_ia X (by decide +kernel)), ?_⟩
  refine List.forall_mem_cons.mpr ⟨ae_mk pu_al (fun X => ok_aload_n X (k := 0) rfl (by decide +kernel)), ?_⟩
  refine List.forall_mem_cons.mpr ⟨ae_mk pu_get (fun X => ok_get X (ci := 8) (kk := 6) (index := 23) rfl aw_c_Model (by decide) wd_782 (by decide +kernel)), ?_⟩
  refine List.forall_mem_cons.mpr ⟨ae_mk pu_il (fun X => ok_iload X (by decide +kernel)), ?_⟩
  refine List.forall_mem_cons.mpr ⟨ae_mk pu_ia (fun X => ok_ia X (by decide +kernel)), ?_⟩
  refine List.forall_mem_cons.mpr ⟨ae_mk pu_bin (fun X => ok_imul X (by decide +kernel)), ?_⟩
  refine List.forall_mem_cons.mpr ⟨ae_mk pu_ic (fun X => ok_ic_ge X (off := 6) (by decide) (by decide +kernel)), ?_⟩
  refine List.forall_mem_cons.mpr ⟨ae_mk (pu_push (fun _ => trivial)) (fun X => ok_iconst X (n := 5) (by decide) (by decide +kernel)), ?_⟩
  refine List.forall_mem_cons.mpr ⟨ae_mk pu_is (fun X => ok_istore X (by decide +kernel)), ?_⟩
  refine List.forall_mem_cons.mpr ⟨ae_mk pu_il (fun X => ok_iload X (by decide +kernel)), ?_⟩
  refine List.forall_mem_cons.mpr ⟨ae_mk pu_if (fun X => ok_if_le X (off := 11) (by decide) (by decide +kernel)), ?_⟩
  refine List.forall_mem_cons.mpr ⟨ae_mk pu_al (fun X => ok_aload_n X (k := 0) rfl (by decide +kernel)), ?_⟩
  refine List.forall_mem_cons.mpr ⟨ae_mk pu_il (fun X => ok_iload_n X (k := 1) rfl (by decide +kernel)), ?_⟩
  refine List.forall_mem_cons.mpr ⟨ae_mk pu_il (fun X => ok_iload X (by decide +kernel)), ?_⟩
  refine List.forall_mem_cons.mpr ⟨ae_mkc (fun X => ok_callV X (mid := 113) (index := 173) (y := my_113) rfl (by decide) ⟨by decide, by decide⟩ (n := 2) (by decide +kernel) wd_970 wd_51 wd_967 wd_969 wd_32 (ci := 8) rfl (by decide +kernel)), ?_⟩
  refine List.forall_mem_cons.mpr ⟨⟨rfl, (by decide +kernel)⟩, ?_⟩
  refine List.forall_mem_cons.mpr ⟨ae_mk pu_il (fun X => ok_iload_n X (k := 3) rfl (by decide +kernel)), ?_⟩
  refine List.forall_mem_cons.mpr ⟨ae_mk (pu_push (fun _ => trivial)) (fun X => ok_iconst X (n := 4) (by decide) (by decide +kernel)), ?_⟩
  refine List.forall_mem_cons.mpr ⟨ae_mk pu_ic (fun X => ok_ic_ge X (off := 32) (by decide) (by decide +kernel)), ?_⟩
  refine List.forall_mem_cons.mpr ⟨ae_mk pu_al (fun X => ok_aload_n X (k := 0) rfl (by decide +kernel)), ?_⟩
  refine List.forall_mem_cons.mpr ⟨ae_mk pu_get (fun X => ok_get X (ci := 8) (kk := 13) (index := 44) rfl aw_c_Model (by decide) wd_789 (by decide +kernel)), ?_⟩
  refine List.forall_mem_cons.mpr ⟨ae_mk (pu_push (fun _ => trivial)) (fun X => ok_bipush X (n := 8) (by decide) (by decide +kernel)), ?_⟩
  refine List.forall_mem_cons.mpr ⟨ae_mk pu_il (fun X => ok_iload_n X (k := 2) rfl (by decide +kernel)), ?_⟩
  refine List.forall_mem_cons.mpr ⟨ae_mk pu_bin (fun X => ok_imul X (by decide +kernel)), ?_⟩
  refine List.forall_mem_cons.mpr ⟨ae_mk pu_il (fun X => ok_iload X (by decide +kernel)), ?_⟩
  refine List.forall_mem_cons.mpr ⟨ae_mk pu_bin (fun X => ok_iadd X (by decide +kernel)), ?_⟩
  refine List.forall_mem_cons.mpr ⟨ae_mk pu_dup2 (fun X => ok_dup2 X (by decide +kernel)), ?_⟩
  refine List.forall_mem_cons.mpr ⟨ae_mk pu_ia (fun X => ok_ia X (by decide +kernel)), ?_⟩
  refine List.forall_mem_cons.mpr ⟨ae_mk pu_al (fun X => ok_aload_n X (k := 0) rfl (by decide +kernel)), ?_⟩
  refine List.forall_mem_cons.mpr ⟨ae_mk pu_get (fun X => ok_get X (ci := 8) (kk := 20) (index := 66) rfl aw_c_Model (by decide) wd_796 (by decide +kernel)), ?_⟩
  refine List.forall_mem_cons.mpr ⟨ae_mk pu_il (fun X => ok_iload_n X (k := 1) rfl (by decide +kernel)), ?_⟩
  refine List.forall_mem_cons.mpr ⟨ae_mk pu_ia (fun X => ok_ia X (by decide +kernel)), ?_⟩
  refine List.forall_mem_cons.mpr ⟨ae_mk pu_al (fun X => ok_aload_n X (k := 0) rfl (by decide +kernel)), ?_⟩
  refine List.forall_mem_cons.mpr ⟨ae_mk pu_get (fun X => ok_get X (ci := 8) (kk := 6) (index := 23) rfl aw_c_Model (by decide) wd_782 (by decide +kernel)), ?_⟩
  refine List.forall_mem_cons.mpr ⟨ae_mk pu_il (fun X => ok_iload X (by decide +kernel)), ?_⟩
  refine List.forall_mem_cons.mpr ⟨ae_mk pu_ia (fun X => ok_ia X (by decide +kernel)), ?_⟩
  refine List.forall_mem_cons.mpr ⟨ae_mk pu_bin (fun X => ok_imul X (by decide +kernel)), ?_⟩
  refine List.forall_mem_cons.mpr ⟨ae_mk pu_bin (fun X => ok_isub X (by decide +kernel)), ?_⟩
  refine List.forall_mem_cons.mpr ⟨ae_mk pu_ias (fun X => ok_ias X (by decide +kernel)), ?_⟩
  refine List.forall_mem_cons.mpr ⟨ae_mk (pu_push (fun _ => trivial)) (fun X => ok_iconst X (n := 4) (by decide) (by decide +kernel)), ?_⟩
  refine List.forall_mem_cons.mpr ⟨ae_mk pu_is (fun X => ok_istore X (by decide +kernel)), ?_⟩
  refine List.forall_mem_cons.mpr ⟨ae_mk pu_il (fun X => ok_iload X (by decide +kernel)), ?_⟩
  refine List.forall_mem_cons.mpr ⟨ae_mk (pu_push (fun _ => trivial)) (fun X => ok_bipush X (n := 12) (by decide) (by decide +kernel)), ?_⟩
  refine List.forall_mem_cons.mpr ⟨ae_mk pu_ic (fun X => ok_ic_ge X (off := 115) (by decide) (by decide +kernel)), ?_⟩
  refine List.forall_mem_cons.mpr ⟨ae_mk pu_il (fun X => ok_iload X (by decide +kernel)), ?_⟩
  refine List.forall_mem_cons.mpr ⟨ae_mkc (fun X => ok_callS X (mid := 127) (index := 135) (y := my_127) rfl (by decide) ⟨by decide, by decide⟩ (n := 1) (by decide +kernel) wd_1022 wd_51 wd_1020 wd_1021 (by decide +kernel)), ?_⟩
  refine List.forall_mem_cons.mpr ⟨ae_mk pu_il (fun X => ok_iload_n X (k := 3) rfl (by decide +kernel)), ?_⟩
  refine List.forall_mem_cons.mpr ⟨ae_mkc (fun X => ok_callS X (mid := 115) (index := 131) (y := my_115) rfl (by decide) ⟨by decide, by decide⟩ (n := 1) (by decide +kernel) wd_977 wd_51 wd_975 wd_976 (by decide +kernel)), ?_⟩
  refine List.forall_mem_cons.mpr ⟨ae_mk pu_ic (fun X => ok_ic_ne X (off := 97) (by decide) (by decide +kernel)), ?_⟩
  refine List.forall_mem_cons.mpr ⟨ae_mk pu_al (fun X => ok_aload_n X (k := 0) rfl (by decide +kernel)), ?_⟩
  refine List.forall_mem_cons.mpr ⟨ae_mk pu_il (fun X => ok_iload X (by decide +kernel)), ?_⟩
  refine List.forall_mem_cons.mpr ⟨ae_mk pu_il (fun X => ok_iload X (by decide +kernel)), ?_⟩
  refine List.forall_mem_cons.mpr ⟨ae_mkc (fun X => ok_callV X (mid := 125) (index := 210) (y := my_125) rfl (by decide) ⟨by decide, by decide⟩ (n := 2) (by decide +kernel) wd_1016 wd_51 wd_1013 wd_1015 wd_42 (ci := 8) rfl (by decide +kernel)), ?_⟩
  refine List.forall_mem_cons.mpr ⟨ae_mk pu_if (fun X => ok_if_ne X (off := 6) (by decide) (by decide +kernel)), ?_⟩
  refine List.forall_mem_cons.mpr ⟨ae_mk pu_goto (fun X => ok_goto X (off := 83) (by decide) (by decide +kernel)), ?_⟩
  refine List.forall_mem_cons.mpr ⟨ae_mk pu_al (fun X => ok_aload_n X (k := 0) rfl (by decide +kernel)), ?_⟩
  refine List.forall_mem_cons.mpr ⟨ae_mkc (fun X => ok_callV X (mid := 104) (index := 162) (y := my_104) rfl (by decide) ⟨by decide, by decide⟩ (n := 0) (by decide +kernel) wd_933 wd_51 wd_930 wd_932 wd_24 (ci := 8) rfl (by decide +kernel)), ?_⟩
  refine List.forall_mem_cons.mpr ⟨ae_mk pu_is (fun X => ok_istore X (by decide +kernel)), ?_⟩
  refine List.forall_mem_cons.mpr ⟨ae_mk pu_al (fun X => ok_aload_n X (k := 0) rfl (by decide +kernel)), ?_⟩
  refine List.forall_mem_cons.mpr ⟨ae_mk pu_get (fun X => ok_get X (ci := 8) (kk := 20) (index := 66) rfl aw_c_Model (by decide) wd_796 (by decide +kernel)), ?_⟩
  refine List.forall_mem_cons.mpr ⟨ae_mk pu_il (fun X => ok_iload X (by decide +kernel)), ?_⟩
  refine List.forall_mem_cons.mpr ⟨ae_mk pu_al (fun X => ok_aload_n X (k := 0) rfl (by decide +kernel)), ?_⟩
  refine List.forall_mem_cons.mpr ⟨ae_mk pu_get (fun X => ok_get X (ci := 8) (kk := 20) (index := 66) rfl aw_c_Model (by decide) wd_796 (by decide +kernel)), ?_⟩
  refine List.forall_mem_cons.mpr ⟨ae_mk pu_il (fun X => ok_iload_n X (k := 1) rfl (by decide +kernel)), ?_⟩
  refine List.forall_mem_cons.mpr ⟨ae_mk pu_ia (fun X => ok_ia X (by decide +kernel)), ?_⟩
  refine List.forall_mem_cons.mpr ⟨ae_mk pu_ias (fun X => ok_ias X (by decide +kernel)), ?_⟩
  refine List.forall_mem_cons.mpr ⟨ae_mk (pu_push (fun _ => trivial)) (fun X => ok_iconst X (n := 0) (by decide) (by decide +kernel)), ?_⟩
  refine List.forall_mem_cons.mpr ⟨ae_mk pu_is (fun X => ok_istore X (by decide +kernel)), ?_⟩
  refine List.forall_mem_cons.mpr ⟨ae_mk pu_il (fun X => ok_iload X (by decide +kernel)), ?_⟩
  refine List.forall_mem_cons.mpr ⟨ae_mk pu_al (fun X => ok_aload_n X (k := 0) rfl (by decide +kernel)), ?_⟩
  refine List.forall_mem_cons.mpr ⟨ae_mk pu_get (fun X => ok_get X (ci := 8) (kk := 20) (index := 66) rfl aw_c_Model (by decide) wd_796 (by decide +kernel)), ?_⟩
  refine List.forall_mem_cons.mpr ⟨ae_mk pu_il (fun X => ok_iload_n X (k := 1) rfl (by decide +kernel)), ?_⟩
  refine List.forall_mem_cons.mpr ⟨ae_mk pu_ia (fun X => ok_ia X (by decide +kernel)), ?_⟩
  refine List.forall_mem_cons.mpr ⟨ae_mk pu_ic (fun X => ok_ic_ge X (off := 30) (by decide) (by decide +kernel)), ?_⟩
  refine List.forall_mem_cons.mpr ⟨ae_mk pu_al (fun X => ok_aload_n X (k := 0) rfl (by decide +kernel)), ?_⟩
  refine List.forall_mem_cons.mpr ⟨ae_mk pu_get (fun X => ok_get X (ci := 8) (kk := 19) (index := 63) rfl aw_c_Model (by decide) wd_795 (by decide +kernel)), ?_⟩
  refine List.forall_mem_cons.mpr ⟨ae_mk (pu_push (fun _ => trivial)) (fun X => ok_sipush X (n := 200) (by decide) (by decide +kernel)), ?_⟩
  refine List.forall_mem_cons.mpr ⟨ae_mk pu_il (fun X => ok_iload X (by decide +kernel)), ?_⟩
  refine List.forall_mem_cons.mpr ⟨ae_mk pu_bin (fun X => ok_imul X (by decide +kernel)), ?_⟩
  refine List.forall_mem_cons.mpr ⟨ae_mk pu_il (fun X => ok_iload X (by decide +kernel)), ?_⟩
  refine List.forall_mem_cons.mpr ⟨ae_mk pu_bin (fun X => ok_iadd X (by decide +kernel)), ?_⟩
  refine List.forall_mem_cons.mpr ⟨ae_mk pu_al (fun X => ok_aload_n X (k := 0) rfl (by decide +kernel)), ?_⟩
  refine List.forall_mem_cons.mpr ⟨ae_mk pu_il (fun X => ok_iload_n X (k := 1) rfl (by decide +kernel)), ?_⟩
  refine List.forall_mem_cons.mpr ⟨ae_mk pu_il (fun X => ok_iload X (by decide +kernel)), ?_⟩
  refine List.forall_mem_cons.mpr ⟨ae_mkc (fun X => ok_callV X (mid := 108) (index := 150) (y := my_108) rfl (by decide) ⟨by decide, by decide⟩ (n := 2) (by decide +kernel) wd_949 wd_51 wd_946 wd_948 wd_28 (ci := 8) rfl (by decide +kernel)), ?_⟩
  refine List.forall_mem_cons.mpr ⟨ae_mk pu_ias (fun X => ok_ias X (by decide +kernel)), ?_⟩
  refine List.forall_mem_cons.mpr ⟨ae_mk pu_inc (fun X => ok_iinc X (n := 1) (by decide) (by decide +kernel)), ?_⟩
  refine List.forall_mem_cons.mpr ⟨ae_mk pu_goto (fun X => ok_goto X (off := (-35)) (by decide) (by decide +kernel)), ?_⟩
  refine List.forall_mem_cons.mpr ⟨ae_mk pu_al (fun X => ok_aload_n X (k := 0) rfl (by decide +kernel)), ?_⟩
  refine List.forall_mem_cons.mpr ⟨ae_mk (pu_push (fun _ => trivial)) (fun X => ok_bipush X (n := 12) (by decide) (by decide +kernel)), ?_⟩
  refine List.forall_mem_cons.mpr ⟨ae_mk pu_il (fun X => ok_iload_n X (k := 2) rfl (by decide +kernel)), ?_⟩
  refine List.forall_mem_cons.mpr ⟨ae_mk pu_bin (fun X => ok_imul X (by decide +kernel)), ?_⟩
  refine List.forall_mem_cons.mpr ⟨ae_mk pu_il (fun X => ok_iload X (by decide +kernel)), ?_⟩
  refine List.forall_mem_cons.mpr ⟨ae_mk pu_bin (fun X => ok_iadd X (by decide +kernel)), ?_⟩
  refine List.forall_mem_cons.mpr ⟨ae_mk pu_il (fun X => ok_iload X (by decide +kernel)), ?_⟩
  refine List.forall_mem_cons.mpr ⟨ae_mk pu_al (fun X => ok_aload_n X (k := 0) rfl (by decide +kernel)), ?_⟩
  refine List.forall_mem_cons.mpr ⟨ae_mk pu_get (fun X => ok_get X (ci := 8) (kk := 3) (index := 13) rfl aw_c_Model (by decide) wd_779 (by decide +kernel)), ?_⟩
  refine List.forall_mem_cons.mpr ⟨ae_mk pu_il (fun X => ok_iload X (by decide +kernel)), ?_⟩
  refine List.forall_mem_cons.mpr ⟨ae_mk pu_ba (fun X => ok_ba X (by decide +kernel)), ?_⟩
  refine List.forall_mem_cons.mpr ⟨ae_mkc (fun X => ok_callV X (mid := 112) (index := 191) (y := my_112) rfl (by decide) ⟨by decide, by decide⟩ (n := 3) (by decide +kernel) wd_966 wd_51 wd_963 wd_965 wd_31 (ci := 8) rfl (by decide +kernel)), ?_⟩
  refine List.forall_mem_cons.mpr ⟨ae_mk pu_inc (fun X => ok_iinc X (n := 1) (by decide) (by decide +kernel)), ?_⟩
  refine List.forall_mem_cons.mpr ⟨ae_mk pu_goto (fun X => ok_goto X (off := (-116)) (by decide) (by decide +kernel)), ?_⟩
  refine List.forall_mem_cons.mpr ⟨ae_mk pu_al (fun X => ok_aload_n X (k := 0) rfl (by decide +kernel)), ?_⟩
  refine List.forall_mem_cons.mpr ⟨ae_mk pu_get (fun X => ok_get X (ci := 8) (kk := 21) (index := 69) rfl aw_c_Model (by decide) wd_797 (by decide +kernel)), ?_⟩
  refine List.forall_mem_cons.mpr ⟨ae_mk pu_il (fun X => ok_iload_n X (k := 1) rfl (by decide +kernel)), ?_⟩
  refine List.forall_mem_cons.mpr ⟨ae_mk (pu_push (fun _ => trivial)) (fun X => ok_iconst X (n := 0) (by decide) (by decide +kernel)), ?_⟩
  refine List.forall_mem_cons.mpr ⟨ae_mk pu_bas (fun X => ok_bas X (by decide +kernel)), ?_⟩
  refine List.forall_mem_cons.mpr ⟨⟨rfl, (by decide +kernel)⟩, ?_⟩
  exact fun _ h => absurd h List.not_mem_nil
def tb_125 : List (Nat × ae_I) := [(0, .inl (o_push (.int 0) 1)),
  (1, .inl (o_is 3 2)),
  (2, .inl (o_push (.int 0) 3)),
  (3, .inl (o_is 4 5)),
  (5, .inl (o_il 4 7)),
  (7, .inl (o_push (.int 4) 8)),
  (8, .inl (o_ic (fun x y => decide (y ≤ x)) 57 11)),
  (11, .inl (o_il 3 12)),
  (12, .inl (o_if (fun x => decide (¬ x = 0)) 45 15)),
  (15, .inl (o_al 0 16)),
  (16, .inl (o_get 8 8 19)),
  (19, .inl (o_il 2 20)),
  (20, .inl (o_ia 21)),
  (21, .inl (o_il 4 23)),
  (23, .inl (o_bin (fun x y => x >>> (y &&& 31)) 24)),
  (24, .inl (o_push (.int 1) 25)),
  (25, .inl (o_bin (fun x y => x &&& y) 26)),
  (26, .inl (o_push (.int 1) 27)),
  (27, .inl (o_ic (fun x y => decide (¬ x = y)) 49 30)),
  (30, .inl (o_il 1 31)),
  (31, .inl (o_al 0 32)),
  (32, .inl (o_get 8 5 35)),
  (35, .inl (o_il 2 36)),
  (36, .inl (o_ia 37)),
  (37, .inl (o_il 4 39)),
  (39, .inr (.inr (.inl (126, 3, 42, none, [])))),
  (42, .inl (o_if (fun x => decide (x = 0)) 49 45)),
  (45, .inl (o_push (.int 1) 46)),
  (46, .inl (o_goto 50)),
  (49, .inl (o_push (.int 0) 50)),
  (50, .inl (o_is 3 51)),
  (51, .inl (o_inc 4 1 54)),
  (54, .inl (o_goto 5)),
  (57, .inl (o_il 3 58)),
  (58, .inr (.inl (some k_bool)))]
theorem te_125 : ∀ q ∈ tb_125, ae_E am "TwinNetworkModel" "isOnPath" prog_10_method_6_code 5 (Option.some Jvm.ClassFile.FieldType.boolean) [] q := by
  unfold tb_125
  refine List.forall_mem_cons.mpr ⟨ae_mk (pu_push (fun _ => trivial)) (fun X => ok_iconst X (n := 0) (by decide) (by decide +kernel)), ?_⟩
  refine List.forall_mem_cons.mpr ⟨ae_mk pu_is (fun X => ok_istore_n X (k := 3) rfl (by decide +kernel)), ?_⟩
  refine List.forall_mem_cons.mpr ⟨ae_mk (pu_push (fun _ => trivial)) (fun X => ok_iconst X (n := 0) (by decide) (by decide +kernel)), ?_⟩
  refine List.forall_mem_cons.mpr ⟨ae_mk pu_is (fun X => ok_istore X (by decide +kernel)), ?_⟩
  refine List.forall_mem_cons.mpr ⟨ae_mk pu_il (fun X => ok_iload X (by decide +kernel)), ?_⟩
  refine List.forall_mem_cons.mpr ⟨ae_mk (pu_push (fun _ => trivial)) (fun X => ok_iconst X (n := 4) (by decide) (by decide +kernel)), ?_⟩
  refine List.forall_mem_cons.mpr ⟨ae_mk pu_ic (fun X => ok_ic_ge X (off := 49) (by decide) (by decide +kernel)), ?_⟩
  refine List.forall_mem_cons.mpr ⟨ae_mk pu_il (fun X => ok_iload_n X (k := 3) rfl (by decide +kernel)), ?_⟩
  refine List.forall_mem_cons.mpr ⟨ae_mk pu_if (fun X => ok_if_ne X (off := 33) (by decide) (by decide +kernel)), ?_⟩
  refine List.forall_mem_cons.mpr ⟨ae_mk pu_al (fun X => ok_aload_n X (k := 0) rfl (by decide +kernel)), ?_⟩
  refine List.forall_mem_cons.mpr ⟨ae_mk pu_get (fun X => ok_get X (ci := 8) (kk := 8) (index := 29) rfl aw_c_Model (by decide) wd_784 (by decide +kernel)), ?_⟩
  refine List.forall_mem_cons.mpr ⟨ae_mk pu_il (fun X => ok_iload_n X (k := 2) rfl (by decide +kernel)), ?_⟩
  refine List.forall_mem_cons.mpr ⟨ae_mk pu_ia (fun X => ok_ia X (by decide +kernel)), ?_⟩
  refine List.forall_mem_cons.mpr ⟨ae_mk pu_il (fun X => ok_iload X (by decide +kernel)), ?_⟩
  refine List.forall_mem_cons.mpr ⟨ae_mk pu_bin (fun X => ok_ishr X (by decide +kernel)), ?_⟩
  refine List.forall_mem_cons.mpr ⟨ae_mk (pu_push (fun _ => trivial)) (fun X => ok_iconst X (n := 1) (by decide) (by decide +kernel)), ?_⟩
  refine List.forall_mem_cons.mpr ⟨ae_mk pu_bin (fun X => ok_iand X (by decide +kernel)), ?_⟩
  refine List.forall_mem_cons.mpr ⟨ae_mk (pu_push (fun _ => trivial)) (fun X => ok_iconst X (n := 1) (by decide) (by decide +kernel)), ?_⟩
  refine List.forall_mem_cons.mpr ⟨ae_mk pu_ic (fun X => ok_ic_ne X (off := 22) (by decide) (by decide +kernel)), ?_⟩
  refine List.forall_mem_cons.mpr ⟨ae_mk pu_il (fun X => ok_iload_n X (k := 1) rfl (by decide +kernel)), ?_⟩
  refine List.forall_mem_cons.mpr ⟨ae_mk pu_al (fun X => ok_aload_n X (k := 0) rfl (by decide +kernel)), ?_⟩
  refine List.forall_mem_cons.mpr ⟨ae_mk pu_get (fun X => ok_get X (ci := 8) (kk := 5) (index := 19) rfl aw_c_Model (by decide) wd_781 (by decide +kernel)), ?_⟩
  refine List.forall_mem_cons.mpr ⟨ae_mk pu_il (fun X => ok_iload_n X (k := 2) rfl (by decide +kernel)), ?_⟩
  refine List.forall_mem_cons.mpr ⟨ae_mk pu_ia (fun X => ok_ia X (by decide +kernel)), ?_⟩
  refine List.forall_mem_cons.mpr ⟨ae_mk pu_il (fun X => ok_iload X (by decide +kernel)), ?_⟩
  refine List.forall_mem_cons.mpr ⟨ae_mkc (fun X => ok_callS X (mid := 126) (index := 138) (y := my_126) rfl (by decide) ⟨by decide, by decide⟩ (n := 3) (by decide +kernel) wd_1019 wd_51 wd_1017 wd_1018 (by decide +kernel)), ?_⟩
  refine List.forall_mem_cons.mpr ⟨ae_mk pu_if (fun X => ok_if_eq X (off := 7) (by decide) (by decide +kernel)), ?_⟩
  refine List.forall_mem_cons.mpr ⟨ae_mk (pu_push (fun _ => trivial)) (fun X => ok_iconst X (n := 1) (by decide) (by decide +kernel)), ?_⟩
  refine List.forall_mem_cons.mpr ⟨ae_mk pu_goto (fun X => ok_goto X (off := 4) (by decide) (by decide +kernel)), ?_⟩
  refine List.forall_mem_cons.mpr ⟨ae_mk (pu_push (fun _ => trivial)) (fun X => ok_iconst X (n := 0) (by decide) (by decide +kernel)), ?_⟩
  refine List.forall_mem_cons.mpr ⟨ae_mk pu_is (fun X => ok_istore_n X (k := 3) rfl (by decide +kernel)), ?_⟩
  refine List.forall_mem_cons.mpr ⟨ae_mk pu_inc (fun X => ok_iinc X (n := 1) (by decide) (by decide +kernel)), ?_⟩
  refine List.forall_mem_cons.mpr ⟨ae_mk pu_goto (fun X => ok_goto X (off := (-49)) (by decide) (by decide +kernel)), ?_⟩
  refine List.forall_mem_cons.mpr ⟨ae_mk pu_il (fun X => ok_iload_n X (k := 3) rfl (by decide +kernel)), ?_⟩
  refine List.forall_mem_cons.mpr ⟨Or.inr (Or.inl ⟨rfl, (by decide +kernel), rt_bool⟩), ?_⟩
  exact fun _ h => absurd h List.not_mem_nil
