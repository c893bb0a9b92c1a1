def tb_102 : List (Nat × ae_I) := [(0, .inl (o_al 0 1)),
  (1, .inl (o_get 8 2 4)),
  (4, .inl (o_il 1 5)),
  (5, .inl (o_ba 6)),
  (6, .inl (o_if (fun x => decide (x = 0)) 31 9)),
  (9, .inl (o_al 0 10)),
  (10, .inl (o_get 8 14 13)),
  (13, .inl (o_il 1 14)),
  (14, .inl (o_ia 15)),
  (15, .inl (o_if (fun x => decide (x = 0)) 31 18)),
  (18, .inl (o_al 0 19)),
  (19, .inl (o_get 8 1 22)),
  (22, .inl (o_al 0 23)),
  (23, .inl (o_get 8 10 26)),
  (26, .inl (o_il 1 27)),
  (27, .inl (o_ia 28)),
  (28, .inl (o_ic (fun x y => decide (y ≤ x)) 32 31)),
  (31, .inr (.inl none)),
  (32, .inl (o_al 0 33)),
  (33, .inl (o_get 8 15 36)),
  (36, .inl (o_push (.int 8) 38)),
  (38, .inl (o_il 1 39)),
  (39, .inl (o_bin (fun x y => x * y) 40)),
  (40, .inl (o_ia 41)),
  (41, .inl (o_is 2 42)),
  (42, .inl (o_al 0 43)),
  (43, .inl (o_get 8 18 46)),
  (46, .inl (o_push (.int 8) 48)),
  (48, .inl (o_il 1 49)),
  (49, .inl (o_bin (fun x y => x * y) 50)),
  (50, .inl (o_ia 51)),
  (51, .inl (o_is 3 52)),
  (52, .inl (o_il 2 53)),
  (53, .inl (o_push (.int 8) 55)),
  (55, .inl (o_bin (fun x y => x + y) 56)),
  (56, .inl (o_il 3 57)),
  (57, .inl (o_bin (fun x y => x - y) 58)),
  (58, .inl (o_al 0 59)),
  (59, .inl (o_il 1 60)),
  (60, .inr (.inr (.inl (100, 2, 63, some 8, [])))),
  (63, .inl (o_ic (fun x y => decide (y ≤ x)) 75 66)),
  (66, .inl (o_il 2 67)),
  (67, .inl (o_push (.int 8) 69)),
  (69, .inl (o_bin (fun x y => x + y) 70)),
  (70, .inl (o_il 3 71)),
  (71, .inl (o_bin (fun x y => x - y) 72)),
  (72, .inl (o_goto 80)),
  (75, .inl (o_al 0 76)),
  (76, .inl (o_il 1 77)),
  (77, .inr (.inr (.inl (100, 2, 80, some 8, [])))),
  (80, .inl (o_is 4 82)),
  (82, .inl (o_push (.int 0) 83)),
  (83, .inl (o_is 5 85)),
  (85, .inl (o_il 5 87)),
  (87, .inl (o_push (.int 2) 88)),
  (88, .inl (o_ic (fun x y => decide (y ≤ x)) 216 91)),
  (91, .inl (o_al 0 92)),
  (92, .inl (o_il 5 94)),
  (94, .inl (o_al 0 95)),
  (95, .inl (o_get 8 5 98)),
  (98, .inl (o_il 1 99)),
  (99, .inl (o_ia 100)),
  (100, .inl (o_il 1 101)),
  (101, .inl (o_il 4 103)),
  (103, .inl (o_al 0 104)),
  (104, .inl (o_get 8 17 107)),
  (107, .inl (o_push (.int 8) 109)),
  (109, .inl (o_il 1 110)),
  (110, .inl (o_bin (fun x y => x * y) 111)),
  (111, .inl (o_ia 112)),
  (112, .inl (o_il 3 113)),
  (113, .inl (o_il 3 114)),
  (114, .inl (o_il 4 116)),
  (116, .inl (o_bin (fun x y => x + y) 117)),
  (117, .inl (o_il 2 118)),
  (118, .inl (o_push (.int 8) 120)),
  (120, .inl (o_bin (fun x y => x + y) 121)),
  (121, .inl (o_ic (fun x y => decide (y ≤ x)) 128 124)),
  (124, .inl (o_push (.int 1) 125)),
  (125, .inl (o_goto 129)),
  (128, .inl (o_push (.int 0) 129)),
  (129, .inr (.inr (.inl (103, 8, 132, some 8, [])))),
  (132, .inl (o_is 6 134)),
  (134, .inl (o_push (.int 0) 135)),
  (135, .inl (o_is 7 137)),
  (137, .inl (o_il 7 139)),
  (139, .inl (o_il 4 141)),
  (141, .inl (o_ic (fun x y => decide (y ≤ x)) 179 144)),
  (144, .inl (o_al 0 145)),
  (145, .inl (o_il 6 147)),
  (147, .inl (o_push (.int 34) 149)),
  (149, .inl (o_il 7 151)),
  (151, .inl (o_bin (fun x y => x + y) 152)),
  (152, .inl (o_il 1 153)),
  (153, .inl (o_il 2 154)),
  (154, .inl (o_al 0 155)),
  (155, .inl (o_get 8 16 158)),
  (158, .inl (o_push (.int 8) 160)),
  (160, .inl (o_il 1 161)),
  (161, .inl (o_bin (fun x y => x * y) 162)),
  (162, .inl (o_ia 163)),
  (163, .inl (o_il 3 164)),
  (164, .inl (o_il 7 166)),
  (166, .inl (o_bin (fun x y => x + y) 167)),
  (167, .inr (.inr (.inl (109, 4, 170, none, [])))),
  (170, .inr (.inr (.inl (105, 4, 173, some 8, [])))),
  (173, .inl (o_inc 7 1 176)),
  (176, .inl (o_goto 137)),
  (179, .inl (o_al 0 180)),
  (180, .inl (o_il 6 182)),
  (182, .inl (o_al 0 183)),
  (183, .inl (o_get 8 12 186)),
  (186, .inl (o_il 1 187)),
  (187, .inl (o_ia 188)),
  (188, .inr (.inr (.inl (110, 3, 191, some 8, [])))),
  (191, .inl (o_al 0 192)),
  (192, .inl (o_push (.int 12) 194)),
  (194, .inl (o_il 5 196)),
  (196, .inl (o_bin (fun x y => x * y) 197)),
  (197, .inl (o_al 0 198)),
  (198, .inl (o_get 8 5 201)),
  (201, .inl (o_il 1 202)),
  (202, .inl (o_ia 203)),
  (203, .inl (o_bin (fun x y => x + y) 204)),
  (204, .inl (o_il 6 206)),
  (206, .inl (o_push (.int 0) 207)),
  (207, .inr (.inr (.inl (112, 4, 210, some 8, [])))),
  (210, .inl (o_inc 5 1 213)),
  (213, .inl (o_goto 85)),
  (216, .inl (o_al 0 217)),
  (217, .inl (o_get 8 12 220)),
  (220, .inl (o_il 1 221)),
  (221, .inl (o_al 0 222)),
  (222, .inl (o_get 8 12 225)),
  (225, .inl (o_il 1 226)),
  (226, .inl (o_ia 227)),
  (227, .inl (o_push (.int 255) 230)),
  (230, .inl (o_dv (fun x y => x - x / y * y) 231)),
  (231, .inl (o_push (.int 1) 232)),
  (232, .inl (o_bin (fun x y => x + y) 233)),
  (233, .inl (o_ias 234)),
  (234, .inl (o_al 0 235)),
  (235, .inl (o_get 8 10 238)),
  (238, .inl (o_il 1 239)),
  (239, .inl (o_al 0 240)),
  (240, .inl (o_get 8 1 243)),
  (243, .inl (o_al 0 244)),
  (244, .inl (o_get 8 6 247)),
  (247, .inl (o_il 1 248)),
  (248, .inl (o_ia 249)),
  (249, .inl (o_bin (fun x y => x + y) 250)),
  (250, .inl (o_ias 251)),
  (251, .inl (o_al 0 252)),
  (252, .inl (o_get 8 14 255)),
  (255, .inl (o_il 1 256)),
  (256, .inl (o_dup2 257)),
  (257, .inl (o_ia 258)),
  (258, .inl (o_push (.int 1) 259)),
  (259, .inl (o_bin (fun x y => x - y) 260)),
  (260, .inl (o_ias 261)),
  (261, .inl (o_push (.int 8) 263)),
  (263, .inl (o_il 1 264)),
  (264, .inl (o_bin (fun x y => x * y) 265)),
  (265, .inl (o_is 5 267)),
  (267, .inl (o_il 5 269)),
  (269, .inl (o_push (.int 8) 271)),
  (271, .inl (o_il 1 272)),
  (272, .inl (o_bin (fun x y => x * y) 273)),
  (273, .inl (o_al 0 274)),
  (274, .inl (o_get 8 14 277)),
  (277, .inl (o_il 1 278)),
  (278, .inl (o_ia 279)),
  (279, .inl (o_bin (fun x y => x + y) 280)),
  (280, .inl (o_ic (fun x y => decide (y ≤ x)) 353 283)),
  (283, .inl (o_al 0 284)),
  (284, .inl (o_get 8 15 287)),
  (287, .inl (o_il 5 289)),
  (289, .inl (o_al 0 290)),
  (290, .inl (o_get 8 15 293)),
  (293, .inl (o_il 5 295)),
  (295, .inl (o_push (.int 1) 296)),
  (296, .inl (o_bin (fun x y => x + y) 297)),
  (297, .inl (o_ia 298)),
  (298, .inl (o_ias 299)),
  (299, .inl (o_al 0 300)),
  (300, .inl (o_get 8 16 303)),
  (303, .inl (o_il 5 305)),
  (305, .inl (o_al 0 306)),
  (306, .inl (o_get 8 16 309)),
  (309, .inl (o_il 5 311)),
  (311, .inl (o_push (.int 1) 312)),
  (312, .inl (o_bin (fun x y => x + y) 313)),
  (313, .inl (o_ia 314)),
  (314, .inl (o_ias 315)),
  (315, .inl (o_al 0 316)),
  (316, .inl (o_get 8 17 319)),
  (319, .inl (o_il 5 321)),
  (321, .inl (o_al 0 322)),
  (322, .inl (o_get 8 17 325)),
  (325, .inl (o_il 5 327)),
  (327, .inl (o_push (.int 1) 328)),
  (328, .inl (o_bin (fun x y => x + y) 329)),
  (329, .inl (o_ia 330)),
  (330, .inl (o_ias 331)),
  (331, .inl (o_al 0 332)),
  (332, .inl (o_get 8 18 335)),
  (335, .inl (o_il 5 337)),
  (337, .inl (o_al 0 338)),
  (338, .inl (o_get 8 18 341)),
  (341, .inl (o_il 5 343)),
  (343, .inl (o_push (.int 1) 344)),
  (344, .inl (o_bin (fun x y => x + y) 345)),
  (345, .inl (o_ia 346)),
  (346, .inl (o_ias 347)),
  (347, .inl (o_inc 5 1 350)),
  (350, .inl (o_goto 267)),
  (353, .inr (.inl none))]
theorem te_102 : ∀ q ∈ tb_102, ae_E am "TwinNetworkModel" "shape" prog_10_method_24_code 8 (Option.none : Option Jvm.ClassFile.FieldType) [] q := by
  unfold tb_102
  refine List.forall_mem_cons.mpr ⟨ae_mk pu_al (fun X => ok_aload_n X (k := 0) rfl (by decide +kernel)), ?_⟩
  refine List.forall_mem_cons.mpr ⟨ae_mk pu_get (fun X => ok_get X (ci := 8) (kk := 2) (index := 7) rfl aw_c_Model (by decide) wd_778 (by decide +kernel)), ?_⟩
  refine List.forall_mem_cons.mpr ⟨ae_mk pu_il (fun X => ok_iload_n X (k := 1) rfl (by decide +kernel)), ?_⟩
  refine List.forall_mem_cons.mpr ⟨ae_mk pu_ba (fun X => ok_ba X (by decide +kernel)), ?_⟩
  refine List.forall_mem_cons.mpr ⟨ae_mk pu_if (fun X => ok_if_eq X (off := 25) (by decide) (by decide +kernel)), ?_⟩
  refine List.forall_mem_cons.mpr ⟨ae_mk pu_al (fun X => ok_aload_n X (k := 0) rfl (by decide +kernel)), ?_⟩
  refine List.forall_mem_cons.mpr ⟨ae_mk pu_get (fun X => ok_get X (ci := 8) (kk := 14) (index := 47) rfl aw_c_Model (by decide) wd_790 (by decide +kernel)), ?_⟩
  refine List.forall_mem_cons.mpr ⟨ae_mk pu_il (fun X => ok_iload_n X (k := 1) rfl (by decide +kernel)), ?_⟩
  refine List.forall_mem_cons.mpr ⟨ae_mk pu_ia (fun X => ok_ia X (by decide +kernel)), ?_⟩
  refine List.forall_mem_cons.mpr ⟨ae_mk pu_if (fun X => ok_if_eq X (off := 16) (by decide) (by decide +kernel)), ?_⟩
  refine List.forall_mem_cons.mpr ⟨ae_mk pu_al (fun X => ok_aload_n X (k := 0) rfl (by decide +kernel)), ?_⟩
  refine List.forall_mem_cons.mpr ⟨ae_mk pu_get (fun X => ok_get X (ci := 8) (kk := 1) (index := 177) rfl aw_c_Model (by decide) wd_777 (by decide +kernel)), ?_⟩
  refine List.forall_mem_cons.mpr ⟨ae_mk pu_al (fun X => ok_aload_n X (k := 0) rfl (by decide +kernel)), ?_⟩
  refine List.forall_mem_cons.mpr ⟨ae_mk pu_get (fun X => ok_get X (ci := 8) (kk := 10) (index := 35) rfl aw_c_Model (by decide) wd_786 (by decide +kernel)), ?_⟩
  refine List.forall_mem_cons.mpr ⟨ae_mk pu_il (fun X => ok_iload_n X (k := 1) rfl (by decide +kernel)), ?_⟩
  refine List.forall_mem_cons.mpr ⟨ae_mk pu_ia (fun X => ok_ia X (by decide +kernel)), ?_⟩
  refine List.forall_mem_cons.mpr ⟨ae_mk pu_ic (fun X => ok_ic_ge X (off := 4) (by decide) (by decide +kernel)), ?_⟩
  refine List.forall_mem_cons.mpr ⟨⟨rfl, (by decide +kernel)⟩, ?_⟩
  refine List.forall_mem_cons.mpr ⟨ae_mk pu_al (fun X => ok_aload_n X (k := 0) rfl (by decide +kernel)), ?_⟩
  refine List.forall_mem_cons.mpr ⟨ae_mk pu_get (fun X => ok_get X (ci := 8) (kk := 15) (index := 50) rfl aw_c_Model (by decide) wd_791 (by decide +kernel)), ?_⟩
  refine List.forall_mem_cons.mpr ⟨ae_mk (pu_push (fun _ => trivial)) (fun X => ok_bipush X (n := 8) (by decide) (by decide +kernel)), ?_⟩
  refine List.forall_mem_cons.mpr ⟨ae_mk pu_il (fun X => ok_iload_n X (k := 1) rfl (by decide +kernel)), ?_⟩
  refine List.forall_mem_cons.mpr ⟨ae_mk pu_bin (fun X => ok_imul X (by decide +kernel)), ?_⟩
  refine List.forall_mem_cons.mpr ⟨ae_mk pu_ia (fun X => ok_ia X (by decide +kernel)), ?_⟩
  refine List.forall_mem_cons.mpr ⟨ae_mk pu_is (fun X => ok_istore_n X (k := 2) rfl (by decide +kernel)), ?_⟩
  refine List.forall_mem_cons.mpr ⟨ae_mk pu_al (fun X => ok_aload_n X (k := 0) rfl (by decide +kernel)), ?_⟩
  refine List.forall_mem_cons.mpr ⟨ae_mk pu_get (fun X => ok_get X (ci := 8) (kk := 18) (index := 59) rfl aw_c_Model (by decide) wd_794 (by decide +kernel)), ?_⟩
  refine List.forall_mem_cons.mpr ⟨ae_mk (pu_push (fun _ => trivial)) (fun X => ok_bipush X (n := 8) (by decide) (by decide +kernel)), ?_⟩
  refine List.forall_mem_cons.mpr ⟨ae_mk pu_il (fun X => ok_iload_n X (k := 1) rfl (by decide +kernel)), ?_⟩
  refine List.forall_mem_cons.mpr ⟨ae_mk pu_bin (fun X => ok_imul X (by decide +kernel)), ?_⟩
  refine List.forall_mem_cons.mpr ⟨ae_mk pu_ia (fun X => ok_ia X (by decide +kernel)), ?_⟩
  refine List.forall_mem_cons.mpr ⟨ae_mk pu_is (fun X => ok_istore_n X (k := 3) rfl (by decide +kernel)), ?_⟩
  refine List.forall_mem_cons.mpr ⟨ae_mk pu_il (fun X => ok_iload_n X (k := 2) rfl (by decide +kernel)), ?_⟩
  refine List.forall_mem_cons.mpr ⟨ae_mk (pu_push (fun _ => trivial)) (fun X => ok_bipush X (n := 8) (by decide) (by decide +kernel)), ?_⟩
  refine List.forall_mem_cons.mpr ⟨ae_mk pu_bin (fun X => ok_iadd X (by decide +kernel)), ?_⟩
  refine List.forall_mem_cons.mpr ⟨ae_mk pu_il (fun X => ok_iload_n X (k := 3) rfl (by decide +kernel)), ?_⟩
  refine List.forall_mem_cons.mpr ⟨ae_mk pu_bin (fun X => ok_isub X (by decide +kernel)), ?_⟩
  refine List.forall_mem_cons.mpr ⟨ae_mk pu_al (fun X => ok_aload_n X (k := 0) rfl (by decide +kernel)), ?_⟩
  refine List.forall_mem_cons.mpr ⟨ae_mk pu_il (fun X => ok_iload_n X (k := 1) rfl (by decide +kernel)), ?_⟩
  refine List.forall_mem_cons.mpr ⟨ae_mkc (fun X => ok_callV X (mid := 100) (index := 146) (y := my_100) rfl (by decide) ⟨by decide, by decide⟩ (n := 1) (by decide +kernel) wd_916 wd_51 wd_913 wd_915 wd_21 (ci := 8) rfl (by decide +kernel)), ?_⟩
  refine List.forall_mem_cons.mpr ⟨ae_mk pu_ic (fun X => ok_ic_ge X (off := 12) (by decide) (by decide +kernel)), ?_⟩
  refine List.forall_mem_cons.mpr ⟨ae_mk pu_il (fun X => ok_iload_n X (k := 2) rfl (by decide +kernel)), ?_⟩
  refine List.forall_mem_cons.mpr ⟨ae_mk (pu_push (fun _ => trivial)) (fun X => ok_bipush X (n := 8) (by decide) (by decide +kernel)), ?_⟩
  refine List.forall_mem_cons.mpr ⟨ae_mk pu_bin (fun X => ok_iadd X (by decide +kernel)), ?_⟩
  refine List.forall_mem_cons.mpr ⟨ae_mk pu_il (fun X => ok_iload_n X (k := 3) rfl (by decide +kernel)), ?_⟩
  refine List.forall_mem_cons.mpr ⟨ae_mk pu_bin (fun X => ok_isub X (by decide +kernel)), ?_⟩
  refine List.forall_mem_cons.mpr ⟨ae_mk pu_goto (fun X => ok_goto X (off := 8) (by decide) (by decide +kernel)), ?_⟩
  refine List.forall_mem_cons.mpr ⟨ae_mk pu_al (fun X => ok_aload_n X (k := 0) rfl (by decide +kernel)), ?_⟩
  refine List.forall_mem_cons.mpr ⟨ae_mk pu_il (fun X => ok_iload_n X (k := 1) rfl (by decide +kernel)), ?_⟩
  refine List.forall_mem_cons.mpr ⟨ae_mkc (fun X => ok_callV X (mid := 100) (index := 146) (y := my_100) rfl (by decide) ⟨by decide, by decide⟩ (n := 1) (by decide +kernel) wd_916 wd_51 wd_913 wd_915 wd_21 (ci := 8) rfl (by decide +kernel)), ?_⟩
  refine List.forall_mem_cons.mpr ⟨ae_mk pu_is (fun X => ok_istore X (by decide +kernel)), ?_⟩
  refine List.forall_mem_cons.mpr ⟨ae_mk (pu_push (fun _ => trivial)) (fun X => ok_iconst X (n := 0) (by decide) (by decide +kernel)), ?_⟩
  refine List.forall_mem_cons.mpr ⟨ae_mk pu_is (fun X => ok_istore X (by decide +kernel)), ?_⟩
  refine List.forall_mem_cons.mpr ⟨ae_mk pu_il (fun X => ok_iload X (by decide +kernel)), ?_⟩
  refine List.forall_mem_cons.mpr ⟨ae_mk (pu_push (fun _ => trivial)) (fun X => ok_iconst X (n := 2) (by decide) (by decide +kernel)), ?_⟩
  refine List.forall_mem_cons.mpr ⟨ae_mk pu_ic (fun X => ok_ic_ge X (off := 128) (by decide) (by decide +kernel)), ?_⟩
  refine List.forall_mem_cons.mpr ⟨ae_mk pu_al (fun X => ok_aload_n X (k := 0) rfl (by decide +kernel)), ?_⟩
  refine List.forall_mem_cons.mpr ⟨ae_mk pu_il (fun X => ok_iload X (by decide +kernel)), ?_⟩
  refine List.forall_mem_cons.mpr ⟨ae_mk pu_al (fun X => ok_aload_n X (k := 0) rfl (by decide +kernel)), ?_⟩
  refine List.forall_mem_cons.mpr ⟨ae_mk pu_get (fun X => ok_get X (ci := 8) (kk := 5) (index := 19) rfl aw_c_Model (by decide) wd_781 (by decide +kernel)), ?_⟩
  refine List.forall_mem_cons.mpr ⟨ae_mk pu_il (fun X => ok_iload_n X (k := 1) rfl (by decide +kernel)), ?_⟩
  refine List.forall_mem_cons.mpr ⟨ae_mk pu_ia (fun X => ok_ia X (by decide +kernel)), ?_⟩
  refine List.forall_mem_cons.mpr ⟨ae_mk pu_il (fun X => ok_iload_n X (k := 1) rfl (by decide +kernel)), ?_⟩
  refine List.forall_mem_cons.mpr ⟨ae_mk pu_il (fun X => ok_iload X (by decide +kernel)), ?_⟩
  refine List.forall_mem_cons.mpr ⟨ae_mk pu_al (fun X => ok_aload_n X (k := 0) rfl (by decide +kernel)), ?_⟩
  refine List.forall_mem_cons.mpr ⟨ae_mk pu_get (fun X => ok_get X (ci := 8) (kk := 17) (index := 56) rfl aw_c_Model (by decide) wd_793 (by decide +kernel)), ?_⟩
  refine List.forall_mem_cons.mpr ⟨ae_mk (pu_push (fun _ => trivial)) (fun X => ok_bipush X (n := 8) (by decide) (by decide +kernel)), ?_⟩
  refine List.forall_mem_cons.mpr ⟨ae_mk pu_il (fun X => ok_iload_n X (k := 1) rfl (by decide +kernel)), ?_⟩
  refine List.forall_mem_cons.mpr ⟨ae_mk pu_bin (fun X => ok_imul X (by decide +kernel)), ?_⟩
  refine List.forall_mem_cons.mpr ⟨ae_mk pu_ia (fun X => ok_ia X (by decide +kernel)), ?_⟩
  refine List.forall_mem_cons.mpr ⟨ae_mk pu_il (fun X => ok_iload_n X (k := 3) rfl (by decide +kernel)), ?_⟩
  refine List.forall_mem_cons.mpr ⟨ae_mk pu_il (fun X => ok_iload_n X (k := 3) rfl (by decide +kernel)), ?_⟩
  refine List.forall_mem_cons.mpr ⟨ae_mk pu_il (fun X => ok_iload X (by decide +kernel)), ?_⟩
  refine List.forall_mem_cons.mpr ⟨ae_mk pu_bin (fun X => ok_iadd X (by decide +kernel)), ?_⟩
  refine List.forall_mem_cons.mpr ⟨ae_mk pu_il (fun X => ok_iload_n X (k := 2) rfl (by decide +kernel)), ?_⟩
  refine List.forall_mem_cons.mpr ⟨ae_mk (pu_push (fun _ => trivial)) (fun X => ok_bipush X (n := 8) (by decide) (by decide +kernel)), ?_⟩
  refine List.forall_mem_cons.mpr ⟨ae_mk pu_bin (fun X => ok_iadd X (by decide +kernel)), ?_⟩
  refine List.forall_mem_cons.mpr ⟨ae_mk pu_ic (fun X => ok_ic_ge X (off := 7) (by decide) (by decide +kernel)), ?_⟩
  refine List.forall_mem_cons.mpr ⟨ae_mk (pu_push (fun _ => trivial)) (fun X => ok_iconst X (n := 1) (by decide) (by decide +kernel)), ?_⟩
  refine List.forall_mem_cons.mpr ⟨ae_mk pu_goto (fun X => ok_goto X (off := 4) (by decide) (by decide +kernel)), ?_⟩
  refine List.forall_mem_cons.mpr ⟨ae_mk (pu_push (fun _ => trivial)) (fun X => ok_iconst X (n := 0) (by decide) (by decide +kernel)), ?_⟩
  refine List.forall_mem_cons.mpr ⟨ae_mkc (fun X => ok_callV X (mid := 103) (index := 180) (y := my_103) rfl (by decide) ⟨by decide, by decide⟩ (n := 7) (by decide +kernel) wd_929 wd_51 wd_926 wd_928 wd_23 (ci := 8) rfl (by decide +kernel)), ?_⟩
  refine List.forall_mem_cons.mpr ⟨ae_mk pu_is (fun X => ok_istore X (by decide +kernel)), ?_⟩
  refine List.forall_mem_cons.mpr ⟨ae_mk (pu_push (fun _ => trivial)) (fun X => ok_iconst X (n := 0) (by decide) (by decide +kernel)), ?_⟩
  refine List.forall_mem_cons.mpr ⟨ae_mk pu_is (fun X => ok_istore X (by decide +kernel)), ?_⟩
  refine List.forall_mem_cons.mpr ⟨ae_mk pu_il (fun X => ok_iload X (by decide +kernel)), ?_⟩
  refine List.forall_mem_cons.mpr ⟨ae_mk pu_il (fun X => ok_iload X (by decide +kernel)), ?_⟩
  refine List.forall_mem_cons.mpr ⟨ae_mk pu_ic (fun X => ok_ic_ge X (off := 38) (by decide) (by decide +kernel)), ?_⟩
  refine List.forall_mem_cons.mpr ⟨ae_mk pu_al (fun X => ok_aload_n X (k := 0) rfl (by decide +kernel)), ?_⟩
  refine List.forall_mem_cons.mpr ⟨ae_mk pu_il (fun X => ok_iload X (by decide +kernel)), ?_⟩
  refine List.forall_mem_cons.mpr ⟨ae_mk (pu_push (fun _ => trivial)) (fun X => ok_bipush X (n := 34) (by decide) (by decide +kernel)), ?_⟩
  refine List.forall_mem_cons.mpr ⟨ae_mk pu_il (fun X => ok_iload X (by decide +kernel)), ?_⟩
  refine List.forall_mem_cons.mpr ⟨ae_mk pu_bin (fun X => ok_iadd X (by decide +kernel)), ?_⟩
  refine List.forall_mem_cons.mpr ⟨ae_mk pu_il (fun X => ok_iload_n X (k := 1) rfl (by decide +kernel)), ?_⟩
  refine List.forall_mem_cons.mpr ⟨ae_mk pu_il (fun X => ok_iload_n X (k := 2) rfl (by decide +kernel)), ?_⟩
  refine List.forall_mem_cons.mpr ⟨ae_mk pu_al (fun X => ok_aload_n X (k := 0) rfl (by decide +kernel)), ?_⟩
  refine List.forall_mem_cons.mpr ⟨ae_mk pu_get (fun X => ok_get X (ci := 8) (kk := 16) (index := 53) rfl aw_c_Model (by decide) wd_792 (by decide +kernel)), ?_⟩
  refine List.forall_mem_cons.mpr ⟨ae_mk (pu_push (fun _ => trivial)) (fun X => ok_bipush X (n := 8) (by decide) (by decide +kernel)), ?_⟩
  refine List.forall_mem_cons.mpr ⟨ae_mk pu_il (fun X => ok_iload_n X (k := 1) rfl (by decide +kernel)), ?_⟩
  refine List.forall_mem_cons.mpr ⟨ae_mk pu_bin (fun X => ok_imul X (by decide +kernel)), ?_⟩
  refine List.forall_mem_cons.mpr ⟨ae_mk pu_ia (fun X => ok_ia X (by decide +kernel)), ?_⟩
  refine List.forall_mem_cons.mpr ⟨ae_mk pu_il (fun X => ok_iload_n X (k := 3) rfl (by decide +kernel)), ?_⟩
  refine List.forall_mem_cons.mpr ⟨ae_mk pu_il (fun X => ok_iload X (by decide +kernel)), ?_⟩
  refine List.forall_mem_cons.mpr ⟨ae_mk pu_bin (fun X => ok_iadd X (by decide +kernel)), ?_⟩
  refine List.forall_mem_cons.mpr ⟨ae_mkc (fun X => ok_callS X (mid := 109) (index := 184) (y := my_109) rfl (by decide) ⟨by decide, by decide⟩ (n := 4) (by decide +kernel) wd_953 wd_51 wd_951 wd_952 (by decide +kernel)), ?_⟩
  refine List.forall_mem_cons.mpr ⟨ae_mkc (fun X => ok_callV X (mid := 105) (index := 166) (y := my_105) rfl (by decide) ⟨by decide, by decide⟩ (n := 3) (by decide +kernel) wd_937 wd_51 wd_934 wd_936 wd_25 (ci := 8) rfl (by decide +kernel)), ?_⟩
  refine List.forall_mem_cons.mpr ⟨ae_mk pu_inc (fun X => ok_iinc X (n := 1) (by decide) (by decide +kernel)), ?_⟩
  refine List.forall_mem_cons.mpr ⟨ae_mk pu_goto (fun X => ok_goto X (off := (-39)) (by decide) (by decide +kernel)), ?_⟩
  refine List.forall_mem_cons.mpr ⟨ae_mk pu_al (fun X => ok_aload_n X (k := 0) rfl (by decide +kernel)), ?_⟩
  refine List.forall_mem_cons.mpr ⟨ae_mk pu_il (fun X => ok_iload X (by decide +kernel)), ?_⟩
  refine List.forall_mem_cons.mpr ⟨ae_mk pu_al (fun X => ok_aload_n X (k := 0) rfl (by decide +kernel)), ?_⟩
  refine List.forall_mem_cons.mpr ⟨ae_mk pu_get (fun X => ok_get X (ci := 8) (kk := 12) (index := 41) rfl aw_c_Model (by decide) wd_788 (by decide +kernel)), ?_⟩
  refine List.forall_mem_cons.mpr ⟨ae_mk pu_il (fun X => ok_iload_n X (k := 1) rfl (by decide +kernel)), ?_⟩
  refine List.forall_mem_cons.mpr ⟨ae_mk pu_ia (fun X => ok_ia X (by decide +kernel)), ?_⟩
  refine List.forall_mem_cons.mpr ⟨ae_mkc (fun X => ok_callV X (mid := 110) (index := 188) (y := my_110) rfl (by decide) ⟨by decide, by decide⟩ (n := 2) (by decide +kernel) wd_957 wd_51 wd_954 wd_956 wd_29 (ci := 8) rfl (by decide +kernel)), ?_⟩
  refine List.forall_mem_cons.mpr ⟨ae_mk pu_al (fun X => ok_aload_n X (k := 0) rfl (by decide +kernel)), ?_⟩
  refine List.forall_mem_cons.mpr ⟨ae_mk (pu_push (fun _ => trivial)) (fun X => ok_bipush X (n := 12) (by decide) (by decide +kernel)), ?_⟩
  refine List.forall_mem_cons.mpr ⟨ae_mk pu_il (fun X => ok_iload X (by decide +kernel)), ?_⟩
  refine List.forall_mem_cons.mpr ⟨ae_mk pu_bin (fun X => ok_imul X (by decide +kernel)), ?_⟩
  refine List.forall_mem_cons.mpr ⟨ae_mk pu_al (fun X => ok_aload_n X (k := 0) rfl (by decide +kernel)), ?_⟩
  refine List.forall_mem_cons.mpr ⟨ae_mk pu_get (fun X => ok_get X (ci := 8) (kk := 5) (index := 19) rfl aw_c_Model (by decide) wd_781 (by decide +kernel)), ?_⟩
  refine List.forall_mem_cons.mpr ⟨ae_mk pu_il (fun X => ok_iload_n X (k := 1) rfl (by decide +kernel)), ?_⟩
  refine List.forall_mem_cons.mpr ⟨ae_mk pu_ia (fun X => ok_ia X (by decide +kernel)), ?_⟩
  refine List.forall_mem_cons.mpr ⟨ae_mk pu_bin (fun X => ok_iadd X (by decide +kernel)), ?_⟩
  refine List.forall_mem_cons.mpr ⟨ae_mk pu_il (fun X => ok_iload X (by decide +kernel)), ?_⟩
  refine List.forall_mem_cons.mpr ⟨ae_mk (pu_push (fun _ => trivial)) (fun X => ok_iconst X (n := 0) (by decide) (by decide +kernel)), ?_⟩
  refine List.forall_mem_cons.mpr ⟨ae_mkc (fun X => ok_callV X (mid := 112) (index := 191) (y := my_112) rfl (by decide) ⟨by decide, by decide⟩ (n := 3) (by decide +kernel) wd_966 wd_51 wd_963 wd_965 wd_31 (ci := 8) rfl (by decide +kernel)), ?_⟩
  refine List.forall_mem_cons.mpr ⟨ae_mk pu_inc (fun X => ok_iinc X (n := 1) (by decide) (by decide +kernel)), ?_⟩
  refine List.forall_mem_cons.mpr ⟨ae_mk pu_goto (fun X => ok_goto X (off := (-128)) (by decide) (by decide +kernel)), ?_⟩
  refine List.forall_mem_cons.mpr ⟨ae_mk pu_al (fun X => ok_aload_n X (k := 0) rfl (by decide +kernel)), ?_⟩
  refine List.forall_mem_cons.mpr ⟨ae_mk pu_get (fun X => ok_get X (ci := 8) (kk := 12) (index := 41) rfl aw_c_Model (by decide) wd_788 (by decide +kernel)), ?_⟩
  refine List.forall_mem_cons.mpr ⟨ae_mk pu_il (fun X => ok_iload_n X (k := 1) rfl (by decide +kernel)), ?_⟩
  refine List.forall_mem_cons.mpr ⟨ae_mk pu_al (fun X => ok_aload_n X (k := 0) rfl (by decide +kernel)), ?_⟩
  refine List.forall_mem_cons.mpr ⟨ae_mk pu_get (fun X => ok_get X (ci := 8) (kk := 12) (index := 41) rfl aw_c_Model (by decide) wd_788 (by decide +kernel)), ?_⟩
  refine List.forall_mem_cons.mpr ⟨ae_mk pu_il (fun X => ok_iload_n X (k := 1) rfl (by decide +kernel)), ?_⟩
  refine List.forall_mem_cons.mpr ⟨ae_mk pu_ia (fun X => ok_ia X (by decide +kernel)), ?_⟩
  refine List.forall_mem_cons.mpr ⟨ae_mk (pu_push (fun _ => trivial)) (fun X => ok_sipush X (n := 255) (by decide) (by decide +kernel)), ?_⟩
  refine List.forall_mem_cons.mpr ⟨ae_mk pu_dv (fun X => ok_irem X (by decide +kernel)), ?_⟩
  refine List.forall_mem_cons.mpr ⟨ae_mk (pu_push (fun _ => trivial)) (fun X => ok_iconst X (n := 1) (by decide) (by decide +kernel)), ?_⟩
  refine List.forall_mem_cons.mpr ⟨ae_mk pu_bin (fun X => ok_iadd X (by decide +kernel)), ?_⟩
  refine List.forall_mem_cons.mpr ⟨ae_mk pu_ias (fun X => ok_ias X (by decide +kernel)), ?_⟩
  refine List.forall_mem_cons.mpr ⟨ae_mk pu_al (fun X => ok_aload_n X (k := 0) rfl (by decide +kernel)), ?_⟩
  refine List.forall_mem_cons.mpr ⟨ae_mk pu_get (fun X => ok_get X (ci := 8) (kk := 10) (index := 35) rfl aw_c_Model (by decide) wd_786 (by decide +kernel)), ?_⟩
  refine List.forall_mem_cons.mpr ⟨ae_mk pu_il (fun X => ok_iload_n X (k := 1) rfl (by decide +kernel)), ?_⟩
  refine List.forall_mem_cons.mpr ⟨ae_mk pu_al (fun X => ok_aload_n X (k := 0) rfl (by decide +kernel)), ?_⟩
  refine List.forall_mem_cons.mpr ⟨ae_mk pu_get (fun X => ok_get X (ci := 8) (kk := 1) (index := 177) rfl aw_c_Model (by decide) wd_777 (by decide +kernel)), ?_⟩
  refine List.forall_mem_cons.mpr ⟨ae_mk pu_al (fun X => ok_aload_n X (k := 0) rfl (by decide +kernel)), ?_⟩
  refine List.forall_mem_cons.mpr ⟨ae_mk pu_get (fun X => ok_get X (ci := 8) (kk := 6) (index := 23) rfl aw_c_Model (by decide) wd_782 (by decide +kernel)), ?_⟩
  refine List.forall_mem_cons.mpr ⟨ae_mk pu_il (fun X => ok_iload_n X (k := 1) rfl (by decide +kernel)), ?_⟩
  refine List.forall_mem_cons.mpr ⟨ae_mk pu_ia (fun X => ok_ia X (by decide +kernel)), ?_⟩
  refine List.forall_mem_cons.mpr ⟨ae_mk pu_bin (fun X => ok_iadd X (by decide +kernel)), ?_⟩
  refine List.forall_mem_cons.mpr ⟨ae_mk pu_ias (fun X => ok_ias X (by decide +kernel)), ?_⟩
  refine List.forall_mem_cons.mpr ⟨ae_mk pu_al (fun X => ok_aload_n X (k := 0) rfl (by decide +kernel)), ?_⟩
  refine List.forall_mem_cons.mpr ⟨ae_mk pu_get (fun X => ok_get X (ci := 8) (kk := 14) (index := 47) rfl aw_c_Model (by decide) wd_790 (by decide +kernel)), ?_⟩
  refine List.forall_mem_cons.mpr ⟨ae_mk pu_il (fun X => ok_iload_n X (k := 1) rfl (by decide +kernel)), ?_⟩
  refine List.forall_mem_cons.mpr ⟨ae_mk pu_dup2 (fun X => ok_dup2 X (by decide +kernel)), ?_⟩
  refine List.forall_mem_cons.mpr ⟨ae_mk pu_ia (fun X => ok_ia X (by decide +kernel)), ?_⟩
  refine List.forall_mem_cons.mpr ⟨ae_mk (pu_push (fun _ => trivial)) (fun X => ok_iconst X (n := 1) (by decide) (by decide +kernel)), ?_⟩
  refine List.forall_mem_cons.mpr ⟨ae_mk pu_bin (fun X => ok_isub X (by decide +kernel)), ?_⟩
  refine List.forall_mem_cons.mpr ⟨ae_mk pu_ias (fun X => ok_ias X (by decide +kernel)), ?_⟩
  refine List.forall_mem_cons.mpr ⟨ae_mk (pu_push (fun _ => trivial)) (fun X => ok_bipush X (n := 8) (by decide) (by decide +kernel)), ?_⟩
  refine List.forall_mem_cons.mpr ⟨ae_mk pu_il (fun X => ok_iload_n X (k := 1) rfl (by decide +kernel)), ?_⟩
  refine List.forall_mem_cons.mpr ⟨ae_mk pu_bin (fun X => ok_imul X (by decide +kernel)), ?_⟩
  refine List.forall_mem_cons.mpr ⟨ae_mk pu_is (fun X => ok_istore X (by decide +kernel)), ?_⟩
  refine List.forall_mem_cons.mpr ⟨ae_mk pu_il (fun X => ok_iload X (by decide +kernel)), ?_⟩
  refine List.forall_mem_cons.mpr ⟨ae_mk (pu_push (fun _ => trivial)) (fun X => ok_bipush X (n := 8) (by decide) (by decide +kernel)), ?_⟩
  refine List.forall_mem_cons.mpr ⟨ae_mk pu_il (fun X => ok_iload_n X (k := 1) rfl (by decide +kernel)), ?_⟩
  refine List.forall_mem_cons.mpr ⟨ae_mk pu_bin (fun X => ok_imul X (by decide +kernel)), ?_⟩
  refine List.forall_mem_cons.mpr ⟨ae_mk pu_al (fun X => ok_aload_n X (k := 0) rfl (by decide +kernel)), ?_⟩
  refine List.forall_mem_cons.mpr ⟨ae_mk pu_get (fun X => ok_get X (ci := 8) (kk := 14) (index := 47) rfl aw_c_Model (by decide) wd_790 (by decide +kernel)), ?_⟩
  refine List.forall_mem_cons.mpr ⟨ae_mk pu_il (fun X => ok_iload_n X (k := 1) rfl (by decide +kernel)), ?_⟩
  refine List.forall_mem_cons.mpr ⟨ae_mk pu_ia (fun X => ok_ia X (by decide +kernel)), ?_⟩
  refine List.forall_mem_cons.mpr ⟨ae_mk pu_bin (fun X => ok_iadd X (by decide +kernel)), ?_⟩
  refine List.forall_mem_cons.mpr ⟨ae_mk pu_ic (fun X => ok_ic_ge X (off := 73) (by decide) (by decide +kernel)), ?_⟩
  refine List.forall_mem_cons.mpr ⟨ae_mk pu_al (fun X => ok_aload_n X (k := 0) rfl (by decide +kernel)), ?_⟩
  refine List.forall_mem_cons.mpr ⟨ae_mk pu_get (fun X => ok_get X (ci := 8) (kk := 15) (index := 50) rfl aw_c_Model (by decide) wd_791 (by decide +kernel)), ?_⟩
  refine List.forall_mem_cons.mpr ⟨ae_mk pu_il (fun X => ok_iload X (by decide +kernel)), ?_⟩
  refine List.forall_mem_cons.mpr ⟨ae_mk pu_al (fun X => ok_aload_n X (k := 0) rfl (by decide +kernel)), ?_⟩
  refine List.forall_mem_cons.mpr ⟨ae_mk pu_get (fun X => ok_get X (ci := 8) (kk := 15) (index := 50) rfl aw_c_Model (by decide) wd_791 (by decide +kernel)), ?_⟩
  refine List.forall_mem_cons.mpr ⟨ae_mk pu_il (fun X => ok_iload X (by decide +kernel)), ?_⟩
  refine List.forall_mem_cons.mpr ⟨ae_mk (pu_push (fun _ => trivial)) (fun X => ok_iconst X (n := 1) (by decide) (by decide +kernel)), ?_⟩
  refine List.forall_mem_cons.mpr ⟨ae_mk pu_bin (fun X => ok_iadd X (by decide +kernel)), ?_⟩
  refine List.forall_mem_cons.mpr ⟨ae_mk pu_ia (fun X => ok_ia X (by decide +kernel)), ?_⟩
  refine List.forall_mem_cons.mpr ⟨ae_mk pu_ias (fun X => ok_ias X (by decide +kernel)), ?_⟩
  refine List.forall_mem_cons.mpr ⟨ae_mk pu_al (fun X => ok_aload_n X (k := 0) rfl (by decide +kernel)), ?_⟩
  refine List.forall_mem_cons.mpr ⟨ae_mk pu_get (fun X => ok_get X (ci := 8) (kk := 16) (index := 53) rfl aw_c_Model (by decide) wd_792 (by decide +kernel)), ?_⟩
  refine List.forall_mem_cons.mpr ⟨ae_mk pu_il (fun X => ok_iload X (by decide +kernel)), ?_⟩
  refine List.forall_mem_cons.mpr ⟨ae_mk pu_al (fun X => ok_aload_n X (k := 0) rfl (by decide +kernel)), ?_⟩
  refine List.forall_mem_cons.mpr ⟨ae_mk pu_get (fun X => ok_get X (ci := 8) (kk := 16) (index := 53) rfl aw_c_Model (by decide) wd_792 (by decide +kernel)), ?_⟩
  refine List.forall_mem_cons.mpr ⟨ae_mk pu_il (fun X => ok_iload X (by decide +kernel)), ?_⟩
  refine List.forall_mem_cons.mpr ⟨ae_mk (pu_push (fun _ => trivial)) (fun X => ok_iconst X (n := 1) (by decide) (by decide +kernel)), ?_⟩
  refine List.forall_mem_cons.mpr ⟨ae_mk pu_bin (fun X => ok_iadd X (by decide +kernel)), ?_⟩
  refine List.forall_mem_cons.mpr ⟨ae_mk pu_ia (fun X => ok_ia X (by decide +kernel)), ?_⟩
  refine List.forall_mem_cons.mpr ⟨ae_mk pu_ias (fun X => ok_ias X (by decide +kernel)), ?_⟩
  refine List.forall_mem_cons.mpr ⟨ae_mk pu_al (fun X => ok_aload_n X (k := 0) rfl (by decide +kernel)), ?_⟩
  refine List.forall_mem_cons.mpr ⟨ae_mk pu_get (fun X => ok_get X (ci := 8) (kk := 17) (index := 56) rfl aw_c_Model (by decide) wd_793 (by decide +kernel)), ?_⟩
  refine List.forall_mem_cons.mpr ⟨ae_mk pu_il (fun X => ok_iload X (by decide +kernel)), ?_⟩
  refine List.forall_mem_cons.mpr ⟨ae_mk pu_al (fun X => ok_aload_n X (k := 0) rfl (by decide +kernel)), ?_⟩
  refine List.forall_mem_cons.mpr ⟨ae_mk pu_get (fun X => ok_get X (ci := 8) (kk := 17) (index := 56) rfl aw_c_Model (by decide) wd_793 (by decide +kernel)), ?_⟩
  refine List.forall_mem_cons.mpr ⟨ae_mk pu_il (fun X => ok_iload X (by decide +kernel)), ?_⟩
  refine List.forall_mem_cons.mpr ⟨ae_mk (pu_push (fun _ => trivial)) (fun X => ok_iconst X (n := 1) (by decide) (by decide +kernel)), ?_⟩
  refine List.forall_mem_cons.mpr ⟨ae_mk pu_bin (fun X => ok_iadd X (by decide +kernel)), ?_⟩
  refine List.forall_mem_cons.mpr ⟨ae_mk pu_ia (fun X => ok_ia X (by decide +kernel)), ?_⟩
  refine List.forall_mem_cons.mpr ⟨ae_mk pu_ias (fun X => ok_ias X (by decide +kernel)), ?_⟩
  refine List.forall_mem_cons.mpr ⟨ae_mk pu_al (fun X => ok_aload_n X (k := 0) rfl (by decide +kernel)), ?_⟩
  refine List.forall_mem_cons.mpr ⟨ae_mk pu_get (fun X => ok_get X (ci := 8) (kk := 18) (index := 59) rfl aw_c_Model (by decide) wd_794 (by decide +kernel)), ?_⟩
  refine List.forall_mem_cons.mpr ⟨ae_mk pu_il (fun X => ok_iload X (by decide +kernel)), ?_⟩
  refine List.forall_mem_cons.mpr ⟨ae_mk pu_al (fun X => ok_aload_n X (k := 0) rfl (by decide +kernel)), ?_⟩
  refine List.forall_mem_cons.mpr ⟨ae_mk pu_get (fun X => ok_get X (ci := 8) (kk := 18) (index := 59) rfl aw_c_Model (by decide) wd_794 (by decide +kernel)), ?_⟩
  refine List.forall_mem_cons.mpr ⟨ae_mk pu_il (fun X => ok_iload X (by decide +kernel)), ?_⟩
  refine List.forall_mem_cons.mpr ⟨ae_mk (pu_push (fun _ => trivial)) (fun X => ok_iconst X (n := 1) (by decide) (by decide +kernel)), ?_⟩
  refine List.forall_mem_cons.mpr ⟨ae_mk pu_bin (fun X => ok_iadd X (by decide +kernel)), ?_⟩
  refine List.forall_mem_cons.mpr ⟨ae_mk pu_ia (fun X => ok_ia X (by decide +kernel)), ?_⟩
  refine List.forall_mem_cons.mpr ⟨ae_mk pu_ias (fun X => ok_ias X (by decide +kernel)), ?_⟩
  refine List.forall_mem_cons.mpr ⟨ae_mk pu_inc (fun X => ok_iinc X (n := 1) (by decide) (by decide +kernel)), ?_⟩
  refine List.forall_mem_cons.mpr ⟨ae_mk pu_goto (fun X => ok_goto X (off := (-83)) (by decide) (by decide +kernel)), ?_⟩
  refine List.forall_mem_cons.mpr ⟨⟨rfl, (by decide +kernel)⟩, ?_⟩
  exact fun _ h => absurd h List.not_mem_nil
def tb_103 : List (Nat × ae_I) := [(0, .inl (o_al 0 1)),
  (1, .inr (.inr (.inl (104, 1, 4, some 8, [])))),
  (4, .inl (o_is 8 6)),
  (6, .inl (o_al 0 7)),
  (7, .inl (o_get 8 20 10)),
  (10, .inl (o_il 8 12)),
  (12, .inl (o_il 4 14)),
  (14, .inl (o_push (.int 39) 16)),
  (16, .inl (o_bin (fun x y => x + y) 17)),
  (17, .inl (o_push (.int 64) 19)),
  (19, .inl (o_ic (fun x y => decide (y ≤ x)) 27 22)),
  (22, .inl (o_push (.int 64) 24)),
  (24, .inl (o_goto 32)),
  (27, .inl (o_il 4 29)),
  (29, .inl (o_push (.int 39) 31)),
  (31, .inl (o_bin (fun x y => x + y) 32)),
  (32, .inl (o_ias 33)),
  (33, .inl (o_al 0 34)),
  (34, .inl (o_il 8 36)),
  (36, .inl (o_push (.int 0) 37)),
  (37, .inl (o_push (.int 3) 38)),
  (38, .inr (.inr (.inl (105, 4, 41, some 8, [])))),
  (41, .inl (o_al 0 42)),
  (42, .inl (o_il 8 44)),
  (44, .inl (o_push (.int 5) 45)),
  (45, .inl (o_il 3 46)),
  (46, .inr (.inr (.inl (105, 4, 49, some 8, [])))),
  (49, .inl (o_al 0 50)),
  (50, .inl (o_il 8 52)),
  (52, .inl (o_push (.int 6) 54)),
  (54, .inl (o_push (.int 2) 55)),
  (55, .inr (.inr (.inl (105, 4, 58, some 8, [])))),
  (58, .inl (o_al 0 59)),
  (59, .inl (o_il 8 61)),
  (61, .inl (o_push (.int 10) 63)),
  (63, .inl (o_il 2 64)),
  (64, .inr (.inr (.inl (105, 4, 67, some 8, [])))),
  (67, .inl (o_al 0 68)),
  (68, .inl (o_il 8 70)),
  (70, .inl (o_push (.int 11) 72)),
  (72, .inl (o_il 1 73)),
  (73, .inl (o_if (fun x => decide (¬ x = 0)) 81 76)),
  (76, .inl (o_push (.int 32) 78)),
  (78, .inl (o_goto 83)),
  (81, .inl (o_push (.int 64) 83)),
  (83, .inr (.inr (.inl (105, 4, 86, some 8, [])))),
  (86, .inl (o_al 0 87)),
  (87, .inl (o_il 8 89)),
  (89, .inl (o_push (.int 12) 91)),
  (91, .inl (o_push (.int 8) 93)),
  (93, .inr (.inr (.inl (105, 4, 96, some 8, [])))),
  (96, .inl (o_al 0 97)),
  (97, .inl (o_il 8 99)),
  (99, .inl (o_push (.int 14) 101)),
  (101, .inl (o_push (.int 69) 103)),
  (103, .inr (.inr (.inl (105, 4, 106, some 8, [])))),
  (106, .inl (o_al 0 107)),
  (107, .inl (o_il 8 109)),
  (109, .inl (o_push (.int 16) 111)),
  (111, .inl (o_il 4 113)),
  (113, .inl (o_push (.int 20) 115)),
  (115, .inl (o_bin (fun x y => x + y) 116)),
  (116, .inl (o_push (.int 256) 119)),
  (119, .inl (o_dv (fun x y => x / y) 120)),
  (120, .inr (.inr (.inl (105, 4, 123, some 8, [])))),
  (123, .inl (o_al 0 124)),
  (124, .inl (o_il 8 126)),
  (126, .inl (o_push (.int 17) 128)),
  (128, .inl (o_il 4 130)),
  (130, .inl (o_push (.int 20) 132)),
  (132, .inl (o_bin (fun x y => x + y) 133)),
  (133, .inr (.inr (.inl (105, 4, 136, some 8, [])))),
  (136, .inl (o_al 0 137)),
  (137, .inl (o_il 8 139)),
  (139, .inl (o_push (.int 18) 141)),
  (141, .inl (o_il 5 143)),
  (143, .inl (o_push (.int 256) 146)),
  (146, .inl (o_dv (fun x y => x / y) 147)),
  (147, .inr (.inr (.inl (105, 4, 150, some 8, [])))),
  (150, .inl (o_al 0 151)),
  (151, .inl (o_il 8 153)),
  (153, .inl (o_push (.int 19) 155)),
  (155, .inl (o_il 5 157)),
  (157, .inr (.inr (.inl (105, 4, 160, some 8, [])))),
  (160, .inl (o_al 0 161)),
  (161, .inl (o_il 8 163)),
  (163, .inl (o_push (.int 20) 165)),
  (165, .inl (o_il 7 167)),
  (167, .inl (o_if (fun x => decide (x = 0)) 175 170)),
  (170, .inl (o_push (.int 32) 172)),
  (172, .inl (o_goto 176)),
  (175, .inl (o_push (.int 0) 176)),
  (176, .inr (.inr (.inl (105, 4, 179, some 8, [])))),
  (179, .inl (o_al 0 180)),
  (180, .inl (o_il 8 182)),
  (182, .inl (o_push (.int 21) 184)),
  (184, .inl (o_il 6 186)),
  (186, .inl (o_push (.int 8) 188)),
  (188, .inl (o_dv (fun x y => x / y) 189)),
  (189, .inr (.inr (.inl (105, 4, 192, some 8, [])))),
  (192, .inl (o_al 0 193)),
  (193, .inl (o_il 8 195)),
  (195, .inl (o_push (.int 22) 197)),
  (197, .inl (o_push (.int 1) 198)),
  (198, .inr (.inr (.inl (105, 4, 201, some 8, [])))),
  (201, .inl (o_al 0 202)),
  (202, .inl (o_il 8 204)),
  (204, .inl (o_push (.int 23) 206)),
  (206, .inl (o_push (.int 17) 208)),
  (208, .inr (.inr (.inl (105, 4, 211, some 8, [])))),
  (211, .inl (o_al 0 212)),
  (212, .inl (o_il 8 214)),
  (214, .inl (o_push (.int 26) 216)),
  (216, .inl (o_push (.int 10) 218)),
  (218, .inr (.inr (.inl (105, 4, 221, some 8, [])))),
  (221, .inl (o_al 0 222)),
  (222, .inl (o_il 8 224)),
  (224, .inl (o_push (.int 27) 226)),
  (226, .inl (o_push (.int 1) 227)),
  (227, .inr (.inr (.inl (105, 4, 230, some 8, [])))),
  (230, .inl (o_al 0 231)),
  (231, .inl (o_il 8 233)),
  (233, .inl (o_push (.int 28) 235)),
  (235, .inl (o_il 2 236)),
  (236, .inr (.inr (.inl (105, 4, 239, some 8, [])))),
  (239, .inl (o_al 0 240)),
  (240, .inl (o_il 8 242)),
  (242, .inl (o_push (.int 29) 244)),
  (244, .inl (o_push (.int 1) 245)),
  (245, .inr (.inr (.inl (105, 4, 248, some 8, [])))),
  (248, .inl (o_al 0 249)),
  (249, .inl (o_il 8 251)),
  (251, .inl (o_push (.int 30) 253)),
  (253, .inl (o_push (.int 224) 256)),
  (256, .inr (.inr (.inl (105, 4, 259, some 8, [])))),
  (259, .inl (o_al 0 260)),
  (260, .inl (o_il 8 262)),
  (262, .inl (o_push (.int 31) 264)),
  (264, .inl (o_push (.int 224) 267)),
  (267, .inr (.inr (.inl (105, 4, 270, some 8, [])))),
  (270, .inl (o_al 0 271)),
  (271, .inl (o_il 8 273)),
  (273, .inl (o_push (.int 33) 275)),
  (275, .inl (o_il 3 276)),
  (276, .inr (.inr (.inl (105, 4, 279, some 8, [])))),
  (279, .inl (o_al 0 280)),
  (280, .inl (o_il 8 282)),
  (282, .inr (.inr (.inl (106, 2, 285, some 8, [])))),
  (285, .inl (o_is 9 287)),
  (287, .inl (o_al 0 288)),
  (288, .inl (o_il 8 290)),
  (290, .inl (o_push (.int 24) 292)),
  (292, .inl (o_il 9 294)),
  (294, .inl (o_push (.int 256) 297)),
  (297, .inl (o_dv (fun x y => x / y) 298)),
  (298, .inr (.inr (.inl (105, 4, 301, some 8, [])))),
  (301, .inl (o_al 0 302)),
  (302, .inl (o_il 8 304)),
  (304, .inl (o_push (.int 25) 306)),
  (306, .inl (o_il 9 308)),
  (308, .inr (.inr (.inl (105, 4, 311, some 8, [])))),
  (311, .inl (o_il 8 313)),
  (313, .inr (.inl (some k_int)))]
theorem te_103 : ∀ q ∈ tb_103, ae_E am "TwinNetworkModel" "frame" prog_10_method_19_code 10 (Option.some Jvm.ClassFile.FieldType.int) [] q := by
  unfold tb_103
  refine List.forall_mem_cons.mpr ⟨ae_mk pu_al (fun X => ok_aload_n X (k := 0) rfl (by decide +kernel)), ?_⟩
  refine List.forall_mem_cons.mpr ⟨ae_mkc (fun X => ok_callV X (mid := 104) (index := 162) (y := my_104) rfl (by decide) ⟨by decide, by decide⟩ (n := 0) (by decide +kernel) wd_933 wd_51 wd_930 wd_932 wd_24 (ci := 8) rfl (by decide +kernel)), ?_⟩
  refine List.forall_mem_cons.mpr ⟨ae_mk pu_is (fun X => ok_istore X (by decide +kernel)), ?_⟩
  refine List.forall_mem_cons.mpr ⟨ae_mk pu_al (fun X => ok_aload_n X (k := 0) rfl (by decide +kernel)), ?_⟩
  refine List.forall_mem_cons.mpr ⟨ae_mk pu_get (fun X => ok_get X (ci := 8) (kk := 20) (index := 66) rfl aw_c_Model (by decide) wd_796 (by decide +kernel)), ?_⟩
  refine List.forall_mem_cons.mpr ⟨ae_mk pu_il (fun X => ok_iload X (by decide +kernel)), ?_⟩
  refine List.forall_mem_cons.mpr ⟨ae_mk pu_il (fun X => ok_iload X (by decide +kernel)), ?_⟩
  refine List.forall_mem_cons.mpr ⟨ae_mk (pu_push (fun _ => trivial)) (fun X => ok_bipush X (n := 39) (by decide) (by decide +kernel)), ?_⟩
  refine List.forall_mem_cons.mpr ⟨ae_mk pu_bin (fun X => ok_iadd X (by decide +kernel)), ?_⟩
  refine List.forall_mem_cons.mpr ⟨ae_mk (pu_push (fun _ => trivial)) (fun X => ok_bipush X (n := 64) (by decide) (by decide +kernel)), ?_⟩
  refine List.forall_mem_cons.mpr ⟨ae_mk pu_ic (fun X => ok_ic_ge X (off := 8) (by decide) (by decide +kernel)), ?_⟩
  refine List.forall_mem_cons.mpr ⟨ae_mk (pu_push (fun _ => trivial)) (fun X => ok_bipush X (n := 64) (by decide) (by decide +kernel)), ?_⟩
  refine List.forall_mem_cons.mpr ⟨ae_mk pu_goto (fun X => ok_goto X (off := 8) (by decide) (by decide +kernel)), ?_⟩
  refine List.forall_mem_cons.mpr ⟨ae_mk pu_il (fun X => ok_iload X (by decide +kernel)), ?_⟩
  refine List.forall_mem_cons.mpr ⟨ae_mk (pu_push (fun _ => trivial)) (fun X => ok_bipush X (n := 39) (by decide) (by decide +kernel)), ?_⟩
  refine List.forall_mem_cons.mpr ⟨ae_mk pu_bin (fun X => ok_iadd X (by decide +kernel)), ?_⟩
  refine List.forall_mem_cons.mpr ⟨ae_mk pu_ias (fun X => ok_ias X (by decide +kernel)), ?_⟩
  refine List.forall_mem_cons.mpr ⟨ae_mk pu_al (fun X => ok_aload_n X (k := 0) rfl (by decide +kernel)), ?_⟩
  refine List.forall_mem_cons.mpr ⟨ae_mk pu_il (fun X => ok_iload X (by decide +kernel)), ?_⟩
  refine List.forall_mem_cons.mpr ⟨ae_mk (pu_push (fun _ => trivial)) (fun X => ok_iconst X (n := 0) (by decide) (by decide +kernel)), ?_⟩
  refine List.forall_mem_cons.mpr ⟨ae_mk (pu_push (fun _ => trivial)) (fun X => ok_iconst X (n := 3) (by decide) (by decide +kernel)), ?_⟩
  refine List.forall_mem_cons.mpr ⟨ae_mkc (fun X => ok_callV X (mid := 105) (index := 166) (y := my_105) rfl (by decide) ⟨by decide, by decide⟩ (n := 3) (by decide +kernel) wd_937 wd_51 wd_934 wd_936 wd_25 (ci := 8) rfl (by decide +kernel)), ?_⟩
  refine List.forall_mem_cons.mpr ⟨ae_mk pu_al (fun X => ok_aload_n X (k := 0) rfl (by decide +kernel)), ?_⟩
  refine List.forall_mem_cons.mpr ⟨ae_mk pu_il (fun X => ok_iload X (by decide +kernel)), ?_⟩
  refine List.forall_mem_cons.mpr ⟨ae_mk (pu_push (fun _ => trivial)) (fun X => ok_iconst X (n := 5) (by decide) (by decide +kernel)), ?_⟩
  refine List.forall_mem_cons.mpr ⟨ae_mk pu_il (fun X => ok_iload_n X (k := 3) rfl (by decide +kernel)), ?_⟩
  refine List.forall_mem_cons.mpr ⟨ae_mkc (fun X => ok_callV X (mid := 105) (index := 166) (y := my_105) rfl (by decide) ⟨by decide, by decide⟩ (n := 3) (by decide +kernel) wd_937 wd_51 wd_934 wd_936 wd_25 (ci := 8) rfl (by decide +kernel)), ?_⟩
  refine List.forall_mem_cons.mpr ⟨ae_mk pu_al (fun X => ok_aload_n X (k := 0) rfl (by decide +kernel)), ?_⟩
  refine List.forall_mem_cons.mpr ⟨ae_mk pu_il (fun X => ok_iload X (by decide +kernel)), ?_⟩
  refine List.forall_mem_cons.mpr ⟨ae_mk (pu_push (fun _ => trivial)) (fun X => ok_bipush X (n := 6) (by decide) (by decide +kernel)), ?_⟩
  refine List.forall_mem_cons.mpr ⟨ae_mk (pu_push (fun _ => trivial)) (fun X => ok_iconst X (n := 2) (by decide) (by decide +kernel)), ?_⟩
  refine List.forall_mem_cons.mpr ⟨ae_mkc (fun X => ok_callV X (mid := 105) (index := 166) (y := my_105) rfl (by decide) ⟨by decide, by decide⟩ (n := 3) (by decide +kernel) wd_937 wd_51 wd_934 wd_936 wd_25 (ci := 8) rfl (by decide +kernel)), ?_⟩
  refine List.forall_mem_cons.mpr ⟨ae_mk pu_al (fun X => ok_aload_n X (k := 0) rfl (by decide +kernel)), ?_⟩
  refine List.forall_mem_cons.mpr ⟨ae_mk pu_il (fun X => ok_iload X (by decide +kernel)), ?_⟩
  refine List.forall_mem_cons.mpr ⟨ae_mk (pu_push (fun _ => trivial)) (fun X => ok_bipush X (n := 10) (by decide) (by decide +kernel)), ?_⟩
  refine List.forall_mem_cons.mpr ⟨ae_mk pu_il (fun X => ok_iload_n X (k := 2) rfl (by decide +kernel)), ?_⟩
  refine List.forall_mem_cons.mpr ⟨ae_mkc (fun X => ok_callV X (mid := 105) (index := 166) (y := my_105) rfl (by decide) ⟨by decide, by decide⟩ (n := 3) (by decide +kernel) wd_937 wd_51 wd_934 wd_936 wd_25 (ci := 8) rfl (by decide +kernel)), ?_⟩
  refine List.forall_mem_cons.mpr ⟨ae_mk pu_al (fun X => ok_aload_n X (k := 0) rfl (by decide +kernel)), ?_⟩
  refine List.forall_mem_cons.mpr ⟨ae_mk pu_il (fun X => ok_iload X (by decide +kernel)), ?_⟩
  refine List.forall_mem_cons.mpr ⟨ae_mk (pu_push (fun _ => trivial)) (fun X => ok_bipush X (n := 11) (by decide) (by decide +kernel)), ?_⟩
  refine List.forall_mem_cons.mpr ⟨ae_mk pu_il (fun X => ok_iload_n X (k := 1) rfl (by decide +kernel)), ?_⟩
  refine List.forall_mem_cons.mpr ⟨ae_mk pu_if (fun X => ok_if_ne X (off := 8) (by decide) (by decide +kernel)), ?_⟩
  refine List.forall_mem_cons.mpr ⟨ae_mk (pu_push (fun _ => trivial)) (fun X => ok_bipush X (n := 32) (by decide) (by decide +kernel)), ?_⟩
  refine List.forall_mem_cons.mpr ⟨ae_mk pu_goto (fun X => ok_goto X (off := 5) (by decide) (by decide +kernel)), ?_⟩
  refine List.forall_mem_cons.mpr ⟨ae_mk (pu_push (fun _ => trivial)) (fun X => ok_bipush X (n := 64) (by decide) (by decide +kernel)), ?_⟩
  refine List.forall_mem_cons.mpr ⟨ae_mkc (fun X => ok_callV X (mid := 105) (index := 166) (y := my_105) rfl (by decide) ⟨by decide, by decide⟩ (n := 3) (by decide +kernel) wd_937 wd_51 wd_934 wd_936 wd_25 (ci := 8) rfl (by decide +kernel)), ?_⟩
  refine List.forall_mem_cons.mpr ⟨ae_mk pu_al (fun X => ok_aload_n X (k := 0) rfl (by decide +kernel)), ?_⟩
  refine List.forall_mem_cons.mpr ⟨ae_mk pu_il (fun X => ok_iload X (by decide +kernel)), ?_⟩
  refine List.forall_mem_cons.mpr ⟨ae_mk (pu_push (fun _ => trivial)) (fun X => ok_bipush X (n := 12) (by decide) (by decide +kernel)), ?_⟩
  refine List.forall_mem_cons.mpr ⟨ae_mk (pu_push (fun _ => trivial)) (fun X => ok_bipush X (n := 8) (by decide) (by decide +kernel)), ?_⟩
  refine List.forall_mem_cons.mpr ⟨ae_mkc (fun X => ok_callV X (mid := 105) (index := 166) (y := my_105) rfl (by decide) ⟨by decide, by decide⟩ (n := 3) (by decide +kernel) wd_937 wd_51 wd_934 wd_936 wd_25 (ci := 8) rfl (by decide +kernel)), ?_⟩
  refine List.forall_mem_cons.mpr ⟨ae_mk pu_al (fun X => ok_aload_n X (k := 0) rfl (by decide +kernel)), ?_⟩
  refine List.forall_mem_cons.mpr ⟨ae_mk pu_il (fun X => ok_iload X (by decide +kernel)), ?_⟩
  refine List.forall_mem_cons.mpr ⟨ae_mk (pu_push (fun _ => trivial)) (fun X => ok_bipush X (n := 14) (by decide) (by decide +kernel)), ?_⟩
  refine List.forall_mem_cons.mpr ⟨ae_mk (pu_push (fun _ => trivial)) (fun X => ok_bipush X (n := 69) (by decide) (by decide +kernel)), ?_⟩
  refine List.forall_mem_cons.mpr ⟨ae_mkc (fun X => ok_callV X (mid := 105) (index := 166) (y := my_105) rfl (by decide) ⟨by decide, by decide⟩ (n := 3) (by decide +kernel) wd_937 wd_51 wd_934 wd_936 wd_25 (ci := 8) rfl (by decide +kernel)), ?_⟩
  refine List.forall_mem_cons.mpr ⟨ae_mk pu_al (fun X => ok_aload_n X (k := 0) rfl (by decide +kernel)), ?_⟩
  refine List.forall_mem_cons.mpr ⟨ae_mk pu_il (fun X => ok_iload X (by decide +kernel)), ?_⟩
  refine List.forall_mem_cons.mpr ⟨ae_mk (pu_push (fun _ => trivial)) (fun X => ok_bipush X (n := 16) (by decide) (by decide +kernel)), ?_⟩
  refine List.forall_mem_cons.mpr ⟨ae_mk pu_il (fun X => ok_iload X (by decide +kernel)), ?_⟩
  refine List.forall_mem_cons.mpr ⟨ae_mk (pu_push (fun _ => trivial)) (fun X => ok_bipush X (n := 20) (by decide) (by decide +kernel)), ?_⟩
  refine List.forall_mem_cons.mpr ⟨ae_mk pu_bin (fun X => ok_iadd X (by decide +kernel)), ?_⟩
  refine List.forall_mem_cons.mpr ⟨ae_mk (pu_push (fun _ => trivial)) (fun X => ok_sipush X (n := 256) (by decide) (by decide +kernel)), ?_⟩
  refine List.forall_mem_cons.mpr ⟨ae_mk pu_dv (fun X => ok_idiv X (by decide +kernel)), ?_⟩
  refine List.forall_mem_cons.mpr ⟨ae_mkc (fun X => ok_callV X (mid := 105) (index := 166) (y := my_105) rfl (by decide) ⟨by decide, by decide⟩ (n := 3) (by decide +kernel) wd_937 wd_51 wd_934 wd_936 wd_25 (ci := 8) rfl (by decide +kernel)), ?_⟩
  refine List.forall_mem_cons.mpr ⟨ae_mk pu_al (fun X => ok_aload_n X (k := 0) rfl (by decide +kernel)), ?_⟩
  refine List.forall_mem_cons.mpr ⟨ae_mk pu_il (fun X => ok_iload X (by decide +kernel)), ?_⟩
  refine List.forall_mem_cons.mpr ⟨ae_mk (pu_push (fun _ => trivial)) (fun X => ok_bipush X (n := 17) (by decide) (by decide +kernel)), ?_⟩
  refine List.forall_mem_cons.mpr ⟨ae_mk pu_il (fun X => ok_iload X (by decide +kernel)), ?_⟩
  refine List.forall_mem_cons.mpr ⟨ae_mk (pu_push (fun _ => trivial)) (fun X => ok_bipush X (n := 20) (by decide) (by decide +kernel)), ?_⟩
  refine List.forall_mem_cons.mpr ⟨ae_mk pu_bin (fun X => ok_iadd X (by decide +kernel)), ?_⟩
  refine List.forall_mem_cons.mpr ⟨ae_mkc (fun X => ok_callV X (mid := 105) (index := 166) (y := my_105) rfl (by decide) ⟨by decide, by decide⟩ (n := 3) (by decide +kernel) wd_937 wd_51 wd_934 wd_936 wd_25 (ci := 8) rfl (by decide +kernel)), ?_⟩
  refine List.forall_mem_cons.mpr ⟨ae_mk pu_al (fun X => ok_aload_n X (k := 0) rfl (by decide +kernel)), ?_⟩
  refine List.forall_mem_cons.mpr ⟨ae_mk pu_il (fun X => ok_iload X (by decide +kernel)), ?_⟩
  refine List.forall_mem_cons.mpr ⟨ae_mk (pu_push (fun _ => trivial)) (fun X => ok_bipush X (n := 18) (by decide) (by decide +kernel)), ?_⟩
  refine List.forall_mem_cons.mpr ⟨ae_mk pu_il (fun X => ok_iload X (by decide +kernel)), ?_⟩
  refine List.forall_mem_cons.mpr ⟨ae_mk (pu_push (fun _ => trivial)) (fun X => ok_sipush X (n := 256) (by decide) (by decide +kernel)), ?_⟩
  refine List.forall_mem_cons.mpr ⟨ae_mk pu_dv (fun X => ok_idiv X (by decide +kernel)), ?_⟩
  refine List.forall_mem_cons.mpr ⟨ae_mkc (fun X => ok_callV X (mid := 105) (index := 166) (y := my_105) rfl (by decide) ⟨by decide, by decide⟩ (n := 3) (by decide +kernel) wd_937 wd_51 wd_934 wd_936 wd_25 (ci := 8) rfl (by decide +kernel)), ?_⟩
  refine List.forall_mem_cons.mpr ⟨ae_mk pu_al (fun X => ok_aload_n X (k := 0) rfl (by decide +kernel)), ?_⟩
  refine List.forall_mem_cons.mpr ⟨ae_mk pu_il (fun X => ok_iload X (by decide +kernel)), ?_⟩
  refine List.forall_mem_cons.mpr ⟨ae_mk (pu_push (fun _ => trivial)) (fun X => ok_bipush X (n := 19) (by decide) (by decide +kernel)), ?_⟩
  refine List.forall_mem_cons.mpr ⟨ae_mk pu_il (fun X => ok_iload X (by decide +kernel)), ?_⟩
  refine List.forall_mem_cons.mpr ⟨ae_mkc (fun X => ok_callV X (mid := 105) (index := 166) (y := my_105) rfl (by decide) ⟨by decide, by decide⟩ (n := 3) (by decide +kernel) wd_937 wd_51 wd_934 wd_936 wd_25 (ci := 8) rfl (by decide +kernel)), ?_⟩
  refine List.forall_mem_cons.mpr ⟨ae_mk pu_al (fun X => ok_aload_n X (k := 0) rfl (by decide +kernel)), ?_⟩
  refine List.forall_mem_cons.mpr ⟨ae_mk pu_il (fun X => ok_iload X (by decide +kernel)), ?_⟩
  refine List.forall_mem_cons.mpr ⟨ae_mk (pu_push (fun _ => trivial)) (fun X => ok_bipush X (n := 20) (by decide) (by decide +kernel)), ?_⟩
  refine List.forall_mem_cons.mpr ⟨ae_mk pu_il (fun X => ok_iload X (by decide +kernel)), ?_⟩
  refine List.forall_mem_cons.mpr ⟨ae_mk pu_if (fun X => ok_if_eq X (off := 8) (by decide) (by decide +kernel)), ?_⟩
  refine List.forall_mem_cons.mpr ⟨ae_mk (pu_push (fun _ => trivial)) (fun X => ok_bipush X (n := 32) (by decide) (by decide +kernel)), ?_⟩
  refine List.forall_mem_cons.mpr ⟨ae_mk pu_goto (fun X => ok_goto X (off := 4) (by decide) (by decide +kernel)), ?_⟩
  refine List.forall_mem_cons.mpr ⟨ae_mk (pu_push (fun _ => trivial)) (fun X => ok_iconst X (n := 0) (by decide) (by decide +kernel)), ?_⟩
  refine List.forall_mem_cons.mpr ⟨ae_mkc (fun X => ok_callV X (mid := 105) (index := 166) (y := my_105) rfl (by decide) ⟨by decide, by decide⟩ (n := 3) (by decide +kernel) wd_937 wd_51 wd_934 wd_936 wd_25 (ci := 8) rfl (by decide +kernel)), ?_⟩
  refine List.forall_mem_cons.mpr ⟨ae_mk pu_al (fun X => ok_aload_n X (k := 0) rfl (by decide +kernel)), ?_⟩
  refine List.forall_mem_cons.mpr ⟨ae_mk pu_il (fun X => ok_iload X (by decide +kernel)), ?_⟩
  refine List.forall_mem_cons.mpr ⟨ae_mk (pu_push (fun _ => trivial)) (fun X => ok_bipush X (n := 21) (by decide) (by decide +kernel)), ?_⟩
  refine List.forall_mem_cons.mpr ⟨ae_mk pu_il (fun X => ok_iload X (by decide +kernel)), ?_⟩
  refine List.forall_mem_cons.mpr ⟨ae_mk (pu_push (fun _ => trivial)) (fun X => ok_bipush X (n := 8) (by decide) (by decide +kernel)), ?_⟩
  refine List.forall_mem_cons.mpr ⟨ae_mk pu_dv (fun X => ok_idiv X (by decide +kernel)), ?_⟩
  refine List.forall_mem_cons.mpr ⟨ae_mkc (fun X => ok_callV X (mid := 105) (index := 166) (y := my_105) rfl (by decide) ⟨by decide, by decide⟩ (n := 3) (by decide +kernel) wd_937 wd_51 wd_934 wd_936 wd_25 (ci := 8) rfl (by decide +kernel)), ?_⟩
  refine List.forall_mem_cons.mpr ⟨ae_mk pu_al (fun X => ok_aload_n X (k := 0) rfl (by decide +kernel)), ?_⟩
  refine List.forall_mem_cons.mpr ⟨ae_mk pu_il (fun X => ok_iload X (by decide +kernel)), ?_⟩
  refine List.forall_mem_cons.mpr ⟨ae_mk (pu_push (fun _ => trivial)) (fun X => ok_bipush X (n := 22) (by decide) (by decide +kernel)), ?_⟩
  refine List.forall_mem_cons.mpr ⟨ae_mk (pu_push (fun _ => trivial)) (fun X => ok_iconst X (n := 1) (by decide) (by decide +kernel)), ?_⟩
  refine List.forall_mem_cons.mpr ⟨ae_mkc (fun X => ok_callV X (mid := 105) (index := 166) (y := my_105) rfl (by decide) ⟨by decide, by decide⟩ (n := 3) (by decide +kernel) wd_937 wd_51 wd_934 wd_936 wd_25 (ci := 8) rfl (by decide +kernel)), ?_⟩
  refine List.forall_mem_cons.mpr ⟨ae_mk pu_al (fun X => ok_aload_n X (k := 0) rfl (by decide +kernel)), ?_⟩
  refine List.forall_mem_cons.mpr ⟨ae_mk pu_il (fun X => ok_iload X (by decide +kernel)), ?_⟩
  refine List.forall_mem_cons.mpr ⟨ae_mk (pu_push (fun _ => trivial)) (fun X => ok_bipush X (n := 23) (by decide) (by decide +kernel)), ?_⟩
  refine List.forall_mem_cons.mpr ⟨ae_mk (pu_push (fun _ => trivial)) (fun X => ok_bipush X (n := 17) (by decide) (by decide +kernel)), ?_⟩
  refine List.forall_mem_cons.mpr ⟨ae_mkc (fun X => ok_callV X (mid := 105) (index := 166) (y := my_105) rfl (by decide) ⟨by decide, by decide⟩ (n := 3) (by decide +kernel) wd_937 wd_51 wd_934 wd_936 wd_25 (ci := 8) rfl (by decide +kernel)), ?_⟩
  refine List.forall_mem_cons.mpr ⟨ae_mk pu_al (fun X => ok_aload_n X (k := 0) rfl (by decide +kernel)), ?_⟩
  refine List.forall_mem_cons.mpr ⟨ae_mk pu_il (fun X => ok_iload X (by decide +kernel)), ?_⟩
  refine List.forall_mem_cons.mpr ⟨ae_mk (pu_push (fun _ => trivial)) (fun X => ok_bipush X (n := 26) (by decide) (by decide +kernel)), ?_⟩
  refine List.forall_mem_cons.mpr ⟨ae_mk (pu_push (fun _ => trivial)) (fun X => ok_bipush X (n := 10) (by decide) (by decide +kernel)), ?_⟩
  refine List.forall_mem_cons.mpr ⟨ae_mkc (fun X => ok_callV X (mid := 105) (index := 166) (y := my_105) rfl (by decide) ⟨by decide, by decide⟩ (n := 3) (by decide +kernel) wd_937 wd_51 wd_934 wd_936 wd_25 (ci := 8) rfl (by decide +kernel)), ?_⟩
  refine List.forall_mem_cons.mpr ⟨ae_mk pu_al (fun X => ok_aload_n X (k := 0) rfl (by decide +kernel)), ?_⟩
  refine List.forall_mem_cons.mpr ⟨ae_mk pu_il (fun X => ok_iload X (by decide +kernel)), ?_⟩
  refine List.forall_mem_cons.mpr ⟨ae_mk (pu_push (fun _ => trivial)) (fun X => ok_bipush X (n := 27) (by decide) (by decide +kernel)), ?_⟩
  refine List.forall_mem_cons.mpr ⟨ae_mk (pu_push (fun _ => trivial)) (fun X => ok_iconst X (n := 1) (by decide) (by decide +kernel)), ?_⟩
  refine List.forall_mem_cons.mpr ⟨ae_mkc (fun X => ok_callV X (mid := 105) (index := 166) (y := my_105) rfl (by decide) ⟨by decide, by decide⟩ (n := 3) (by decide +kernel) wd_937 wd_51 wd_934 wd_936 wd_25 (ci := 8) rfl (by decide +kernel)), ?_⟩
  refine List.forall_mem_cons.mpr ⟨ae_mk pu_al (fun X => ok_aload_n X (k := 0) rfl (by decide +kernel)), ?_⟩
  refine List.forall_mem_cons.mpr ⟨ae_mk pu_il (fun X => ok_iload X (by decide +kernel)), ?_⟩
  refine List.forall_mem_cons.mpr ⟨ae_mk (pu_push (fun _ => trivial)) (fun X => ok_bipush X (n := 28) (by decide) (by decide +kernel)), ?_⟩
  refine List.forall_mem_cons.mpr ⟨ae_mk pu_il (fun X => ok_iload_n X (k := 2) rfl (by decide +kernel)), ?_⟩
  refine List.forall_mem_cons.mpr ⟨ae_mkc (fun X => ok_callV X (mid := 105) (index := 166) (y := my_105) rfl (by decide) ⟨by decide, by decide⟩ (n := 3) (by decide +kernel) wd_937 wd_51 wd_934 wd_936 wd_25 (ci := 8) rfl (by decide +kernel)), ?_⟩
  refine List.forall_mem_cons.mpr ⟨ae_mk pu_al (fun X => ok_aload_n X (k := 0) rfl (by decide +kernel)), ?_⟩
  refine List.forall_mem_cons.mpr ⟨ae_mk pu_il (fun X => ok_iload X (by decide +kernel)), ?_⟩
  refine List.forall_mem_cons.mpr ⟨ae_mk (pu_push (fun _ => trivial)) (fun X => ok_bipush X (n := 29) (by decide) (by decide +kernel)), ?_⟩
  refine List.forall_mem_cons.mpr ⟨ae_mk (pu_push (fun _ => trivial)) (fun X => ok_iconst X (n := 1) (by decide) (by decide +kernel)), ?_⟩
  refine List.forall_mem_cons.mpr ⟨ae_mkc (fun X => ok_callV X (mid := 105) (index := 166) (y := my_105) rfl (by decide) ⟨by decide, by decide⟩ (n := 3) (by decide +kernel) wd_937 wd_51 wd_934 wd_936 wd_25 (ci := 8) rfl (by decide +kernel)), ?_⟩
  refine List.forall_mem_cons.mpr ⟨ae_mk pu_al (fun X => ok_aload_n X (k := 0) rfl (by decide +kernel)), ?_⟩
  refine List.forall_mem_cons.mpr ⟨ae_mk pu_il (fun X => ok_iload X (by decide +kernel)), ?_⟩
  refine List.forall_mem_cons.mpr ⟨ae_mk (pu_push (fun _ => trivial)) (fun X => ok_bipush X (n := 30) (by decide) (by decide +kernel)), ?_⟩
  refine List.forall_mem_cons.mpr ⟨ae_mk (pu_push (fun _ => trivial)) (fun X => ok_sipush X (n := 224) (by decide) (by decide +kernel)), ?_⟩
  refine List.forall_mem_cons.mpr ⟨ae_mkc (fun X => ok_callV X (mid := 105) (index := 166) (y := my_105) rfl (by decide) ⟨by decide, by decide⟩ (n := 3) (by decide +kernel) wd_937 wd_51 wd_934 wd_936 wd_25 (ci := 8) rfl (by decide +kernel)), ?_⟩
  refine List.forall_mem_cons.mpr ⟨ae_mk pu_al (fun X => ok_aload_n X (k := 0) rfl (by decide +kernel)), ?_⟩
  refine List.forall_mem_cons.mpr ⟨ae_mk pu_il (fun X => ok_iload X (by decide +kernel)), ?_⟩
  refine List.forall_mem_cons.mpr ⟨ae_mk (pu_push (fun _ => trivial)) (fun X => ok_bipush X (n := 31) (by decide) (by decide +kernel)), ?_⟩
  refine List.forall_mem_cons.mpr ⟨ae_mk (pu_push (fun _ => trivial)) (fun X => ok_sipush X (n := 224) (by decide) (by decide +kernel)), ?_⟩
  refine List.forall_mem_cons.mpr ⟨ae_mkc (fun X => ok_callV X (mid := 105) (index := 166) (y := my_105) rfl (by decide) ⟨by decide, by decide⟩ (n := 3) (by decide +kernel) wd_937 wd_51 wd_934 wd_936 wd_25 (ci := 8) rfl (by decide +kernel)), ?_⟩
  refine List.forall_mem_cons.mpr ⟨ae_mk pu_al (fun X => ok_aload_n X (k := 0) rfl (by decide +kernel)), ?_⟩
  refine List.forall_mem_cons.mpr ⟨ae_mk pu_il (fun X => ok_iload X (by decide +kernel)), ?_⟩
  refine List.forall_mem_cons.mpr ⟨ae_mk (pu_push (fun _ => trivial)) (fun X => ok_bipush X (n := 33) (by decide) (by decide +kernel)), ?_⟩
  refine List.forall_mem_cons.mpr ⟨ae_mk pu_il (fun X => ok_iload_n X (k := 3) rfl (by decide +kernel)), ?_⟩
  refine List.forall_mem_cons.mpr ⟨ae_mkc (fun X => ok_callV X (mid := 105) (index := 166) (y := my_105) rfl (by decide) ⟨by decide, by decide⟩ (n := 3) (by decide +kernel) wd_937 wd_51 wd_934 wd_936 wd_25 (ci := 8) rfl (by decide +kernel)), ?_⟩
  refine List.forall_mem_cons.mpr ⟨ae_mk pu_al (fun X => ok_aload_n X (k := 0) rfl (by decide +kernel)), ?_⟩
  refine List.forall_mem_cons.mpr ⟨ae_mk pu_il (fun X => ok_iload X (by decide +kernel)), ?_⟩
  refine List.forall_mem_cons.mpr ⟨ae_mkc (fun X => ok_callV X (mid := 106) (index := 170) (y := my_106) rfl (by decide) ⟨by decide, by decide⟩ (n := 1) (by decide +kernel) wd_941 wd_51 wd_938 wd_940 wd_26 (ci := 8) rfl (by decide +kernel)), ?_⟩
  refine List.forall_mem_cons.mpr ⟨ae_mk pu_is (fun X => ok_istore X (by decide +kernel)), ?_⟩
  refine List.forall_mem_cons.mpr ⟨ae_mk pu_al (fun X => ok_aload_n X (k := 0) rfl (by decide +kernel)), ?_⟩
  refine List.forall_mem_cons.mpr ⟨ae_mk pu_il (fun X => ok_iload X (by decide +kernel)), ?_⟩
  refine List.forall_mem_cons.mpr ⟨ae_mk (pu_push (fun _ => trivial)) (fun X => ok_bipush X (n := 24) (by decide) (by decide +kernel)), ?_⟩
  refine List.forall_mem_cons.mpr ⟨ae_mk pu_il (fun X => ok_iload X (by decide +kernel)), ?_⟩
  refine List.forall_mem_cons.mpr ⟨ae_mk (pu_push (fun _ => trivial)) (fun X => ok_sipush X (n := 256) (by decide) (by decide +kernel)), ?_⟩
  refine List.forall_mem_cons.mpr ⟨ae_mk pu_dv (fun X => ok_idiv X (by decide +kernel)), ?_⟩
  refine List.forall_mem_cons.mpr ⟨ae_mkc (fun X => ok_callV X (mid := 105) (index := 166) (y := my_105) rfl (by decide) ⟨by decide, by decide⟩ (n := 3) (by decide +kernel) wd_937 wd_51 wd_934 wd_936 wd_25 (ci := 8) rfl (by decide +kernel)), ?_⟩
  refine List.forall_mem_cons.mpr ⟨ae_mk pu_al (fun X => ok_aload_n X (k := 0) rfl (by decide +kernel)), ?_⟩
  refine List.forall_mem_cons.mpr ⟨ae_mk pu_il (fun X => ok_iload X (by decide +kernel)), ?_⟩
  refine List.forall_mem_cons.mpr ⟨ae_mk (pu_push (fun _ => trivial)) (fun X => ok_bipush X (n := 25) (by decide) (by decide +kernel)), ?_⟩
  refine List.forall_mem_cons.mpr ⟨ae_mk pu_il (fun X => ok_iload X (by decide +kernel)), ?_⟩
  refine List.forall_mem_cons.mpr ⟨ae_mkc (fun X => ok_callV X (mid := 105) (index := 166) (y := my_105) rfl (by decide) ⟨by decide, by decide⟩ (n := 3) (by decide +kernel) wd_937 wd_51 wd_934 wd_936 wd_25 (ci := 8) rfl (by decide +kernel)), ?_⟩
  refine List.forall_mem_cons.mpr ⟨ae_mk pu_il (fun X => ok_iload X (by decide +kernel)), ?_⟩
  refine List.forall_mem_cons.mpr ⟨Or.inl ⟨rfl, (by decide +kernel), rt_int⟩, ?_⟩
  exact fun _ h => absurd h List.not_mem_nil
def tb_104 : List (Nat × ae_I) := [(0, .inl (o_push (.int 0) 1)),
  (1, .inl (o_is 1 2)),
  (2, .inl (o_al 0 3)),
  (3, .inl (o_get 8 21 6)),
  (6, .inl (o_il 1 7)),
  (7, .inl (o_ba 8)),
  (8, .inl (o_if (fun x => decide (x = 0)) 17 11)),
  (11, .inl (o_inc 1 1 14)),
  (14, .inl (o_goto 2)),
  (17, .inl (o_al 0 18)),
  (18, .inl (o_get 8 21 21)),
  (21, .inl (o_il 1 22)),
  (22, .inl (o_push (.int 1) 23)),
  (23, .inl (o_bas 24)),
  (24, .inl (o_push (.int 0) 25)),
  (25, .inl (o_is 2 26)),
  (26, .inl (o_il 2 27)),
  (27, .inl (o_push (.int 200) 30)),
  (30, .inl (o_ic (fun x y => decide (y ≤ x)) 52 33)),
  (33, .inl (o_al 0 34)),
  (34, .inl (o_get 8 19 37)),
  (37, .inl (o_push (.int 200) 40)),
  (40, .inl (o_il 1 41)),
  (41, .inl (o_bin (fun x y => x * y) 42)),
  (42, .inl (o_il 2 43)),
  (43, .inl (o_bin (fun x y => x + y) 44)),
  (44, .inl (o_push (.int 0) 45)),
  (45, .inl (o_ias 46)),
  (46, .inl (o_inc 2 1 49)),
  (49, .inl (o_goto 26)),
  (52, .inl (o_il 1 53)),
  (53, .inr (.inl (some k_int)))]
theorem te_104 : ∀ q ∈ tb_104, ae_E am "TwinNetworkModel" "take" prog_10_method_12_code 3 (Option.some Jvm.ClassFile.FieldType.int) [] q := by
  unfold tb_104
  refine List.forall_mem_cons.mpr ⟨ae_mk (pu_push (fun _ => trivial)) (fun X => ok_iconst X (n := 0) (by decide) (by decide +kernel)), ?_⟩
  refine List.forall_mem_cons.mpr ⟨ae_mk pu_is (fun X => ok_istore_n X (k := 1) rfl (by decide +kernel)), ?_⟩
  refine List.forall_mem_cons.mpr ⟨ae_mk pu_al (fun X => ok_aload_n X (k := 0) rfl (by decide +kernel)), ?_⟩
  refine List.forall_mem_cons.mpr ⟨ae_mk pu_get (fun X => ok_get X (ci := 8) (kk := 21) (index := 69) rfl aw_c_Model (by decide) wd_797 (by decide +kernel)), ?_⟩
  refine List.forall_mem_cons.mpr ⟨ae_mk pu_il (fun X => ok_iload_n X (k := 1) rfl (by decide +kernel)), ?_⟩
  refine List.forall_mem_cons.mpr ⟨ae_mk pu_ba (fun X => ok_ba X (by decide +kernel)), ?_⟩
  refine List.forall_mem_cons.mpr ⟨ae_mk pu_if (fun X => ok_if_eq X (off := 9) (by decide) (by decide +kernel)), ?_⟩
  refine List.forall_mem_cons.mpr ⟨ae_mk pu_inc (fun X => ok_iinc X (n := 1) (by decide) (by decide +kernel)), ?_⟩
  refine List.forall_mem_cons.mpr ⟨ae_mk pu_goto (fun X => ok_goto X (off := (-12)) (by decide) (by decide +kernel)), ?_⟩
  refine List.forall_mem_cons.mpr ⟨ae_mk pu_al (fun X => ok_aload_n X (k := 0) rfl (by decide +kernel)), ?_⟩
  refine List.forall_mem_cons.mpr ⟨ae_mk pu_get (fun X => ok_get X (ci := 8) (kk := 21) (index := 69) rfl aw_c_Model (by decide) wd_797 (by decide +kernel)), ?_⟩
  refine List.forall_mem_cons.mpr ⟨ae_mk pu_il (fun X => ok_iload_n X (k := 1) rfl (by decide +kernel)), ?_⟩
  refine List.forall_mem_cons.mpr ⟨ae_mk (pu_push (fun _ => trivial)) (fun X => ok_iconst X (n := 1) (by decide) (by decide +kernel)), ?_⟩
  refine List.forall_mem_cons.mpr ⟨ae_mk pu_bas (fun X => ok_bas X (by decide +kernel)), ?_⟩
  refine List.forall_mem_cons.mpr ⟨ae_mk (pu_push (fun _ => trivial)) (fun X => ok_iconst X (n := 0) (by decide) (by decide +kernel)), ?_⟩
  refine List.forall_mem_cons.mpr ⟨ae_mk pu_is (fun X => ok_istore_n X (k := 2) rfl (by decide +kernel)), ?_⟩
  refine List.forall_mem_cons.mpr ⟨ae_mk pu_il (fun X => ok_iload_n X (k := 2) rfl (by decide +kernel)), ?_⟩
  refine List.forall_mem_cons.mpr ⟨ae_mk (pu_push (fun _ => trivial)) (fun X => ok_sipush X (n := 200) (by decide) (by decide +kernel)), ?_⟩
  refine List.forall_mem_cons.mpr ⟨ae_mk pu_ic (fun X => ok_ic_ge X (off := 22) (by decide) (by decide +kernel)), ?_⟩
  refine List.forall_mem_cons.mpr ⟨ae_mk pu_al (fun X => ok_aload_n X (k := 0) rfl (by decide +kernel)), ?_⟩
  refine List.forall_mem_cons.mpr ⟨ae_mk pu_get (fun X => ok_get X (ci := 8) (kk := 19) (index := 63) rfl aw_c_Model (by decide) wd_795 (by decide +kernel)), ?_⟩
  refine List.forall_mem_cons.mpr ⟨ae_mk (pu_push (fun _ => trivial)) (fun X => ok_sipush X (n := 200) (by decide) (by decide +kernel)), ?_⟩
  refine List.forall_mem_cons.mpr ⟨ae_mk pu_il (fun X => ok_iload_n X (k := 1) rfl (by decide +kernel)), ?_⟩
  refine List.forall_mem_cons.mpr ⟨ae_mk pu_bin (fun X => ok_imul X (by decide +kernel)), ?_⟩
  refine List.forall_mem_cons.mpr ⟨ae_mk pu_il (fun X => ok_iload_n X (k := 2) rfl (by decide +kernel)), ?_⟩
  refine List.forall_mem_cons.mpr ⟨ae_mk pu_bin (fun X => ok_iadd X (by decide +kernel)), ?_⟩
  refine List.forall_mem_cons.mpr ⟨ae_mk (pu_push (fun _ => trivial)) (fun X => ok_iconst X (n := 0) (by decide) (by decide +kernel)), ?_⟩
  refine List.forall_mem_cons.mpr ⟨ae_mk pu_ias (fun X => ok_ias X (by decide +kernel)), ?_⟩
  refine List.forall_mem_cons.mpr ⟨ae_mk pu_inc (fun X => ok_iinc X (n := 1) (by decide) (by decide +kernel)), ?_⟩
  refine List.forall_mem_cons.mpr ⟨ae_mk pu_goto (fun X => ok_goto X (off := (-23)) (by decide) (by decide +kernel)), ?_⟩
  refine List.forall_mem_cons.mpr ⟨ae_mk pu_il (fun X => ok_iload_n X (k := 1) rfl (by decide +kernel)), ?_⟩
  refine List.forall_mem_cons.mpr ⟨Or.inl ⟨rfl, (by decide +kernel), rt_int⟩, ?_⟩
  exact fun _ h => absurd h List.not_mem_nil
def tb_105 : List (Nat × ae_I) := [(0, .inl (o_al 0 1)),
  (1, .inl (o_get 8 19 4)),
  (4, .inl (o_push (.int 200) 7)),
  (7, .inl (o_il 1 8)),
  (8, .inl (o_bin (fun x y => x * y) 9)),
  (9, .inl (o_il 2 10)),
  (10, .inl (o_bin (fun x y => x + y) 11)),
  (11, .inl (o_il 3 12)),
  (12, .inl (o_push (.int 255) 15)),
  (15, .inl (o_bin (fun x y => x &&& y) 16)),
  (16, .inl (o_ias 17)),
  (17, .inr (.inl none))]
theorem te_105 : ∀ q ∈ tb_105, ae_E am "TwinNetworkModel" "put" prog_10_method_15_code 4 (Option.none : Option Jvm.ClassFile.FieldType) [] q := by
  unfold tb_105
  refine List.forall_mem_cons.mpr ⟨ae_mk pu_al (fun X => ok_aload_n X (k := 0) rfl (by decide +kernel)), ?_⟩
  refine List.forall_mem_cons.mpr ⟨ae_mk pu_get (fun X => ok_get X (ci := 8) (kk := 19) (index := 63) rfl aw_c_Model (by decide) wd_795 (by decide +kernel)), ?_⟩
  refine List.forall_mem_cons.mpr ⟨ae_mk (pu_push (fun _ => trivial)) (fun X => ok_sipush X (n := 200) (by decide) (by decide +kernel)), ?_⟩
  refine List.forall_mem_cons.mpr ⟨ae_mk pu_il (fun X => ok_iload_n X (k := 1) rfl (by decide +kernel)), ?_⟩
  refine List.forall_mem_cons.mpr ⟨ae_mk pu_bin (fun X => ok_imul X (by decide +kernel)), ?_⟩
  refine List.forall_mem_cons.mpr ⟨ae_mk pu_il (fun X => ok_iload_n X (k := 2) rfl (by decide +kernel)), ?_⟩
  refine List.forall_mem_cons.mpr ⟨ae_mk pu_bin (fun X => ok_iadd X (by decide +kernel)), ?_⟩
  refine List.forall_mem_cons.mpr ⟨ae_mk pu_il (fun X => ok_iload_n X (k := 3) rfl (by decide +kernel)), ?_⟩
  refine List.forall_mem_cons.mpr ⟨ae_mk (pu_push (fun _ => trivial)) (fun X => ok_sipush X (n := 255) (by decide) (by decide +kernel)), ?_⟩
  refine List.forall_mem_cons.mpr ⟨ae_mk pu_bin (fun X => ok_iand X (by decide +kernel)), ?_⟩
  refine List.forall_mem_cons.mpr ⟨ae_mk pu_ias (fun X => ok_ias X (by decide +kernel)), ?_⟩
  refine List.forall_mem_cons.mpr ⟨⟨rfl, (by decide +kernel)⟩, ?_⟩
  exact fun _ h => absurd h List.not_mem_nil
