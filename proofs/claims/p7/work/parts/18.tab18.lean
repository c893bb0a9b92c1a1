def tb_97 : List (Nat × ae_I) := [(0, .inl (o_il 6 2)),
  (2, .inl (o_push (.int 2) 3)),
  (3, .inl (o_bin (fun x y => x >>> (y &&& 31)) 4)),
  (4, .inl (o_is 7 6)),
  (6, .inl (o_il 1 7)),
  (7, .inl (o_if (fun x => decide (x < 0)) 91 10)),
  (10, .inl (o_il 1 11)),
  (11, .inl (o_push (.int 8) 13)),
  (13, .inl (o_ic (fun x y => decide (y ≤ x)) 91 16)),
  (16, .inl (o_il 2 17)),
  (17, .inl (o_if (fun x => decide (x < 0)) 91 20)),
  (20, .inl (o_il 2 21)),
  (21, .inl (o_push (.int 4) 22)),
  (22, .inl (o_ic (fun x y => decide (y ≤ x)) 91 25)),
  (25, .inl (o_il 3 26)),
  (26, .inl (o_push (.int 4) 27)),
  (27, .inl (o_ic (fun x y => decide (x < y)) 91 30)),
  (30, .inl (o_il 3 31)),
  (31, .inl (o_push (.int 9) 33)),
  (33, .inl (o_ic (fun x y => decide (y < x)) 91 36)),
  (36, .inl (o_il 4 38)),
  (38, .inl (o_push (.int 64) 40)),
  (40, .inl (o_ic (fun x y => decide (x < y)) 91 43)),
  (43, .inl (o_il 4 45)),
  (45, .inl (o_push (.int 128) 48)),
  (48, .inl (o_ic (fun x y => decide (y < x)) 91 51)),
  (51, .inl (o_il 5 53)),
  (53, .inl (o_push (.int 1) 54)),
  (54, .inl (o_ic (fun x y => decide (x < y)) 91 57)),
  (57, .inl (o_il 5 59)),
  (59, .inl (o_push (.int 15) 61)),
  (61, .inl (o_ic (fun x y => decide (y < x)) 91 64)),
  (64, .inl (o_il 5 66)),
  (66, .inl (o_il 2 67)),
  (67, .inl (o_bin (fun x y => x >>> (y &&& 31)) 68)),
  (68, .inl (o_push (.int 1) 69)),
  (69, .inl (o_bin (fun x y => x &&& y) 70)),
  (70, .inl (o_if (fun x => decide (¬ x = 0)) 91 73)),
  (73, .inl (o_il 7 75)),
  (75, .inl (o_push (.int 1) 76)),
  (76, .inl (o_ic (fun x y => decide (x < y)) 91 79)),
  (79, .inl (o_il 7 81)),
  (81, .inl (o_push (.int 1000) 84)),
  (84, .inl (o_ic (fun x y => decide (y < x)) 91 87)),
  (87, .inl (o_push (.int 1) 88)),
  (88, .inl (o_goto 92)),
  (91, .inl (o_push (.int 0) 92)),
  (92, .inl (o_is 8 94)),
  (94, .inl (o_al 0 95)),
  (95, .inl (o_il 8 97)),
  (97, .inl (o_if (fun x => decide (¬ x = 0)) 104 100)),
  (100, .inl (o_push (.int 1) 101)),
  (101, .inl (o_goto 118)),
  (104, .inl (o_al 0 105)),
  (105, .inl (o_get 8 2 108)),
  (108, .inl (o_il 1 109)),
  (109, .inl (o_ba 110)),
  (110, .inl (o_if (fun x => decide (x = 0)) 117 113)),
  (113, .inl (o_push (.int 2) 114)),
  (114, .inl (o_goto 118)),
  (117, .inl (o_push (.int 0) 118)),
  (118, .inl (o_put 8 0 k_int 121)),
  (121, .inl (o_al 0 122)),
  (122, .inl (o_get 8 0 125)),
  (125, .inl (o_if (fun x => decide (x ≤ 0)) 129 128)),
  (128, .inr (.inl none)),
  (129, .inl (o_al 0 130)),
  (130, .inl (o_get 8 2 133)),
  (133, .inl (o_il 1 134)),
  (134, .inl (o_push (.int 1) 135)),
  (135, .inl (o_bas 136)),
  (136, .inl (o_al 0 137)),
  (137, .inl (o_get 8 5 140)),
  (140, .inl (o_il 1 141)),
  (141, .inl (o_il 2 142)),
  (142, .inl (o_ias 143)),
  (143, .inl (o_al 0 144)),
  (144, .inl (o_get 8 6 147)),
  (147, .inl (o_il 1 148)),
  (148, .inl (o_push (.int 1) 149)),
  (149, .inl (o_ias 150)),
  (150, .inl (o_push (.int 0) 151)),
  (151, .inl (o_is 9 153)),
  (153, .inl (o_il 9 155)),
  (155, .inl (o_il 3 156)),
  (156, .inl (o_ic (fun x y => decide (y ≤ x)) 175 159)),
  (159, .inl (o_al 0 160)),
  (160, .inl (o_get 8 6 163)),
  (163, .inl (o_il 1 164)),
  (164, .inl (o_dup2 165)),
  (165, .inl (o_ia 166)),
  (166, .inl (o_push (.int 2) 167)),
  (167, .inl (o_bin (fun x y => x * y) 168)),
  (168, .inl (o_ias 169)),
  (169, .inl (o_inc 9 1 172)),
  (172, .inl (o_goto 153)),
  (175, .inl (o_al 0 176)),
  (176, .inl (o_get 8 7 179)),
  (179, .inl (o_il 1 180)),
  (180, .inl (o_il 4 182)),
  (182, .inl (o_ias 183)),
  (183, .inl (o_al 0 184)),
  (184, .inl (o_get 8 8 187)),
  (187, .inl (o_il 1 188)),
  (188, .inl (o_il 5 190)),
  (190, .inl (o_ias 191)),
  (191, .inl (o_al 0 192)),
  (192, .inl (o_get 8 9 195)),
  (195, .inl (o_il 1 196)),
  (196, .inl (o_il 7 198)),
  (198, .inl (o_ias 199)),
  (199, .inl (o_al 0 200)),
  (200, .inl (o_get 8 3 203)),
  (203, .inl (o_il 1 204)),
  (204, .inl (o_il 6 206)),
  (206, .inl (o_push (.int 2) 207)),
  (207, .inl (o_dv (fun x y => x - x / y * y) 208)),
  (208, .inl (o_if (fun x => decide (x = 0)) 215 211)),
  (211, .inl (o_push (.int 1) 212)),
  (212, .inl (o_goto 216)),
  (215, .inl (o_push (.int 0) 216)),
  (216, .inl (o_bas 217)),
  (217, .inl (o_al 0 218)),
  (218, .inl (o_get 8 4 221)),
  (221, .inl (o_il 1 222)),
  (222, .inl (o_il 6 224)),
  (224, .inl (o_push (.int 2) 225)),
  (225, .inl (o_dv (fun x y => x / y) 226)),
  (226, .inl (o_push (.int 2) 227)),
  (227, .inl (o_dv (fun x y => x - x / y * y) 228)),
  (228, .inl (o_if (fun x => decide (x = 0)) 235 231)),
  (231, .inl (o_push (.int 1) 232)),
  (232, .inl (o_goto 236)),
  (235, .inl (o_push (.int 0) 236)),
  (236, .inl (o_bas 237)),
  (237, .inl (o_al 0 238)),
  (238, .inl (o_get 8 13 241)),
  (241, .inl (o_il 1 242)),
  (242, .inl (o_al 0 243)),
  (243, .inl (o_get 8 7 246)),
  (246, .inl (o_il 1 247)),
  (247, .inl (o_ia 248)),
  (248, .inl (o_al 0 249)),
  (249, .inl (o_get 8 6 252)),
  (252, .inl (o_il 1 253)),
  (253, .inl (o_ia 254)),
  (254, .inl (o_push (.int 64) 256)),
  (256, .inl (o_bin (fun x y => x + y) 257)),
  (257, .inl (o_bin (fun x y => x * y) 258)),
  (258, .inl (o_ias 259)),
  (259, .inl (o_al 0 260)),
  (260, .inl (o_get 8 13 263)),
  (263, .inl (o_push (.int 8) 265)),
  (265, .inl (o_il 1 266)),
  (266, .inl (o_bin (fun x y => x + y) 267)),
  (267, .inl (o_al 0 268)),
  (268, .inl (o_get 8 13 271)),
  (271, .inl (o_il 1 272)),
  (272, .inl (o_ia 273)),
  (273, .inl (o_ias 274)),
  (274, .inr (.inl none))]
theorem te_97 : ∀ q ∈ tb_97, ae_E am "TwinNetworkModel" "link" prog_10_method_9_code 10 (Option.none : Option Jvm.ClassFile.FieldType) [] q := by
  unfold tb_97
  refine List.forall_mem_cons.mpr ⟨ae_mk pu_il (fun X => ok_iload X (by decide +kernel)), ?_⟩
  refine List.forall_mem_cons.mpr ⟨ae_mk (pu_push (fun _ => trivial)) (fun X => ok_iconst X (n := 2) (by decide) (by decide +kernel)), ?_⟩
  refine List.forall_mem_cons.mpr ⟨ae_mk pu_bin (fun X => ok_ishr X (by decide +kernel)), ?_⟩
  refine List.forall_mem_cons.mpr ⟨ae_mk pu_is (fun X => ok_istore X (by decide +kernel)), ?_⟩
  refine List.forall_mem_cons.mpr ⟨ae_mk pu_il (fun X => ok_iload_n X (k := 1) rfl (by decide +kernel)), ?_⟩
  refine List.forall_mem_cons.mpr ⟨ae_mk pu_if (fun X => ok_if_lt X (off := 84) (by decide) (by decide +kernel)), ?_⟩
  refine List.forall_mem_cons.mpr ⟨ae_mk pu_il (fun X => ok_iload_n X (k := 1) rfl (by decide +kernel)), ?_⟩
  refine List.forall_mem_cons.mpr ⟨ae_mk (pu_push (fun _ => trivial)) (fun X => ok_bipush X (n := 8) (by decide) (by decide +kernel)), ?_⟩
  refine List.forall_mem_cons.mpr ⟨ae_mk pu_ic (fun X => ok_ic_ge X (off := 78) (by decide) (by decide +kernel)), ?_⟩
  refine List.forall_mem_cons.mpr ⟨ae_mk pu_il (fun X => ok_iload_n X (k := 2) rfl (by decide +kernel)), ?_⟩
  refine List.forall_mem_cons.mpr ⟨ae_mk pu_if (fun X => ok_if_lt X (off := 74) (by decide) (by decide +kernel)), ?_⟩
  refine List.forall_mem_cons.mpr ⟨ae_mk pu_il (fun X => ok_iload_n X (k := 2) rfl (by decide +kernel)), ?_⟩
  refine List.forall_mem_cons.mpr ⟨ae_mk (pu_push (fun _ => trivial)) (fun X => ok_iconst X (n := 4) (by decide) (by decide +kernel)), ?_⟩
  refine List.forall_mem_cons.mpr ⟨ae_mk pu_ic (fun X => ok_ic_ge X (off := 69) (by decide) (by decide +kernel)), ?_⟩
  refine List.forall_mem_cons.mpr ⟨ae_mk pu_il (fun X => ok_iload_n X (k := 3) rfl (by decide +kernel)), ?_⟩
  refine List.forall_mem_cons.mpr ⟨ae_mk (pu_push (fun _ => trivial)) (fun X => ok_iconst X (n := 4) (by decide) (by decide +kernel)), ?_⟩
  refine List.forall_mem_cons.mpr ⟨ae_mk pu_ic (fun X => ok_ic_lt X (off := 64) (by decide) (by decide +kernel)), ?_⟩
  refine List.forall_mem_cons.mpr ⟨ae_mk pu_il (fun X => ok_iload_n X (k := 3) rfl (by decide +kernel)), ?_⟩
  refine List.forall_mem_cons.mpr ⟨ae_mk (pu_push (fun _ => trivial)) (fun X => ok_bipush X (n := 9) (by decide) (by decide +kernel)), ?_⟩
  refine List.forall_mem_cons.mpr ⟨ae_mk pu_ic (fun X => ok_ic_gt X (off := 58) (by decide) (by decide +kernel)), ?_⟩
  refine List.forall_mem_cons.mpr ⟨ae_mk pu_il (fun X => ok_iload X (by decide +kernel)), ?_⟩
  refine List.forall_mem_cons.mpr ⟨ae_mk (pu_push (fun _ => trivial)) (fun X => ok_bipush X (n := 64) (by decide) (by decide +kernel)), ?_⟩
  refine List.forall_mem_cons.mpr ⟨ae_mk pu_ic (fun X => ok_ic_lt X (off := 51) (by decide) (by decide +kernel)), ?_⟩
  refine List.forall_mem_cons.mpr ⟨ae_mk pu_il (fun X => ok_iload X (by decide +kernel)), ?_⟩
  refine List.forall_mem_cons.mpr ⟨ae_mk (pu_push (fun _ => trivial)) (fun X => ok_sipush X (n := 128) (by decide) (by decide +kernel)), ?_⟩
  refine List.forall_mem_cons.mpr ⟨ae_mk pu_ic (fun X => ok_ic_gt X (off := 43) (by decide) (by decide +kernel)), ?_⟩
  refine List.forall_mem_cons.mpr ⟨ae_mk pu_il (fun X => ok_iload X (by decide +kernel)), ?_⟩
  refine List.forall_mem_cons.mpr ⟨ae_mk (pu_push (fun _ => trivial)) (fun X => ok_iconst X (n := 1) (by decide) (by decide +kernel)), ?_⟩
  refine List.forall_mem_cons.mpr ⟨ae_mk pu_ic (fun X => ok_ic_lt X (off := 37) (by decide) (by decide +kernel)), ?_⟩
  refine List.forall_mem_cons.mpr ⟨ae_mk pu_il (fun X => ok_iload X (by decide +kernel)), ?_⟩
  refine List.forall_mem_cons.mpr ⟨ae_mk (pu_push (fun _ => trivial)) (fun X => ok_bipush X (n := 15) (by decide) (by decide +kernel)), ?_⟩
  refine List.forall_mem_cons.mpr ⟨ae_mk pu_ic (fun X => ok_ic_gt X (off := 30) (by decide) (by decide +kernel)), ?_⟩
  refine List.forall_mem_cons.mpr ⟨ae_mk pu_il (fun X => ok_iload X (by decide +kernel)), ?_⟩
  refine List.forall_mem_cons.mpr ⟨ae_mk pu_il (fun X => ok_iload_n X (k := 2) rfl (by decide +kernel)), ?_⟩
  refine List.forall_mem_cons.mpr ⟨ae_mk pu_bin (fun X => ok_ishr X (by decide +kernel)), ?_⟩
  refine List.forall_mem_cons.mpr ⟨ae_mk (pu_push (fun _ => trivial)) (fun X => ok_iconst X (n := 1) (by decide) (by decide +kernel)), ?_⟩
  refine List.forall_mem_cons.mpr ⟨ae_mk pu_bin (fun X => ok_iand X (by decide +kernel)), ?_⟩
  refine List.forall_mem_cons.mpr ⟨ae_mk pu_if (fun X => ok_if_ne X (off := 21) (by decide) (by decide +kernel)), ?_⟩
  refine List.forall_mem_cons.mpr ⟨ae_mk pu_il (fun X => ok_iload X (by decide +kernel)), ?_⟩
  refine List.forall_mem_cons.mpr ⟨ae_mk (pu_push (fun _ => trivial)) (fun X => ok_iconst X (n := 1) (by decide) (by decide +kernel)), ?_⟩
  refine List.forall_mem_cons.mpr ⟨ae_mk pu_ic (fun X => ok_ic_lt X (off := 15) (by decide) (by decide +kernel)), ?_⟩
  refine List.forall_mem_cons.mpr ⟨ae_mk pu_il (fun X => ok_iload X (by decide +kernel)), ?_⟩
  refine List.forall_mem_cons.mpr ⟨ae_mk (pu_push (fun _ => trivial)) (fun X => ok_sipush X (n := 1000) (by decide) (by decide +kernel)), ?_⟩
  refine List.forall_mem_cons.mpr ⟨ae_mk pu_ic (fun X => ok_ic_gt X (off := 7) (by decide) (by decide +kernel)), ?_⟩
  refine List.forall_mem_cons.mpr ⟨ae_mk (pu_push (fun _ => trivial)) (fun X => ok_iconst X (n := 1) (by decide) (by decide +kernel)), ?_⟩
  refine List.forall_mem_cons.mpr ⟨ae_mk pu_goto (fun X => ok_goto X (off := 4) (by decide) (by decide +kernel)), ?_⟩
  refine List.forall_mem_cons.mpr ⟨ae_mk (pu_push (fun _ => trivial)) (fun X => ok_iconst X (n := 0) (by decide) (by decide +kernel)), ?_⟩
  refine List.forall_mem_cons.mpr ⟨ae_mk pu_is (fun X => ok_istore X (by decide +kernel)), ?_⟩
  refine List.forall_mem_cons.mpr ⟨ae_mk pu_al (fun X => ok_aload_n X (k := 0) rfl (by decide +kernel)), ?_⟩
  refine List.forall_mem_cons.mpr ⟨ae_mk pu_il (fun X => ok_iload X (by decide +kernel)), ?_⟩
  refine List.forall_mem_cons.mpr ⟨ae_mk pu_if (fun X => ok_if_ne X (off := 7) (by decide) (by decide +kernel)), ?_⟩
  refine List.forall_mem_cons.mpr ⟨ae_mk (pu_push (fun _ => trivial)) (fun X => ok_iconst X (n := 1) (by decide) (by decide +kernel)), ?_⟩
  refine List.forall_mem_cons.mpr ⟨ae_mk pu_goto (fun X => ok_goto X (off := 17) (by decide) (by decide +kernel)), ?_⟩
  refine List.forall_mem_cons.mpr ⟨ae_mk pu_al (fun X => ok_aload_n X (k := 0) rfl (by decide +kernel)), ?_⟩
  refine List.forall_mem_cons.mpr ⟨ae_mk pu_get (fun X => ok_get X (ci := 8) (kk := 2) (index := 7) rfl aw_c_Model (by decide) wd_778 (by decide +kernel)), ?_⟩
  refine List.forall_mem_cons.mpr ⟨ae_mk pu_il (fun X => ok_iload_n X (k := 1) rfl (by decide +kernel)), ?_⟩
  refine List.forall_mem_cons.mpr ⟨ae_mk pu_ba (fun X => ok_ba X (by decide +kernel)), ?_⟩
  refine List.forall_mem_cons.mpr ⟨ae_mk pu_if (fun X => ok_if_eq X (off := 7) (by decide) (by decide +kernel)), ?_⟩
  refine List.forall_mem_cons.mpr ⟨ae_mk (pu_push (fun _ => trivial)) (fun X => ok_iconst X (n := 2) (by decide) (by decide +kernel)), ?_⟩
  refine List.forall_mem_cons.mpr ⟨ae_mk pu_goto (fun X => ok_goto X (off := 4) (by decide) (by decide +kernel)), ?_⟩
  refine List.forall_mem_cons.mpr ⟨ae_mk (pu_push (fun _ => trivial)) (fun X => ok_iconst X (n := 0) (by decide) (by decide +kernel)), ?_⟩
  refine List.forall_mem_cons.mpr ⟨ae_mk pu_put (fun X => ok_put X (ci := 8) (kk := 0) (index := 127) rfl aw_c_Model (by decide) wd_776 cy_Model cn_Model_ty cn_Model_nm rfl hk_int rfl (by decide +kernel)), ?_⟩
  refine List.forall_mem_cons.mpr ⟨ae_mk pu_al (fun X => ok_aload_n X (k := 0) rfl (by decide +kernel)), ?_⟩
  refine List.forall_mem_cons.mpr ⟨ae_mk pu_get (fun X => ok_get X (ci := 8) (kk := 0) (index := 127) rfl aw_c_Model (by decide) wd_776 (by decide +kernel)), ?_⟩
  refine List.forall_mem_cons.mpr ⟨ae_mk pu_if (fun X => ok_if_le X (off := 4) (by decide) (by decide +kernel)), ?_⟩
  refine List.forall_mem_cons.mpr ⟨⟨rfl, (by decide +kernel)⟩, ?_⟩
  refine List.forall_mem_cons.mpr ⟨ae_mk pu_al (fun X => ok_aload_n X (k := 0) rfl (by decide +kernel)), ?_⟩
  refine List.forall_mem_cons.mpr ⟨ae_mk pu_get (fun X => ok_get X (ci := 8) (kk := 2) (index := 7) rfl aw_c_Model (by decide) wd_778 (by decide +kernel)), ?_⟩
  refine List.forall_mem_cons.mpr ⟨ae_mk pu_il (fun X => ok_iload_n X (k := 1) rfl (by decide +kernel)), ?_⟩
  refine List.forall_mem_cons.mpr ⟨ae_mk (pu_push (fun _ => trivial)) (fun X => ok_iconst X (n := 1) (by decide) (by decide +kernel)), ?_⟩
  refine List.forall_mem_cons.mpr ⟨ae_mk pu_bas (fun X => ok_bas X (by decide +kernel)), ?_⟩
  refine List.forall_mem_cons.mpr ⟨ae_mk pu_al (fun X => ok_aload_n X (k := 0) rfl (by decide +kernel)), ?_⟩
  refine List.forall_mem_cons.mpr ⟨ae_mk pu_get (fun X => ok_get X (ci := 8) (kk := 5) (index := 19) rfl aw_c_Model (by decide) wd_781 (by decide +kernel)), ?_⟩
  refine List.forall_mem_cons.mpr ⟨ae_mk pu_il (fun X => ok_iload_n X (k := 1) rfl (by decide +kernel)), ?_⟩
  refine List.forall_mem_cons.mpr ⟨ae_mk pu_il (fun X => ok_iload_n X (k := 2) rfl (by decide +kernel)), ?_⟩
  refine List.forall_mem_cons.mpr ⟨ae_mk pu_ias (fun X => ok_ias X (by decide +kernel)), ?_⟩
  refine List.forall_mem_cons.mpr ⟨ae_mk pu_al (fun X => ok_aload_n X (k := 0) rfl (by decide +kernel)), ?_⟩
  refine List.forall_mem_cons.mpr ⟨ae_mk pu_get (fun X => ok_get X (ci := 8) (kk := 6) (index := 23) rfl aw_c_Model (by decide) wd_782 (by decide +kernel)), ?_⟩
  refine List.forall_mem_cons.mpr ⟨ae_mk pu_il (fun X => ok_iload_n X (k := 1) rfl (by decide +kernel)), ?_⟩
  refine List.forall_mem_cons.mpr ⟨ae_mk (pu_push (fun _ => trivial)) (fun X => ok_iconst X (n := 1) (by decide) (by decide +kernel)), ?_⟩
  refine List.forall_mem_cons.mpr ⟨ae_mk pu_ias (fun X => ok_ias X (by decide +kernel)), ?_⟩
  refine List.forall_mem_cons.mpr ⟨ae_mk (pu_push (fun _ => trivial)) (fun X => ok_iconst X (n := 0) (by decide) (by decide +kernel)), ?_⟩
  refine List.forall_mem_cons.mpr ⟨ae_mk pu_is (fun X => ok_istore X (by decide +kernel)), ?_⟩
  refine List.forall_mem_cons.mpr ⟨ae_mk pu_il (fun X => ok_iload X (by decide +kernel)), ?_⟩
  refine List.forall_mem_cons.mpr ⟨ae_mk pu_il (fun X => ok_iload_n X (k := 3) rfl (by decide +kernel)), ?_⟩
  refine List.forall_mem_cons.mpr ⟨ae_mk pu_ic (fun X => ok_ic_ge X (off := 19) (by decide) (by decide +kernel)), ?_⟩
  refine List.forall_mem_cons.mpr ⟨ae_mk pu_al (fun X => ok_aload_n X (k := 0) rfl (by decide +kernel)), ?_⟩
  refine List.forall_mem_cons.mpr ⟨ae_mk pu_get (fun X => ok_get X (ci := 8) (kk := 6) (index := 23) rfl aw_c_Model (by decide) wd_782 (by decide +kernel)), ?_⟩
  refine List.forall_mem_cons.mpr ⟨ae_mk pu_il (fun X => ok_iload_n X (k := 1) rfl (by decide +kernel)), ?_⟩
  refine List.forall_mem_cons.mpr ⟨ae_mk pu_dup2 (fun X => ok_dup2 X (by decide +kernel)), ?_⟩
  refine List.forall_mem_cons.mpr ⟨ae_mk pu_ia (fun X => ok_ia X (by decide +kernel)), ?_⟩
  refine List.forall_mem_cons.mpr ⟨ae_mk (pu_push (fun _ => trivial)) (fun X => ok_iconst X (n := 2) (by decide) (by decide +kernel)), ?_⟩
  refine List.forall_mem_cons.mpr ⟨ae_mk pu_bin (fun X => ok_imul X (by decide +kernel)), ?_⟩
  refine List.forall_mem_cons.mpr ⟨ae_mk pu_ias (fun X => ok_ias X (by decide +kernel)), ?_⟩
  refine List.forall_mem_cons.mpr ⟨ae_mk pu_inc (fun X => ok_iinc X (n := 1) (by decide) (by decide +kernel)), ?_⟩
  refine List.forall_mem_cons.mpr ⟨ae_mk pu_goto (fun X => ok_goto X (off := (-19)) (by decide) (by decide +kernel)), ?_⟩
  refine List.forall_mem_cons.mpr ⟨ae_mk pu_al (fun X => ok_aload_n X (k := 0) rfl (by decide +kernel)), ?_⟩
  refine List.forall_mem_cons.mpr ⟨ae_mk pu_get (fun X => ok_get X (ci := 8) (kk := 7) (index := 26) rfl aw_c_Model (by decide) wd_783 (by decide +kernel)), ?_⟩
  refine List.forall_mem_cons.mpr ⟨ae_mk pu_il (fun X => ok_iload_n X (k := 1) rfl (by decide +kernel)), ?_⟩
  refine List.forall_mem_cons.mpr ⟨ae_mk pu_il (fun X => ok_iload X (by decide +kernel)), ?_⟩
  refine List.forall_mem_cons.mpr ⟨ae_mk pu_ias (fun X => ok_ias X (by decide +kernel)), ?_⟩
  refine List.forall_mem_cons.mpr ⟨ae_mk pu_al (fun X => ok_aload_n X (k := 0) rfl (by decide +kernel)), ?_⟩
  refine List.forall_mem_cons.mpr ⟨ae_mk pu_get (fun X => ok_get X (ci := 8) (kk := 8) (index := 29) rfl aw_c_Model (by decide) wd_784 (by decide +kernel)), ?_⟩
  refine List.forall_mem_cons.mpr ⟨ae_mk pu_il (fun X => ok_iload_n X (k := 1) rfl (by decide +kernel)), ?_⟩
  refine List.forall_mem_cons.mpr ⟨ae_mk pu_il (fun X => ok_iload X (by decide +kernel)), ?_⟩
  refine List.forall_mem_cons.mpr ⟨ae_mk pu_ias (fun X => ok_ias X (by decide +kernel)), ?_⟩
  refine List.forall_mem_cons.mpr ⟨ae_mk pu_al (fun X => ok_aload_n X (k := 0) rfl (by decide +kernel)), ?_⟩
  refine List.forall_mem_cons.mpr ⟨ae_mk pu_get (fun X => ok_get X (ci := 8) (kk := 9) (index := 32) rfl aw_c_Model (by decide) wd_785 (by decide +kernel)), ?_⟩
  refine List.forall_mem_cons.mpr ⟨ae_mk pu_il (fun X => ok_iload_n X (k := 1) rfl (by decide +kernel)), ?_⟩
  refine List.forall_mem_cons.mpr ⟨ae_mk pu_il (fun X => ok_iload X (by decide +kernel)), ?_⟩
  refine List.forall_mem_cons.mpr ⟨ae_mk pu_ias (fun X => ok_ias X (by decide +kernel)), ?_⟩
  refine List.forall_mem_cons.mpr ⟨ae_mk pu_al (fun X => ok_aload_n X (k := 0) rfl (by decide +kernel)), ?_⟩
  refine List.forall_mem_cons.mpr ⟨ae_mk pu_get (fun X => ok_get X (ci := 8) (kk := 3) (index := 13) rfl aw_c_Model (by decide) wd_779 (by decide +kernel)), ?_⟩
  refine List.forall_mem_cons.mpr ⟨ae_mk pu_il (fun X => ok_iload_n X (k := 1) rfl (by decide +kernel)), ?_⟩
  refine List.forall_mem_cons.mpr ⟨ae_mk pu_il (fun X => ok_iload X (by decide +kernel)), ?_⟩
  refine List.forall_mem_cons.mpr ⟨ae_mk (pu_push (fun _ => trivial)) (fun X => ok_iconst X (n := 2) (by decide) (by decide +kernel)), ?_⟩
  refine List.forall_mem_cons.mpr ⟨ae_mk pu_dv (fun X => ok_irem X (by decide +kernel)), ?_⟩
  refine List.forall_mem_cons.mpr ⟨ae_mk pu_if (fun X => ok_if_eq X (off := 7) (by decide) (by decide +kernel)), ?_⟩
  refine List.forall_mem_cons.mpr ⟨ae_mk (pu_push (fun _ => trivial)) (fun X => ok_iconst X (n := 1) (by decide) (by decide +kernel)), ?_⟩
  refine List.forall_mem_cons.mpr ⟨ae_mk pu_goto (fun X => ok_goto X (off := 4) (by decide) (by decide +kernel)), ?_⟩
  refine List.forall_mem_cons.mpr ⟨ae_mk (pu_push (fun _ => trivial)) (fun X => ok_iconst X (n := 0) (by decide) (by decide +kernel)), ?_⟩
  refine List.forall_mem_cons.mpr ⟨ae_mk pu_bas (fun X => ok_bas X (by decide +kernel)), ?_⟩
  refine List.forall_mem_cons.mpr ⟨ae_mk pu_al (fun X => ok_aload_n X (k := 0) rfl (by decide +kernel)), ?_⟩
  refine List.forall_mem_cons.mpr ⟨ae_mk pu_get (fun X => ok_get X (ci := 8) (kk := 4) (index := 16) rfl aw_c_Model (by decide) wd_780 (by decide +kernel)), ?_⟩
  refine List.forall_mem_cons.mpr ⟨ae_mk pu_il (fun X => ok_iload_n X (k := 1) rfl (by decide +kernel)), ?_⟩
  refine List.forall_mem_cons.mpr ⟨ae_mk pu_il (fun X => ok_iload X (by decide +kernel)), ?_⟩
  refine List.forall_mem_cons.mpr ⟨ae_mk (pu_push (fun _ => trivial)) (fun X => ok_iconst X (n := 2) (by decide) (by decide +kernel)), ?_⟩
  refine List.forall_mem_cons.mpr ⟨ae_mk pu_dv (fun X => ok_idiv X (by decide +kernel)), ?_⟩
  refine List.forall_mem_cons.mpr ⟨ae_mk (pu_push (fun _ => trivial)) (fun X => ok_iconst X (n := 2) (by decide) (by decide +kernel)), ?_⟩
  refine List.forall_mem_cons.mpr ⟨ae_mk pu_dv (fun X => ok_irem X (by decide +kernel)), ?_⟩
  refine List.forall_mem_cons.mpr ⟨ae_mk pu_if (fun X => ok_if_eq X (off := 7) (by decide) (by decide +kernel)), ?_⟩
  refine List.forall_mem_cons.mpr ⟨ae_mk (pu_push (fun _ => trivial)) (fun X => ok_iconst X (n := 1) (by decide) (by decide +kernel)), ?_⟩
  refine List.forall_mem_cons.mpr ⟨ae_mk pu_goto (fun X => ok_goto X (off := 4) (by decide) (by decide +kernel)), ?_⟩
  refine List.forall_mem_cons.mpr ⟨ae_mk (pu_push (fun _ => trivial)) (fun X => ok_iconst X (n := 0) (by decide) (by decide +kernel)), ?_⟩
  refine List.forall_mem_cons.mpr ⟨ae_mk pu_bas (fun X => ok_bas X (by decide +kernel)), ?_⟩
  refine List.forall_mem_cons.mpr ⟨ae_mk pu_al (fun X => ok_aload_n X (k := 0) rfl (by decide +kernel)), ?_⟩
  refine List.forall_mem_cons.mpr ⟨ae_mk pu_get (fun X => ok_get X (ci := 8) (kk := 13) (index := 44) rfl aw_c_Model (by decide) wd_789 (by decide +kernel)), ?_⟩
  refine List.forall_mem_cons.mpr ⟨ae_mk pu_il (fun X => ok_iload_n X (k := 1) rfl (by decide +kernel)), ?_⟩
  refine List.forall_mem_cons.mpr ⟨ae_mk pu_al (fun X => ok_aload_n X (k := 0) rfl (by decide +kernel)), ?_⟩
  refine List.forall_mem_cons.mpr ⟨ae_mk pu_get (fun X => ok_get X (ci := 8) (kk := 7) (index := 26) rfl aw_c_Model (by decide) wd_783 (by decide +kernel)), ?_⟩
  refine List.forall_mem_cons.mpr ⟨ae_mk pu_il (fun X => ok_iload_n X (k := 1) rfl (by decide +kernel)), ?_⟩
  refine List.forall_mem_cons.mpr ⟨ae_mk pu_ia (fun X => ok_ia X (by decide +kernel)), ?_⟩
  refine List.forall_mem_cons.mpr ⟨ae_mk pu_al (fun X => ok_aload_n X (k := 0) rfl (by decide +kernel)), ?_⟩
  refine List.forall_mem_cons.mpr ⟨ae_mk pu_get (fun X => ok_get X (ci := 8) (kk := 6) (index := 23) rfl aw_c_Model (by decide) wd_782 (by decide +kernel)), ?_⟩
  refine List.forall_mem_cons.mpr ⟨ae_mk pu_il (fun X => ok_iload_n X (k := 1) rfl (by decide +kernel)), ?_⟩
  refine List.forall_mem_cons.mpr ⟨ae_mk pu_ia (fun X => ok_ia X (by decide +kernel)), ?_⟩
  refine List.forall_mem_cons.mpr ⟨ae_mk (pu_push (fun _ => trivial)) (fun X => ok_bipush X (n := 64) (by decide) (by decide +kernel)), ?_⟩
  refine List.forall_mem_cons.mpr ⟨ae_mk pu_bin (fun X => ok_iadd X (by decide +kernel)), ?_⟩
  refine List.forall_mem_cons.mpr ⟨ae_mk pu_bin (fun X => ok_imul X (by decide +kernel)), ?_⟩
  refine List.forall_mem_cons.mpr ⟨ae_mk pu_ias (fun X => ok_ias X (by decide +kernel)), ?_⟩
  refine List.forall_mem_cons.mpr ⟨ae_mk pu_al (fun X => ok_aload_n X (k := 0) rfl (by decide +kernel)), ?_⟩
  refine List.forall_mem_cons.mpr ⟨ae_mk pu_get (fun X => ok_get X (ci := 8) (kk := 13) (index := 44) rfl aw_c_Model (by decide) wd_789 (by decide +kernel)), ?_⟩
  refine List.forall_mem_cons.mpr ⟨ae_mk (pu_push (fun _ => trivial)) (fun X => ok_bipush X (n := 8) (by decide) (by decide +kernel)), ?_⟩
  refine List.forall_mem_cons.mpr ⟨ae_mk pu_il (fun X => ok_iload_n X (k := 1) rfl (by decide +kernel)), ?_⟩
  refine List.forall_mem_cons.mpr ⟨ae_mk pu_bin (fun X => ok_iadd X (by decide +kernel)), ?_⟩
  refine List.forall_mem_cons.mpr ⟨ae_mk pu_al (fun X => ok_aload_n X (k := 0) rfl (by decide +kernel)), ?_⟩
  refine List.forall_mem_cons.mpr ⟨ae_mk pu_get (fun X => ok_get X (ci := 8) (kk := 13) (index := 44) rfl aw_c_Model (by decide) wd_789 (by decide +kernel)), ?_⟩
  refine List.forall_mem_cons.mpr ⟨ae_mk pu_il (fun X => ok_iload_n X (k := 1) rfl (by decide +kernel)), ?_⟩
  refine List.forall_mem_cons.mpr ⟨ae_mk pu_ia (fun X => ok_ia X (by decide +kernel)), ?_⟩
  refine List.forall_mem_cons.mpr ⟨ae_mk pu_ias (fun X => ok_ias X (by decide +kernel)), ?_⟩
  refine List.forall_mem_cons.mpr ⟨⟨rfl, (by decide +kernel)⟩, ?_⟩
  exact fun _ h => absurd h List.not_mem_nil
def tb_98 : List (Nat × ae_I) := [(0, .inl (o_al 0 1)),
  (1, .inl (o_il 1 2)),
  (2, .inr (.inr (.inl (99, 2, 5, some 8, [])))),
  (5, .inl (o_if (fun x => decide (x = 0)) 24 8)),
  (8, .inl (o_il 2 9)),
  (9, .inl (o_push (.int 1) 10)),
  (10, .inl (o_ic (fun x y => decide (x < y)) 24 13)),
  (13, .inl (o_il 2 14)),
  (14, .inl (o_push (.int 400) 17)),
  (17, .inl (o_ic (fun x y => decide (y < x)) 24 20)),
  (20, .inl (o_push (.int 1) 21)),
  (21, .inl (o_goto 25)),
  (24, .inl (o_push (.int 0) 25)),
  (25, .inl (o_is 4 27)),
  (27, .inl (o_push (.int 0) 28)),
  (28, .inl (o_is 5 30)),
  (30, .inl (o_push (.int 0) 31)),
  (31, .inl (o_is 6 33)),
  (33, .inl (o_il 4 35)),
  (35, .inl (o_if (fun x => decide (x = 0)) 63 38)),
  (38, .inl (o_il 6 40)),
  (40, .inl (o_il 2 41)),
  (41, .inl (o_push (.int 8) 43)),
  (43, .inl (o_bin (fun x y => x + y) 44)),
  (44, .inl (o_ic (fun x y => decide (y ≤ x)) 63 47)),
  (47, .inl (o_inc 5 1 50)),
  (50, .inl (o_il 6 52)),
  (52, .inl (o_al 0 53)),
  (53, .inl (o_il 1 54)),
  (54, .inr (.inr (.inl (100, 2, 57, some 8, [])))),
  (57, .inl (o_bin (fun x y => x + y) 58)),
  (58, .inl (o_is 6 60)),
  (60, .inl (o_goto 33)),
  (63, .inl (o_al 0 64)),
  (64, .inl (o_il 4 66)),
  (66, .inl (o_if (fun x => decide (x = 0)) 89 69)),
  (69, .inl (o_il 5 71)),
  (71, .inl (o_al 0 72)),
  (72, .inl (o_get 8 4 75)),
  (75, .inl (o_il 1 76)),
  (76, .inl (o_ba 77)),
  (77, .inl (o_if (fun x => decide (x = 0)) 85 80)),
  (80, .inl (o_push (.int 8) 82)),
  (82, .inl (o_goto 86)),
  (85, .inl (o_push (.int 1) 86)),
  (86, .inl (o_ic (fun x y => decide (x ≤ y)) 93 89)),
  (89, .inl (o_push (.int 1) 90)),
  (90, .inl (o_goto 112)),
  (93, .inl (o_al 0 94)),
  (94, .inl (o_get 8 14 97)),
  (97, .inl (o_il 1 98)),
  (98, .inl (o_ia 99)),
  (99, .inl (o_il 5 101)),
  (101, .inl (o_bin (fun x y => x + y) 102)),
  (102, .inl (o_push (.int 8) 104)),
  (104, .inl (o_ic (fun x y => decide (x ≤ y)) 111 107)),
  (107, .inl (o_push (.int 2) 108)),
  (108, .inl (o_goto 112)),
  (111, .inl (o_push (.int 0) 112)),
  (112, .inl (o_put 8 0 k_int 115)),
  (115, .inl (o_al 0 116)),
  (116, .inl (o_get 8 0 119)),
  (119, .inl (o_if (fun x => decide (x ≤ 0)) 124 122)),
  (122, .inl (o_push (.int 0) 123)),
  (123, .inr (.inl (some k_int))),
  (124, .inl (o_push (.int 0) 125)),
  (125, .inl (o_is 6 127)),
  (127, .inl (o_il 6 129)),
  (129, .inl (o_il 5 131)),
  (131, .inl (o_ic (fun x y => decide (y ≤ x)) 207 134)),
  (134, .inl (o_push (.int 8) 136)),
  (136, .inl (o_il 1 137)),
  (137, .inl (o_bin (fun x y => x * y) 138)),
  (138, .inl (o_al 0 139)),
  (139, .inl (o_get 8 14 142)),
  (142, .inl (o_il 1 143)),
  (143, .inl (o_ia 144)),
  (144, .inl (o_bin (fun x y => x + y) 145)),
  (145, .inl (o_is 7 147)),
  (147, .inl (o_al 0 148)),
  (148, .inl (o_get 8 15 151)),
  (151, .inl (o_il 7 153)),
  (153, .inl (o_il 2 154)),
  (154, .inl (o_ias 155)),
  (155, .inl (o_al 0 156)),
  (156, .inl (o_get 8 16 159)),
  (159, .inl (o_il 7 161)),
  (161, .inl (o_il 3 162)),
  (162, .inl (o_ias 163)),
  (163, .inl (o_al 0 164)),
  (164, .inl (o_get 8 17 167)),
  (167, .inl (o_il 7 169)),
  (169, .inl (o_al 0 170)),
  (170, .inl (o_get 8 11 173)),
  (173, .inl (o_il 1 174)),
  (174, .inl (o_ia 175)),
  (175, .inl (o_ias 176)),
  (176, .inl (o_al 0 177)),
  (177, .inl (o_get 8 18 180)),
  (180, .inl (o_il 7 182)),
  (182, .inl (o_il 6 184)),
  (184, .inl (o_al 0 185)),
  (185, .inl (o_il 1 186)),
  (186, .inr (.inr (.inl (100, 2, 189, some 8, [])))),
  (189, .inl (o_bin (fun x y => x * y) 190)),
  (190, .inl (o_ias 191)),
  (191, .inl (o_al 0 192)),
  (192, .inl (o_get 8 14 195)),
  (195, .inl (o_il 1 196)),
  (196, .inl (o_dup2 197)),
  (197, .inl (o_ia 198)),
  (198, .inl (o_push (.int 1) 199)),
  (199, .inl (o_bin (fun x y => x + y) 200)),
  (200, .inl (o_ias 201)),
  (201, .inl (o_inc 6 1 204)),
  (204, .inl (o_goto 127)),
  (207, .inl (o_al 0 208)),
  (208, .inl (o_get 8 11 211)),
  (211, .inl (o_il 1 212)),
  (212, .inl (o_al 0 213)),
  (213, .inl (o_get 8 11 216)),
  (216, .inl (o_il 1 217)),
  (217, .inl (o_ia 218)),
  (218, .inl (o_push (.int 1) 219)),
  (219, .inl (o_bin (fun x y => x + y) 220)),
  (220, .inl (o_push (.int (65536 : Int32)) 222)),
  (222, .inl (o_dv (fun x y => x - x / y * y) 223)),
  (223, .inl (o_ias 224)),
  (224, .inl (o_il 5 226)),
  (226, .inr (.inl (some k_int)))]
theorem te_98 : ∀ q ∈ tb_98, ae_E am "TwinNetworkModel" "write" prog_10_method_11_code 8 (Option.some Jvm.ClassFile.FieldType.int) [] q := by
  unfold tb_98
  refine List.forall_mem_cons.mpr ⟨ae_mk pu_al (fun X => ok_aload_n X (k := 0) rfl (by decide +kernel)), ?_⟩
  refine List.forall_mem_cons.mpr ⟨ae_mk pu_il (fun X => ok_iload_n X (k := 1) rfl (by decide +kernel)), ?_⟩
  refine List.forall_mem_cons.mpr ⟨ae_mkc (fun X => ok_callV X (mid := 99) (index := 142) (y := my_99) rfl (by decide) ⟨by decide, by decide⟩ (n := 1) (by decide +kernel) wd_912 wd_51 wd_909 wd_911 wd_20 (ci := 8) rfl (by decide +kernel)), ?_⟩
  refine List.forall_mem_cons.mpr ⟨ae_mk pu_if (fun X => ok_if_eq X (off := 19) (by decide) (by decide +kernel)), ?_⟩
  refine List.forall_mem_cons.mpr ⟨ae_mk pu_il (fun X => ok_iload_n X (k := 2) rfl (by decide +kernel)), ?_⟩
  refine List.forall_mem_cons.mpr ⟨ae_mk (pu_push (fun _ => trivial)) (fun X => ok_iconst X (n := 1) (by decide) (by decide +kernel)), ?_⟩
  refine List.forall_mem_cons.mpr ⟨ae_mk pu_ic (fun X => ok_ic_lt X (off := 14) (by decide) (by decide +kernel)), ?_⟩
  refine List.forall_mem_cons.mpr ⟨ae_mk pu_il (fun X => ok_iload_n X (k := 2) rfl (by decide +kernel)), ?_⟩
  refine List.forall_mem_cons.mpr ⟨ae_mk (pu_push (fun _ => trivial)) (fun X => ok_sipush X (n := 400) (by decide) (by decide +kernel)), ?_⟩
  refine List.forall_mem_cons.mpr ⟨ae_mk pu_ic (fun X => ok_ic_gt X (off := 7) (by decide) (by decide +kernel)), ?_⟩
  refine List.forall_mem_cons.mpr ⟨ae_mk (pu_push (fun _ => trivial)) (fun X => ok_iconst X (n := 1) (by decide) (by decide +kernel)), ?_⟩
  refine List.forall_mem_cons.mpr ⟨ae_mk pu_goto (fun X => ok_goto X (off := 4) (by decide) (by decide +kernel)), ?_⟩
  refine List.forall_mem_cons.mpr ⟨ae_mk (pu_push (fun _ => trivial)) (fun X => ok_iconst X (n := 0) (by decide) (by decide +kernel)), ?_⟩
  refine List.forall_mem_cons.mpr ⟨ae_mk pu_is (fun X => ok_istore X (by decide +kernel)), ?_⟩
  refine List.forall_mem_cons.mpr ⟨ae_mk (pu_push (fun _ => trivial)) (fun X => ok_iconst X (n := 0) (by decide) (by decide +kernel)), ?_⟩
  refine List.forall_mem_cons.mpr ⟨ae_mk pu_is (fun X => ok_istore X (by decide +kernel)), ?_⟩
  refine List.forall_mem_cons.mpr ⟨ae_mk (pu_push (fun _ => trivial)) (fun X => ok_iconst X (n := 0) (by decide) (by decide +kernel)), ?_⟩
  refine List.forall_mem_cons.mpr ⟨ae_mk pu_is (fun X => ok_istore X (by decide +kernel)), ?_⟩
  refine List.forall_mem_cons.mpr ⟨ae_mk pu_il (fun X => ok_iload X (by decide +kernel)), ?_⟩
  refine List.forall_mem_cons.mpr ⟨ae_mk pu_if (fun X => ok_if_eq X (off := 28) (by decide) (by decide +kernel)), ?_⟩
  refine List.forall_mem_cons.mpr ⟨ae_mk pu_il (fun X => ok_iload X (by decide +kernel)), ?_⟩
  refine List.forall_mem_cons.mpr ⟨ae_mk pu_il (fun X => ok_iload_n X (k := 2) rfl (by decide +kernel)), ?_⟩
  refine List.forall_mem_cons.mpr ⟨ae_mk (pu_push (fun _ => trivial)) (fun X => ok_bipush X (n := 8) (by decide) (by decide +kernel)), ?_⟩
  refine List.forall_mem_cons.mpr ⟨ae_mk pu_bin (fun X => ok_iadd X (by decide +kernel)), ?_⟩
  refine List.forall_mem_cons.mpr ⟨ae_mk pu_ic (fun X => ok_ic_ge X (off := 19) (by decide) (by decide +kernel)), ?_⟩
  refine List.forall_mem_cons.mpr ⟨ae_mk pu_inc (fun X => ok_iinc X (n := 1) (by decide) (by decide +kernel)), ?_⟩
  refine List.forall_mem_cons.mpr ⟨ae_mk pu_il (fun X => ok_iload X (by decide +kernel)), ?_⟩
  refine List.forall_mem_cons.mpr ⟨ae_mk pu_al (fun X => ok_aload_n X (k := 0) rfl (by decide +kernel)), ?_⟩
  refine List.forall_mem_cons.mpr ⟨ae_mk pu_il (fun X => ok_iload_n X (k := 1) rfl (by decide +kernel)), ?_⟩
  refine List.forall_mem_cons.mpr ⟨ae_mkc (fun X => ok_callV X (mid := 100) (index := 146) (y := my_100) rfl (by decide) ⟨by decide, by decide⟩ (n := 1) (by decide +kernel) wd_916 wd_51 wd_913 wd_915 wd_21 (ci := 8) rfl (by decide +kernel)), ?_⟩
  refine List.forall_mem_cons.mpr ⟨ae_mk pu_bin (fun X => ok_iadd X (by decide +kernel)), ?_⟩
  refine List.forall_mem_cons.mpr ⟨ae_mk pu_is (fun X => ok_istore X (by decide +kernel)), ?_⟩
  refine List.forall_mem_cons.mpr ⟨ae_mk pu_goto (fun X => ok_goto X (off := (-27)) (by decide) (by decide +kernel)), ?_⟩
  refine List.forall_mem_cons.mpr ⟨ae_mk pu_al (fun X => ok_aload_n X (k := 0) rfl (by decide +kernel)), ?_⟩
  refine List.forall_mem_cons.mpr ⟨ae_mk pu_il (fun X => ok_iload X (by decide +kernel)), ?_⟩
  refine List.forall_mem_cons.mpr ⟨ae_mk pu_if (fun X => ok_if_eq X (off := 23) (by decide) (by decide +kernel)), ?_⟩
  refine List.forall_mem_cons.mpr ⟨ae_mk pu_il (fun X => ok_iload X (by decide +kernel)), ?_⟩
  refine List.forall_mem_cons.mpr ⟨ae_mk pu_al (fun X => ok_aload_n X (k := 0) rfl (by decide +kernel)), ?_⟩
  refine List.forall_mem_cons.mpr ⟨ae_mk pu_get (fun X => ok_get X (ci := 8) (kk := 4) (index := 16) rfl aw_c_Model (by decide) wd_780 (by decide +kernel)), ?_⟩
  refine List.forall_mem_cons.mpr ⟨ae_mk pu_il (fun X => ok_iload_n X (k := 1) rfl (by decide +kernel)), ?_⟩
  refine List.forall_mem_cons.mpr ⟨ae_mk pu_ba (fun X => ok_ba X (by decide +kernel)), ?_⟩
  refine List.forall_mem_cons.mpr ⟨ae_mk pu_if (fun X => ok_if_eq X (off := 8) (by decide) (by decide +kernel)), ?_⟩
  refine List.forall_mem_cons.mpr ⟨ae_mk (pu_push (fun _ => trivial)) (fun X => ok_bipush X (n := 8) (by decide) (by decide +kernel)), ?_⟩
  refine List.forall_mem_cons.mpr ⟨ae_mk pu_goto (fun X => ok_goto X (off := 4) (by decide) (by decide +kernel)), ?_⟩
  refine List.forall_mem_cons.mpr ⟨ae_mk (pu_push (fun _ => trivial)) (fun X => ok_iconst X (n := 1) (by decide) (by decide +kernel)), ?_⟩
  refine List.forall_mem_cons.mpr ⟨ae_mk pu_ic (fun X => ok_ic_le X (off := 7) (by decide) (by decide +kernel)), ?_⟩
  refine List.forall_mem_cons.mpr ⟨ae_mk (pu_push (fun _ => trivial)) (fun X => ok_iconst X (n := 1) (by decide) (by decide +kernel)), ?_⟩
  refine List.forall_mem_cons.mpr ⟨ae_mk pu_goto (fun X => ok_goto X (off := 22) (by decide) (by decide +kernel)), ?_⟩
  refine List.forall_mem_cons.mpr ⟨ae_mk pu_al (fun X => ok_aload_n X (k := 0) rfl (by decide +kernel)), ?_⟩
  refine List.forall_mem_cons.mpr ⟨ae_mk pu_get (fun X => ok_get X (ci := 8) (kk := 14) (index := 47) rfl aw_c_Model (by decide) wd_790 (by decide +kernel)), ?_⟩
  refine List.forall_mem_cons.mpr ⟨ae_mk pu_il (fun X => ok_iload_n X (k := 1) rfl (by decide +kernel)), ?_⟩
  refine List.forall_mem_cons.mpr ⟨ae_mk pu_ia (fun X => ok_ia X (by decide +kernel)), ?_⟩
  refine List.forall_mem_cons.mpr ⟨ae_mk pu_il (fun X => ok_iload X (by decide +kernel)), ?_⟩
  refine List.forall_mem_cons.mpr ⟨ae_mk pu_bin (fun X => ok_iadd X (by decide +kernel)), ?_⟩
  refine List.forall_mem_cons.mpr ⟨ae_mk (pu_push (fun _ => trivial)) (fun X => ok_bipush X (n := 8) (by decide) (by decide +kernel)), ?_⟩
  refine List.forall_mem_cons.mpr ⟨ae_mk pu_ic (fun X => ok_ic_le X (off := 7) (by decide) (by decide +kernel)), ?_⟩
  refine List.forall_mem_cons.mpr ⟨ae_mk (pu_push (fun _ => trivial)) (fun X => ok_iconst X (n := 2) (by decide) (by decide +kernel)), ?_⟩
  refine List.forall_mem_cons.mpr ⟨ae_mk pu_goto (fun X => ok_goto X (off := 4) (by decide) (by decide +kernel)), ?_⟩
  refine List.forall_mem_cons.mpr ⟨ae_mk (pu_push (fun _ => trivial)) (fun X => ok_iconst X (n := 0) (by decide) (by decide +kernel)), ?_⟩
  refine List.forall_mem_cons.mpr ⟨ae_mk pu_put (fun X => ok_put X (ci := 8) (kk := 0) (index := 127) rfl aw_c_Model (by decide) wd_776 cy_Model cn_Model_ty cn_Model_nm rfl hk_int rfl (by decide +kernel)), ?_⟩
  refine List.forall_mem_cons.mpr ⟨ae_mk pu_al (fun X => ok_aload_n X (k := 0) rfl (by decide +kernel)), ?_⟩
  refine List.forall_mem_cons.mpr ⟨ae_mk pu_get (fun X => ok_get X (ci := 8) (kk := 0) (index := 127) rfl aw_c_Model (by decide) wd_776 (by decide +kernel)), ?_⟩
  refine List.forall_mem_cons.mpr ⟨ae_mk pu_if (fun X => ok_if_le X (off := 5) (by decide) (by decide +kernel)), ?_⟩
  refine List.forall_mem_cons.mpr ⟨ae_mk (pu_push (fun _ => trivial)) (fun X => ok_iconst X (n := 0) (by decide) (by decide +kernel)), ?_⟩
  refine List.forall_mem_cons.mpr ⟨Or.inl ⟨rfl, (by decide +kernel), rt_int⟩, ?_⟩
  refine List.forall_mem_cons.mpr ⟨ae_mk (pu_push (fun _ => trivial)) (fun X => ok_iconst X (n := 0) (by decide) (by decide +kernel)), ?_⟩
  refine List.forall_mem_cons.mpr ⟨ae_mk pu_is (fun X => ok_istore X (by decide +kernel)), ?_⟩
  refine List.forall_mem_cons.mpr ⟨ae_mk pu_il (fun X => ok_iload X (by decide +kernel)), ?_⟩
  refine List.forall_mem_cons.mpr ⟨ae_mk pu_il (fun X => ok_iload X (by decide +kernel)), ?_⟩
  refine List.forall_mem_cons.mpr ⟨ae_mk pu_ic (fun X => ok_ic_ge X (off := 76) (by decide) (by decide +kernel)), ?_⟩
  refine List.forall_mem_cons.mpr ⟨ae_mk (pu_push (fun _ => trivial)) (fun X => ok_bipush X (n := 8) (by decide) (by decide +kernel)), ?_⟩
  refine List.forall_mem_cons.mpr ⟨ae_mk pu_il (fun X => ok_iload_n X (k := 1) rfl (by decide +kernel)), ?_⟩
  refine List.forall_mem_cons.mpr ⟨ae_mk pu_bin (fun X => ok_imul X (by decide +kernel)), ?_⟩
  refine List.forall_mem_cons.mpr ⟨ae_mk pu_al (fun X => ok_aload_n X (k := 0) rfl (by decide +kernel)), ?_⟩
  refine List.forall_mem_cons.mpr ⟨ae_mk pu_get (fun X => ok_get X (ci := 8) (kk := 14) (index := 47) rfl aw_c_Model (by decide) wd_790 (by decide +kernel)), ?_⟩
  refine List.forall_mem_cons.mpr ⟨ae_mk pu_il (fun X => ok_iload_n X (k := 1) rfl (by decide +kernel)), ?_⟩
  refine List.forall_mem_cons.mpr ⟨ae_mk pu_ia (fun X => ok_ia X (by decide +kernel)), ?_⟩
  refine List.forall_mem_cons.mpr ⟨ae_mk pu_bin (fun X => ok_iadd X (by decide +kernel)), ?_⟩
  refine List.forall_mem_cons.mpr ⟨ae_mk pu_is (fun X => ok_istore X (by decide +kernel)), ?_⟩
  refine List.forall_mem_cons.mpr ⟨ae_mk pu_al (fun X => ok_aload_n X (k := 0) rfl (by decide +kernel)), ?_⟩
  refine List.forall_mem_cons.mpr ⟨ae_mk pu_get (fun X => ok_get X (ci := 8) (kk := 15) (index := 50) rfl aw_c_Model (by decide) wd_791 (by decide +kernel)), ?_⟩
  refine List.forall_mem_cons.mpr ⟨ae_mk pu_il (fun X => ok_iload X (by decide +kernel)), ?_⟩
  refine List.forall_mem_cons.mpr ⟨ae_mk pu_il (fun X => ok_iload_n X (k := 2) rfl (by decide +kernel)), ?_⟩
  refine List.forall_mem_cons.mpr ⟨ae_mk pu_ias (fun X => ok_ias X (by decide +kernel)), ?_⟩
  refine List.forall_mem_cons.mpr ⟨ae_mk pu_al (fun X => ok_aload_n X (k := 0) rfl (by decide +kernel)), ?_⟩
  refine List.forall_mem_cons.mpr ⟨ae_mk pu_get (fun X => ok_get X (ci := 8) (kk := 16) (index := 53) rfl aw_c_Model (by decide) wd_792 (by decide +kernel)), ?_⟩
  refine List.forall_mem_cons.mpr ⟨ae_mk pu_il (fun X => ok_iload X (by decide +kernel)), ?_⟩
  refine List.forall_mem_cons.mpr ⟨ae_mk pu_il (fun X => ok_iload_n X (k := 3) rfl (by decide +kernel)), ?_⟩
  refine List.forall_mem_cons.mpr ⟨ae_mk pu_ias (fun X => ok_ias X (by decide +kernel)), ?_⟩
  refine List.forall_mem_cons.mpr ⟨ae_mk pu_al (fun X => ok_aload_n X (k := 0) rfl (by decide +kernel)), ?_⟩
  refine List.forall_mem_cons.mpr ⟨ae_mk pu_get (fun X => ok_get X (ci := 8) (kk := 17) (index := 56) rfl aw_c_Model (by decide) wd_793 (by decide +kernel)), ?_⟩
  refine List.forall_mem_cons.mpr ⟨ae_mk pu_il (fun X => ok_iload X (by decide +kernel)), ?_⟩
  refine List.forall_mem_cons.mpr ⟨ae_mk pu_al (fun X => ok_aload_n X (k := 0) rfl (by decide +kernel)), ?_⟩
  refine List.forall_mem_cons.mpr ⟨ae_mk pu_get (fun X => ok_get X (ci := 8) (kk := 11) (index := 38) rfl aw_c_Model (by decide) wd_787 (by decide +kernel)), ?_⟩
  refine List.forall_mem_cons.mpr ⟨ae_mk pu_il (fun X => ok_iload_n X (k := 1) rfl (by decide +kernel)), ?_⟩
  refine List.forall_mem_cons.mpr ⟨ae_mk pu_ia (fun X => ok_ia X (by decide +kernel)), ?_⟩
  refine List.forall_mem_cons.mpr ⟨ae_mk pu_ias (fun X => ok_ias X (by decide +kernel)), ?_⟩
  refine List.forall_mem_cons.mpr ⟨ae_mk pu_al (fun X => ok_aload_n X (k := 0) rfl (by decide +kernel)), ?_⟩
  refine List.forall_mem_cons.mpr ⟨ae_mk pu_get (fun X => ok_get X (ci := 8) (kk := 18) (index := 59) rfl aw_c_Model (by decide) wd_794 (by decide +kernel)), ?_⟩
  refine List.forall_mem_cons.mpr ⟨ae_mk pu_il (fun X => ok_iload X (by decide +kernel)), ?_⟩
  refine List.forall_mem_cons.mpr ⟨ae_mk pu_il (fun X => ok_iload X (by decide +kernel)), ?_⟩
  refine List.forall_mem_cons.mpr ⟨ae_mk pu_al (fun X => ok_aload_n X (k := 0) rfl (by decide +kernel)), ?_⟩
  refine List.forall_mem_cons.mpr ⟨ae_mk pu_il (fun X => ok_iload_n X (k := 1) rfl (by decide +kernel)), ?_⟩
  refine List.forall_mem_cons.mpr ⟨ae_mkc (fun X => ok_callV X (mid := 100) (index := 146) (y := my_100) rfl (by decide) ⟨by decide, by decide⟩ (n := 1) (by decide +kernel) wd_916 wd_51 wd_913 wd_915 wd_21 (ci := 8) rfl (by decide +kernel)), ?_⟩
  refine List.forall_mem_cons.mpr ⟨ae_mk pu_bin (fun X => ok_imul X (by decide +kernel)), ?_⟩
  refine List.forall_mem_cons.mpr ⟨ae_mk pu_ias (fun X => ok_ias X (by decide +kernel)), ?_⟩
  refine List.forall_mem_cons.mpr ⟨ae_mk pu_al (fun X => ok_aload_n X (k := 0) rfl (by decide +kernel)), ?_⟩
  refine List.forall_mem_cons.mpr ⟨ae_mk pu_get (fun X => ok_get X (ci := 8) (kk := 14) (index := 47) rfl aw_c_Model (by decide) wd_790 (by decide +kernel)), ?_⟩
  refine List.forall_mem_cons.mpr ⟨ae_mk pu_il (fun X => ok_iload_n X (k := 1) rfl (by decide +kernel)), ?_⟩
  refine List.forall_mem_cons.mpr ⟨ae_mk pu_dup2 (fun X => ok_dup2 X (by decide +kernel)), ?_⟩
  refine List.forall_mem_cons.mpr ⟨ae_mk pu_ia (fun X => ok_ia X (by decide +kernel)), ?_⟩
  refine List.forall_mem_cons.mpr ⟨ae_mk (pu_push (fun _ => trivial)) (fun X => ok_iconst X (n := 1) (by decide) (by decide +kernel)), ?_⟩
  refine List.forall_mem_cons.mpr ⟨ae_mk pu_bin (fun X => ok_iadd X (by decide +kernel)), ?_⟩
  refine List.forall_mem_cons.mpr ⟨ae_mk pu_ias (fun X => ok_ias X (by decide +kernel)), ?_⟩
  refine List.forall_mem_cons.mpr ⟨ae_mk pu_inc (fun X => ok_iinc X (n := 1) (by decide) (by decide +kernel)), ?_⟩
  refine List.forall_mem_cons.mpr ⟨ae_mk pu_goto (fun X => ok_goto X (off := (-77)) (by decide) (by decide +kernel)), ?_⟩
  refine List.forall_mem_cons.mpr ⟨ae_mk pu_al (fun X => ok_aload_n X (k := 0) rfl (by decide +kernel)), ?_⟩
  refine List.forall_mem_cons.mpr ⟨ae_mk pu_get (fun X => ok_get X (ci := 8) (kk := 11) (index := 38) rfl aw_c_Model (by decide) wd_787 (by decide +kernel)), ?_⟩
  refine List.forall_mem_cons.mpr ⟨ae_mk pu_il (fun X => ok_iload_n X (k := 1) rfl (by decide +kernel)), ?_⟩
  refine List.forall_mem_cons.mpr ⟨ae_mk pu_al (fun X => ok_aload_n X (k := 0) rfl (by decide +kernel)), ?_⟩
  refine List.forall_mem_cons.mpr ⟨ae_mk pu_get (fun X => ok_get X (ci := 8) (kk := 11) (index := 38) rfl aw_c_Model (by decide) wd_787 (by decide +kernel)), ?_⟩
  refine List.forall_mem_cons.mpr ⟨ae_mk pu_il (fun X => ok_iload_n X (k := 1) rfl (by decide +kernel)), ?_⟩
  refine List.forall_mem_cons.mpr ⟨ae_mk pu_ia (fun X => ok_ia X (by decide +kernel)), ?_⟩
  refine List.forall_mem_cons.mpr ⟨ae_mk (pu_push (fun _ => trivial)) (fun X => ok_iconst X (n := 1) (by decide) (by decide +kernel)), ?_⟩
  refine List.forall_mem_cons.mpr ⟨ae_mk pu_bin (fun X => ok_iadd X (by decide +kernel)), ?_⟩
  refine List.forall_mem_cons.mpr ⟨ae_mk (pu_push (fun _ => trivial)) (fun X => ok_ldc X (index := 149) wd_917 (by decide +kernel)), ?_⟩
  refine List.forall_mem_cons.mpr ⟨ae_mk pu_dv (fun X => ok_irem X (by decide +kernel)), ?_⟩
  refine List.forall_mem_cons.mpr ⟨ae_mk pu_ias (fun X => ok_ias X (by decide +kernel)), ?_⟩
  refine List.forall_mem_cons.mpr ⟨ae_mk pu_il (fun X => ok_iload X (by decide +kernel)), ?_⟩
  refine List.forall_mem_cons.mpr ⟨Or.inl ⟨rfl, (by decide +kernel), rt_int⟩, ?_⟩
  exact fun _ h => absurd h List.not_mem_nil
def tb_99 : List (Nat × ae_I) := [(0, .inl (o_il 1 1)),
  (1, .inl (o_if (fun x => decide (x < 0)) 23 4)),
  (4, .inl (o_il 1 5)),
  (5, .inl (o_push (.int 8) 7)),
  (7, .inl (o_ic (fun x y => decide (y ≤ x)) 23 10)),
  (10, .inl (o_al 0 11)),
  (11, .inl (o_get 8 2 14)),
  (14, .inl (o_il 1 15)),
  (15, .inl (o_ba 16)),
  (16, .inl (o_if (fun x => decide (x = 0)) 23 19)),
  (19, .inl (o_push (.int 1) 20)),
  (20, .inl (o_goto 24)),
  (23, .inl (o_push (.int 0) 24)),
  (24, .inr (.inl (some k_bool)))]
theorem te_99 : ∀ q ∈ tb_99, ae_E am "TwinNetworkModel" "isLink" prog_10_method_7_code 2 (Option.some Jvm.ClassFile.FieldType.boolean) [] q := by
  unfold tb_99
  refine List.forall_mem_cons.mpr ⟨ae_mk pu_il (fun X => ok_iload_n X (k := 1) rfl (by decide +kernel)), ?_⟩
  refine List.forall_mem_cons.mpr ⟨ae_mk pu_if (fun X => ok_if_lt X (off := 22) (by decide) (by decide +kernel)), ?_⟩
  refine List.forall_mem_cons.mpr ⟨ae_mk pu_il (fun X => ok_iload_n X (k := 1) rfl (by decide +kernel)), ?_⟩
  refine List.forall_mem_cons.mpr ⟨ae_mk (pu_push (fun _ => trivial)) (fun X => ok_bipush X (n := 8) (by decide) (by decide +kernel)), ?_⟩
  refine List.forall_mem_cons.mpr ⟨ae_mk pu_ic (fun X => ok_ic_ge X (off := 16) (by decide) (by decide +kernel)), ?_⟩
  refine List.forall_mem_cons.mpr ⟨ae_mk pu_al (fun X => ok_aload_n X (k := 0) rfl (by decide +kernel)), ?_⟩
  refine List.forall_mem_cons.mpr ⟨ae_mk pu_get (fun X => ok_get X (ci := 8) (kk := 2) (index := 7) rfl aw_c_Model (by decide) wd_778 (by decide +kernel)), ?_⟩
  refine List.forall_mem_cons.mpr ⟨ae_mk pu_il (fun X => ok_iload_n X (k := 1) rfl (by decide +kernel)), ?_⟩
  refine List.forall_mem_cons.mpr ⟨ae_mk pu_ba (fun X => ok_ba X (by decide +kernel)), ?_⟩
  refine List.forall_mem_cons.mpr ⟨ae_mk pu_if (fun X => ok_if_eq X (off := 7) (by decide) (by decide +kernel)), ?_⟩
  refine List.forall_mem_cons.mpr ⟨ae_mk (pu_push (fun _ => trivial)) (fun X => ok_iconst X (n := 1) (by decide) (by decide +kernel)), ?_⟩
  refine List.forall_mem_cons.mpr ⟨ae_mk pu_goto (fun X => ok_goto X (off := 4) (by decide) (by decide +kernel)), ?_⟩
  refine List.forall_mem_cons.mpr ⟨ae_mk (pu_push (fun _ => trivial)) (fun X => ok_iconst X (n := 0) (by decide) (by decide +kernel)), ?_⟩
  refine List.forall_mem_cons.mpr ⟨Or.inr (Or.inl ⟨rfl, (by decide +kernel), rt_bool⟩), ?_⟩
  exact fun _ h => absurd h List.not_mem_nil
def tb_100 : List (Nat × ae_I) := [(0, .inl (o_al 0 1)),
  (1, .inl (o_get 8 4 4)),
  (4, .inl (o_il 1 5)),
  (5, .inl (o_ba 6)),
  (6, .inl (o_if (fun x => decide (x = 0)) 27 9)),
  (9, .inl (o_al 0 10)),
  (10, .inl (o_get 8 7 13)),
  (13, .inl (o_il 1 14)),
  (14, .inl (o_ia 15)),
  (15, .inl (o_push (.int 39) 17)),
  (17, .inl (o_bin (fun x y => x - y) 18)),
  (18, .inl (o_push (.int 8) 20)),
  (20, .inl (o_dv (fun x y => x / y) 21)),
  (21, .inl (o_push (.int 8) 23)),
  (23, .inl (o_bin (fun x y => x * y) 24)),
  (24, .inl (o_goto 36)),
  (27, .inl (o_al 0 28)),
  (28, .inl (o_get 8 7 31)),
  (31, .inl (o_il 1 32)),
  (32, .inl (o_ia 33)),
  (33, .inl (o_push (.int 39) 35)),
  (35, .inl (o_bin (fun x y => x - y) 36)),
  (36, .inr (.inl (some k_int)))]
theorem te_100 : ∀ q ∈ tb_100, ae_E am "TwinNetworkModel" "piece" prog_10_method_10_code 2 (Option.some Jvm.ClassFile.FieldType.int) [] q := by
  unfold tb_100
  refine List.forall_mem_cons.mpr ⟨ae_mk pu_al (fun X => ok_aload_n X (k := 0) rfl (by decide +kernel)), ?_⟩
  refine List.forall_mem_cons.mpr ⟨ae_mk pu_get (fun X => ok_get X (ci := 8) (kk := 4) (index := 16) rfl aw_c_Model (by decide) wd_780 (by decide +kernel)), ?_⟩
  refine List.forall_mem_cons.mpr ⟨ae_mk pu_il (fun X => ok_iload_n X (k := 1) rfl (by decide +kernel)), ?_⟩
  refine List.forall_mem_cons.mpr ⟨ae_mk pu_ba (fun X => ok_ba X (by decide +kernel)), ?_⟩
  refine List.forall_mem_cons.mpr ⟨ae_mk pu_if (fun X => ok_if_eq X (off := 21) (by decide) (by decide +kernel)), ?_⟩
  refine List.forall_mem_cons.mpr ⟨ae_mk pu_al (fun X => ok_aload_n X (k := 0) rfl (by decide +kernel)), ?_⟩
  refine List.forall_mem_cons.mpr ⟨ae_mk pu_get (fun X => ok_get X (ci := 8) (kk := 7) (index := 26) rfl aw_c_Model (by decide) wd_783 (by decide +kernel)), ?_⟩
  refine List.forall_mem_cons.mpr ⟨ae_mk pu_il (fun X => ok_iload_n X (k := 1) rfl (by decide +kernel)), ?_⟩
  refine List.forall_mem_cons.mpr ⟨ae_mk pu_ia (fun X => ok_ia X (by decide +kernel)), ?_⟩
  refine List.forall_mem_cons.mpr ⟨ae_mk (pu_push (fun _ => trivial)) (fun X => ok_bipush X (n := 39) (by decide) (by decide +kernel)), ?_⟩
  refine List.forall_mem_cons.mpr ⟨ae_mk pu_bin (fun X => ok_isub X (by decide +kernel)), ?_⟩
  refine List.forall_mem_cons.mpr ⟨ae_mk (pu_push (fun _ => trivial)) (fun X => ok_bipush X (n := 8) (by decide) (by decide +kernel)), ?_⟩
  refine List.forall_mem_cons.mpr ⟨ae_mk pu_dv (fun X => ok_idiv X (by decide +kernel)), ?_⟩
  refine List.forall_mem_cons.mpr ⟨ae_mk (pu_push (fun _ => trivial)) (fun X => ok_bipush X (n := 8) (by decide) (by decide +kernel)), ?_⟩
  refine List.forall_mem_cons.mpr ⟨ae_mk pu_bin (fun X => ok_imul X (by decide +kernel)), ?_⟩
  refine List.forall_mem_cons.mpr ⟨ae_mk pu_goto (fun X => ok_goto X (off := 12) (by decide) (by decide +kernel)), ?_⟩
  refine List.forall_mem_cons.mpr ⟨ae_mk pu_al (fun X => ok_aload_n X (k := 0) rfl (by decide +kernel)), ?_⟩
  refine List.forall_mem_cons.mpr ⟨ae_mk pu_get (fun X => ok_get X (ci := 8) (kk := 7) (index := 26) rfl aw_c_Model (by decide) wd_783 (by decide +kernel)), ?_⟩
  refine List.forall_mem_cons.mpr ⟨ae_mk pu_il (fun X => ok_iload_n X (k := 1) rfl (by decide +kernel)), ?_⟩
  refine List.forall_mem_cons.mpr ⟨ae_mk pu_ia (fun X => ok_ia X (by decide +kernel)), ?_⟩
  refine List.forall_mem_cons.mpr ⟨ae_mk (pu_push (fun _ => trivial)) (fun X => ok_bipush X (n := 39) (by decide) (by decide +kernel)), ?_⟩
  refine List.forall_mem_cons.mpr ⟨ae_mk pu_bin (fun X => ok_isub X (by decide +kernel)), ?_⟩
  refine List.forall_mem_cons.mpr ⟨Or.inl ⟨rfl, (by decide +kernel), rt_int⟩, ?_⟩
  exact fun _ h => absurd h List.not_mem_nil
def tb_101 : List (Nat × ae_I) := [(0, .inl (o_al 0 1)),
  (1, .inl (o_push (.int 0) 2)),
  (2, .inl (o_put 8 0 k_int 5)),
  (5, .inl (o_push (.int 0) 6)),
  (6, .inl (o_is 2 7)),
  (7, .inl (o_il 2 8)),
  (8, .inl (o_il 1 9)),
  (9, .inl (o_ic (fun x y => decide (y ≤ x)) 190 12)),
  (12, .inl (o_il 1 13)),
  (13, .inl (o_push (.int 2000) 16)),
  (16, .inl (o_ic (fun x y => decide (y < x)) 190 19)),
  (19, .inl (o_push (.int 0) 20)),
  (20, .inl (o_is 3 21)),
  (21, .inl (o_il 3 22)),
  (22, .inl (o_push (.int 8) 24)),
  (24, .inl (o_ic (fun x y => decide (y ≤ x)) 38 27)),
  (27, .inl (o_al 0 28)),
  (28, .inl (o_il 3 29)),
  (29, .inr (.inr (.inl (102, 2, 32, some 8, [])))),
  (32, .inl (o_inc 3 1 35)),
  (35, .inl (o_goto 21)),
  (38, .inl (o_push (.int 0) 39)),
  (39, .inl (o_is 3 40)),
  (40, .inl (o_il 3 41)),
  (41, .inl (o_push (.int 24) 43)),
  (43, .inl (o_ic (fun x y => decide (y ≤ x)) 57 46)),
  (46, .inl (o_al 0 47)),
  (47, .inl (o_il 3 48)),
  (48, .inr (.inr (.inl (114, 2, 51, some 8, [])))),
  (51, .inl (o_inc 3 1 54)),
  (54, .inl (o_goto 40)),
  (57, .inl (o_push (.int 0) 58)),
  (58, .inl (o_is 3 59)),
  (59, .inl (o_il 3 60)),
  (60, .inl (o_push (.int 24) 62)),
  (62, .inl (o_ic (fun x y => decide (y ≤ x)) 76 65)),
  (65, .inl (o_al 0 66)),
  (66, .inl (o_il 3 67)),
  (67, .inr (.inr (.inl (128, 2, 70, some 8, [])))),
  (70, .inl (o_inc 3 1 73)),
  (73, .inl (o_goto 59)),
  (76, .inl (o_push (.int 0) 77)),
  (77, .inl (o_is 3 78)),
  (78, .inl (o_il 3 79)),
  (79, .inl (o_push (.int 16) 81)),
  (81, .inl (o_ic (fun x y => decide (y ≤ x)) 174 84)),
  (84, .inl (o_al 0 85)),
  (85, .inl (o_get 8 7 88)),
  (88, .inl (o_il 3 89)),
  (89, .inl (o_push (.int 8) 91)),
  (91, .inl (o_dv (fun x y => x - x / y * y) 92)),
  (92, .inl (o_ia 93)),
  (93, .inl (o_al 0 94)),
  (94, .inl (o_get 8 6 97)),
  (97, .inl (o_il 3 98)),
  (98, .inl (o_push (.int 8) 100)),
  (100, .inl (o_dv (fun x y => x - x / y * y) 101)),
  (101, .inl (o_ia 102)),
  (102, .inl (o_push (.int 64) 104)),
  (104, .inl (o_bin (fun x y => x + y) 105)),
  (105, .inl (o_bin (fun x y => x * y) 106)),
  (106, .inl (o_is 4 108)),
  (108, .inl (o_al 0 109)),
  (109, .inl (o_get 8 2 112)),
  (112, .inl (o_il 3 113)),
  (113, .inl (o_push (.int 8) 115)),
  (115, .inl (o_dv (fun x y => x - x / y * y) 116)),
  (116, .inl (o_ba 117)),
  (117, .inl (o_if (fun x => decide (x = 0)) 168 120)),
  (120, .inl (o_al 0 121)),
  (121, .inl (o_get 8 13 124)),
  (124, .inl (o_il 3 125)),
  (125, .inl (o_al 0 126)),
  (126, .inl (o_get 8 13 129)),
  (129, .inl (o_il 3 130)),
  (130, .inl (o_ia 131)),
  (131, .inl (o_al 0 132)),
  (132, .inl (o_get 8 7 135)),
  (135, .inl (o_il 3 136)),
  (136, .inl (o_push (.int 8) 138)),
  (138, .inl (o_dv (fun x y => x - x / y * y) 139)),
  (139, .inl (o_ia 140)),
  (140, .inl (o_bin (fun x y => x + y) 141)),
  (141, .inl (o_il 4 143)),
  (143, .inl (o_ic (fun x y => decide (x ≤ y)) 151 146)),
  (146, .inl (o_il 4 148)),
  (148, .inl (o_goto 167)),
  (151, .inl (o_al 0 152)),
  (152, .inl (o_get 8 13 155)),
  (155, .inl (o_il 3 156)),
  (156, .inl (o_ia 157)),
  (157, .inl (o_al 0 158)),
  (158, .inl (o_get 8 7 161)),
  (161, .inl (o_il 3 162)),
  (162, .inl (o_push (.int 8) 164)),
  (164, .inl (o_dv (fun x y => x - x / y * y) 165)),
  (165, .inl (o_ia 166)),
  (166, .inl (o_bin (fun x y => x + y) 167)),
  (167, .inl (o_ias 168)),
  (168, .inl (o_inc 3 1 171)),
  (171, .inl (o_goto 78)),
  (174, .inl (o_al 0 175)),
  (175, .inl (o_dup 176)),
  (176, .inl (o_get 8 1 179)),
  (179, .inl (o_push (.int 1) 180)),
  (180, .inl (o_bin (fun x y => x + y) 181)),
  (181, .inl (o_put 8 1 k_int 184)),
  (184, .inl (o_inc 2 1 187)),
  (187, .inl (o_goto 7)),
  (190, .inl (o_al 0 191)),
  (191, .inl (o_get 8 1 194)),
  (194, .inr (.inl (some k_int)))]
theorem te_101 : ∀ q ∈ tb_101, ae_E am "TwinNetworkModel" "tick" prog_10_method_35_code 5 (Option.some Jvm.ClassFile.FieldType.int) [] q := by
  unfold tb_101
  refine List.forall_mem_cons.mpr ⟨ae_mk pu_al (fun X => ok_aload_n X (k := 0) rfl (by decide +kernel)), ?_⟩
  refine List.forall_mem_cons.mpr ⟨ae_mk (pu_push (fun _ => trivial)) (fun X => ok_iconst X (n := 0) (by decide) (by decide +kernel)), ?_⟩
  refine List.forall_mem_cons.mpr ⟨ae_mk pu_put (fun X => ok_put X (ci := 8) (kk := 0) (index := 127) rfl aw_c_Model (by decide) wd_776 cy_Model cn_Model_ty cn_Model_nm rfl hk_int rfl (by decide +kernel)), ?_⟩
  refine List.forall_mem_cons.mpr ⟨ae_mk (pu_push (fun _ => trivial)) (fun X => ok_iconst X (n := 0) (by decide) (by decide +kernel)), ?_⟩
  refine List.forall_mem_cons.mpr ⟨ae_mk pu_is (fun X => ok_istore_n X (k := 2) rfl (by decide +kernel)), ?_⟩
  refine List.forall_mem_cons.mpr ⟨ae_mk pu_il (fun X => ok_iload_n X (k := 2) rfl (by decide +kernel)), ?_⟩
  refine List.forall_mem_cons.mpr ⟨ae_mk pu_il (fun X => ok_iload_n X (k := 1) rfl (by decide +kernel)), ?_⟩
  refine List.forall_mem_cons.mpr ⟨ae_mk pu_ic (fun X => ok_ic_ge X (off := 181) (by decide) (by decide +kernel)), ?_⟩
  refine List.forall_mem_cons.mpr ⟨ae_mk pu_il (fun X => ok_iload_n X (k := 1) rfl (by decide +kernel)), ?_⟩
  refine List.forall_mem_cons.mpr ⟨ae_mk (pu_push (fun _ => trivial)) (fun X => ok_sipush X (n := 2000) (by decide) (by decide +kernel)), ?_⟩
  refine List.forall_mem_cons.mpr ⟨ae_mk pu_ic (fun X => ok_ic_gt X (off := 174) (by decide) (by decide +kernel)), ?_⟩
  refine List.forall_mem_cons.mpr ⟨ae_mk (pu_push (fun _ => trivial)) (fun X => ok_iconst X (n := 0) (by decide) (by decide +kernel)), ?_⟩
  refine List.forall_mem_cons.mpr ⟨ae_mk pu_is (fun X => ok_istore_n X (k := 3) rfl (by decide +kernel)), ?_⟩
  refine List.forall_mem_cons.mpr ⟨ae_mk pu_il (fun X => ok_iload_n X (k := 3) rfl (by decide +kernel)), ?_⟩
  refine List.forall_mem_cons.mpr ⟨ae_mk (pu_push (fun _ => trivial)) (fun X => ok_bipush X (n := 8) (by decide) (by decide +kernel)), ?_⟩
  refine List.forall_mem_cons.mpr ⟨ae_mk pu_ic (fun X => ok_ic_ge X (off := 14) (by decide) (by decide +kernel)), ?_⟩
  refine List.forall_mem_cons.mpr ⟨ae_mk pu_al (fun X => ok_aload_n X (k := 0) rfl (by decide +kernel)), ?_⟩
  refine List.forall_mem_cons.mpr ⟨ae_mk pu_il (fun X => ok_iload_n X (k := 3) rfl (by decide +kernel)), ?_⟩
  refine List.forall_mem_cons.mpr ⟨ae_mkc (fun X => ok_callV X (mid := 102) (index := 229) (y := my_102) rfl (by decide) ⟨by decide, by decide⟩ (n := 1) (by decide +kernel) wd_925 wd_51 wd_922 wd_924 wd_22 (ci := 8) rfl (by decide +kernel)), ?_⟩
  refine List.forall_mem_cons.mpr ⟨ae_mk pu_inc (fun X => ok_iinc X (n := 1) (by decide) (by decide +kernel)), ?_⟩
  refine List.forall_mem_cons.mpr ⟨ae_mk pu_goto (fun X => ok_goto X (off := (-14)) (by decide) (by decide +kernel)), ?_⟩
  refine List.forall_mem_cons.mpr ⟨ae_mk (pu_push (fun _ => trivial)) (fun X => ok_iconst X (n := 0) (by decide) (by decide +kernel)), ?_⟩
  refine List.forall_mem_cons.mpr ⟨ae_mk pu_is (fun X => ok_istore_n X (k := 3) rfl (by decide +kernel)), ?_⟩
  refine List.forall_mem_cons.mpr ⟨ae_mk pu_il (fun X => ok_iload_n X (k := 3) rfl (by decide +kernel)), ?_⟩
  refine List.forall_mem_cons.mpr ⟨ae_mk (pu_push (fun _ => trivial)) (fun X => ok_bipush X (n := 24) (by decide) (by decide +kernel)), ?_⟩
  refine List.forall_mem_cons.mpr ⟨ae_mk pu_ic (fun X => ok_ic_ge X (off := 14) (by decide) (by decide +kernel)), ?_⟩
  refine List.forall_mem_cons.mpr ⟨ae_mk pu_al (fun X => ok_aload_n X (k := 0) rfl (by decide +kernel)), ?_⟩
  refine List.forall_mem_cons.mpr ⟨ae_mk pu_il (fun X => ok_iload_n X (k := 3) rfl (by decide +kernel)), ?_⟩
  refine List.forall_mem_cons.mpr ⟨ae_mkc (fun X => ok_callV X (mid := 114) (index := 233) (y := my_114) rfl (by decide) ⟨by decide, by decide⟩ (n := 1) (by decide +kernel) wd_974 wd_51 wd_971 wd_973 wd_33 (ci := 8) rfl (by decide +kernel)), ?_⟩
  refine List.forall_mem_cons.mpr ⟨ae_mk pu_inc (fun X => ok_iinc X (n := 1) (by decide) (by decide +kernel)), ?_⟩
  refine List.forall_mem_cons.mpr ⟨ae_mk pu_goto (fun X => ok_goto X (off := (-14)) (by decide) (by decide +kernel)), ?_⟩
  refine List.forall_mem_cons.mpr ⟨ae_mk (pu_push (fun _ => trivial)) (fun X => ok_iconst X (n := 0) (by decide) (by decide +kernel)), ?_⟩
  refine List.forall_mem_cons.mpr ⟨ae_mk pu_is (fun X => ok_istore_n X (k := 3) rfl (by decide +kernel)), ?_⟩
  refine List.forall_mem_cons.mpr ⟨ae_mk pu_il (fun X => ok_iload_n X (k := 3) rfl (by decide +kernel)), ?_⟩
  refine List.forall_mem_cons.mpr ⟨ae_mk (pu_push (fun _ => trivial)) (fun X => ok_bipush X (n := 24) (by decide) (by decide +kernel)), ?_⟩
  refine List.forall_mem_cons.mpr ⟨ae_mk pu_ic (fun X => ok_ic_ge X (off := 14) (by decide) (by decide +kernel)), ?_⟩
  refine List.forall_mem_cons.mpr ⟨ae_mk pu_al (fun X => ok_aload_n X (k := 0) rfl (by decide +kernel)), ?_⟩
  refine List.forall_mem_cons.mpr ⟨ae_mk pu_il (fun X => ok_iload_n X (k := 3) rfl (by decide +kernel)), ?_⟩
  refine List.forall_mem_cons.mpr ⟨ae_mkc (fun X => ok_callV X (mid := 128) (index := 236) (y := my_128) rfl (by decide) ⟨by decide, by decide⟩ (n := 1) (by decide +kernel) wd_1026 wd_51 wd_1023 wd_1025 wd_43 (ci := 8) rfl (by decide +kernel)), ?_⟩
  refine List.forall_mem_cons.mpr ⟨ae_mk pu_inc (fun X => ok_iinc X (n := 1) (by decide) (by decide +kernel)), ?_⟩
  refine List.forall_mem_cons.mpr ⟨ae_mk pu_goto (fun X => ok_goto X (off := (-14)) (by decide) (by decide +kernel)), ?_⟩
  refine List.forall_mem_cons.mpr ⟨ae_mk (pu_push (fun _ => trivial)) (fun X => ok_iconst X (n := 0) (by decide) (by decide +kernel)), ?_⟩
  refine List.forall_mem_cons.mpr ⟨ae_mk pu_is (fun X => ok_istore_n X (k := 3) rfl (by decide +kernel)), ?_⟩
  refine List.forall_mem_cons.mpr ⟨ae_mk pu_il (fun X => ok_iload_n X (k := 3) rfl (by decide +kernel)), ?_⟩
  refine List.forall_mem_cons.mpr ⟨ae_mk (pu_push (fun _ => trivial)) (fun X => ok_bipush X (n := 16) (by decide) (by decide +kernel)), ?_⟩
  refine List.forall_mem_cons.mpr ⟨ae_mk pu_ic (fun X => ok_ic_ge X (off := 93) (by decide) (by decide +kernel)), ?_⟩
  refine List.forall_mem_cons.mpr ⟨ae_mk pu_al (fun X => ok_aload_n X (k := 0) rfl (by decide +kernel)), ?_⟩
  refine List.forall_mem_cons.mpr ⟨ae_mk pu_get (fun X => ok_get X (ci := 8) (kk := 7) (index := 26) rfl aw_c_Model (by decide) wd_783 (by decide +kernel)), ?_⟩
  refine List.forall_mem_cons.mpr ⟨ae_mk pu_il (fun X => ok_iload_n X (k := 3) rfl (by decide +kernel)), ?_⟩
  refine List.forall_mem_cons.mpr ⟨ae_mk (pu_push (fun _ => trivial)) (fun X => ok_bipush X (n := 8) (by decide) (by decide +kernel)), ?_⟩
  refine List.forall_mem_cons.mpr ⟨ae_mk pu_dv (fun X => ok_irem X (by decide +kernel)), ?_⟩
  refine List.forall_mem_cons.mpr ⟨ae_mk pu_ia (fun X => ok_ia X (by decide +kernel)), ?_⟩
  refine List.forall_mem_cons.mpr ⟨ae_mk pu_al (fun X => ok_aload_n X (k := 0) rfl (by decide +kernel)), ?_⟩
  refine List.forall_mem_cons.mpr ⟨ae_mk pu_get (fun X => ok_get X (ci := 8) (kk := 6) (index := 23) rfl aw_c_Model (by decide) wd_782 (by decide +kernel)), ?_⟩
  refine List.forall_mem_cons.mpr ⟨ae_mk pu_il (fun X => ok_iload_n X (k := 3) rfl (by decide +kernel)), ?_⟩
  refine List.forall_mem_cons.mpr ⟨ae_mk (pu_push (fun _ => trivial)) (fun X => ok_bipush X (n := 8) (by decide) (by decide +kernel)), ?_⟩
  refine List.forall_mem_cons.mpr ⟨ae_mk pu_dv (fun X => ok_irem X (by decide +kernel)), ?_⟩
  refine List.forall_mem_cons.mpr ⟨ae_mk pu_ia (fun X => ok_ia X (by decide +kernel)), ?_⟩
  refine List.forall_mem_cons.mpr ⟨ae_mk (pu_push (fun _ => trivial)) (fun X => ok_bipush X (n := 64) (by decide) (by decide +kernel)), ?_⟩
  refine List.forall_mem_cons.mpr ⟨ae_mk pu_bin (fun X => ok_iadd X (by decide +kernel)), ?_⟩
  refine List.forall_mem_cons.mpr ⟨ae_mk pu_bin (fun X => ok_imul X (by decide +kernel)), ?_⟩
  refine List.forall_mem_cons.mpr ⟨ae_mk pu_is (fun X => ok_istore X (by decide +kernel)), ?_⟩
  refine List.forall_mem_cons.mpr ⟨ae_mk pu_al (fun X => ok_aload_n X (k := 0) rfl (by decide +kernel)), ?_⟩
  refine List.forall_mem_cons.mpr ⟨ae_mk pu_get (fun X => ok_get X (ci := 8) (kk := 2) (index := 7) rfl aw_c_Model (by decide) wd_778 (by decide +kernel)), ?_⟩
  refine List.forall_mem_cons.mpr ⟨ae_mk pu_il (fun X => ok_iload_n X (k := 3) rfl (by decide +kernel)), ?_⟩
  refine List.forall_mem_cons.mpr ⟨ae_mk (pu_push (fun _ => trivial)) (fun X => ok_bipush X (n := 8) (by decide) (by decide +kernel)), ?_⟩
  refine List.forall_mem_cons.mpr ⟨ae_mk pu_dv (fun X => ok_irem X (by decide +kernel)), ?_⟩
  refine List.forall_mem_cons.mpr ⟨ae_mk pu_ba (fun X => ok_ba X (by decide +kernel)), ?_⟩
  refine List.forall_mem_cons.mpr ⟨ae_mk pu_if (fun X => ok_if_eq X (off := 51) (by decide) (by decide +kernel)), ?_⟩
  refine List.forall_mem_cons.mpr ⟨ae_mk pu_al (fun X => ok_aload_n X (k := 0) rfl (by decide +kernel)), ?_⟩
  refine List.forall_mem_cons.mpr ⟨ae_mk pu_get (fun X => ok_get X (ci := 8) (kk := 13) (index := 44) rfl aw_c_Model (by decide) wd_789 (by decide +kernel)), ?_⟩
  refine List.forall_mem_cons.mpr ⟨ae_mk pu_il (fun X => ok_iload_n X (k := 3) rfl (by decide +kernel)), ?_⟩
  refine List.forall_mem_cons.mpr ⟨ae_mk pu_al (fun X => ok_aload_n X (k := 0) rfl (by decide +kernel)), ?_⟩
  refine List.forall_mem_cons.mpr ⟨ae_mk pu_get (fun X => ok_get X (ci := 8) (kk := 13) (index := 44) rfl aw_c_Model (by decide) wd_789 (by decide +kernel)), ?_⟩
  refine List.forall_mem_cons.mpr ⟨ae_mk pu_il (fun X => ok_iload_n X (k := 3) rfl (by decide +kernel)), ?_⟩
  refine List.forall_mem_cons.mpr ⟨ae_mk pu_ia (fun X => ok_ia X (by decide +kernel)), ?_⟩
  refine List.forall_mem_cons.mpr ⟨ae_mk pu_al (fun X => ok_aload_n X (k := 0) rfl (by decide +kernel)), ?_⟩
  refine List.forall_mem_cons.mpr ⟨ae_mk pu_get (fun X => ok_get X (ci := 8) (kk := 7) (index := 26) rfl aw_c_Model (by decide) wd_783 (by decide +kernel)), ?_⟩
  refine List.forall_mem_cons.mpr ⟨ae_mk pu_il (fun X => ok_iload_n X (k := 3) rfl (by decide +kernel)), ?_⟩
  refine List.forall_mem_cons.mpr ⟨ae_mk (pu_push (fun _ => trivial)) (fun X => ok_bipush X (n := 8) (by decide) (by decide +kernel)), ?_⟩
  refine List.forall_mem_cons.mpr ⟨ae_mk pu_dv (fun X => ok_irem X (by decide +kernel)), ?_⟩
  refine List.forall_mem_cons.mpr ⟨ae_mk pu_ia (fun X => ok_ia X (by decide +kernel)), ?_⟩
  refine List.forall_mem_cons.mpr ⟨ae_mk pu_bin (fun X => ok_iadd X (by decide +kernel)), ?_⟩
  refine List.forall_mem_cons.mpr ⟨ae_mk pu_il (fun X => ok_iload X (by decide +kernel)), ?_⟩
  refine List.forall_mem_cons.mpr ⟨ae_mk pu_ic (fun X => ok_ic_le X (off := 8) (by decide) (by decide +kernel)), ?_⟩
  refine List.forall_mem_cons.mpr ⟨ae_mk pu_il (fun X => ok_iload X (by decide +kernel)), ?_⟩
  refine List.forall_mem_cons.mpr ⟨ae_mk pu_goto (fun X => ok_goto X (off := 19) (by decide) (by decide +kernel)), ?_⟩
  refine List.forall_mem_cons.mpr ⟨ae_mk pu_al (fun X => ok_aload_n X (k := 0) rfl (by decide +kernel)), ?_⟩
  refine List.forall_mem_cons.mpr ⟨ae_mk pu_get (fun X => ok_get X (ci := 8) (kk := 13) (index := 44) rfl aw_c_Model (by decide) wd_789 (by decide +kernel)), ?_⟩
  refine List.forall_mem_cons.mpr ⟨ae_mk pu_il (fun X => ok_iload_n X (k := 3) rfl (by decide +kernel)), ?_⟩
  refine List.forall_mem_cons.mpr ⟨ae_mk pu_ia (fun X => ok_ia X (by decide +kernel)), ?_⟩
  refine List.forall_mem_cons.mpr ⟨ae_mk pu_al (fun X => ok_aload_n X (k := 0) rfl (by decide +kernel)), ?_⟩
  refine List.forall_mem_cons.mpr ⟨ae_mk pu_get (fun X => ok_get X (ci := 8) (kk := 7) (index := 26) rfl aw_c_Model (by decide) wd_783 (by decide +kernel)), ?_⟩
  refine List.forall_mem_cons.mpr ⟨ae_mk pu_il (fun X => ok_iload_n X (k := 3) rfl (by decide +kernel)), ?_⟩
  refine List.forall_mem_cons.mpr ⟨ae_mk (pu_push (fun _ => trivial)) (fun X => ok_bipush X (n := 8) (by decide) (by decide +kernel)), ?_⟩
  refine List.forall_mem_cons.mpr ⟨ae_mk pu_dv (fun X => ok_irem X (by decide +kernel)), ?_⟩
  refine List.forall_mem_cons.mpr ⟨ae_mk pu_ia (fun X => ok_ia X (by decide +kernel)), ?_⟩
  refine List.forall_mem_cons.mpr ⟨ae_mk pu_bin (fun X => ok_iadd X (by decide +kernel)), ?_⟩
  refine List.forall_mem_cons.mpr ⟨ae_mk pu_ias (fun X => ok_ias X (by decide +kernel)), ?_⟩
  refine List.forall_mem_cons.mpr ⟨ae_mk pu_inc (fun X => ok_iinc X (n := 1) (by decide) (by decide +kernel)), ?_⟩
  refine List.forall_mem_cons.mpr ⟨ae_mk pu_goto (fun X => ok_goto X (off := (-93)) (by decide) (by decide +kernel)), ?_⟩
  refine List.forall_mem_cons.mpr ⟨ae_mk pu_al (fun X => ok_aload_n X (k := 0) rfl (by decide +kernel)), ?_⟩
  refine List.forall_mem_cons.mpr ⟨ae_mk pu_dup (fun X => ok_dup X (by decide +kernel)), ?_⟩
  refine List.forall_mem_cons.mpr ⟨ae_mk pu_get (fun X => ok_get X (ci := 8) (kk := 1) (index := 177) rfl aw_c_Model (by decide) wd_777 (by decide +kernel)), ?_⟩
  refine List.forall_mem_cons.mpr ⟨ae_mk (pu_push (fun _ => trivial)) (fun X => ok_iconst X (n := 1) (by decide) (by decide +kernel)), ?_⟩
  refine List.forall_mem_cons.mpr ⟨ae_mk pu_bin (fun X => ok_iadd X (by decide +kernel)), ?_⟩
  refine List.forall_mem_cons.mpr ⟨ae_mk pu_put (fun X => ok_put X (ci := 8) (kk := 1) (index := 177) rfl aw_c_Model (by decide) wd_777 cy_Model cn_Model_ty cn_Model_nm rfl hk_int rfl (by decide +kernel)), ?_⟩
  refine List.forall_mem_cons.mpr ⟨ae_mk pu_inc (fun X => ok_iinc X (n := 1) (by decide) (by decide +kernel)), ?_⟩
  refine List.forall_mem_cons.mpr ⟨ae_mk pu_goto (fun X => ok_goto X (off := (-180)) (by decide) (by decide +kernel)), ?_⟩
  refine List.forall_mem_cons.mpr ⟨ae_mk pu_al (fun X => ok_aload_n X (k := 0) rfl (by decide +kernel)), ?_⟩
  refine List.forall_mem_cons.mpr ⟨ae_mk pu_get (fun X => ok_get X (ci := 8) (kk := 1) (index := 177) rfl aw_c_Model (by decide) wd_777 (by decide +kernel)), ?_⟩
  refine List.forall_mem_cons.mpr ⟨Or.inl ⟨rfl, (by decide +kernel), rt_int⟩, ?_⟩
  exact fun _ h => absurd h List.not_mem_nil
