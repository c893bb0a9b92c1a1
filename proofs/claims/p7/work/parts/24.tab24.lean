def tb_133 : List (Nat × ae_I) := [(0, .inl (o_al 0 1)),
  (1, .inl (o_push (.int 0) 2)),
  (2, .inl (o_put 8 0 k_int 5)),
  (5, .inl (o_il 1 6)),
  (6, .inl (o_il 2 7)),
  (7, .inr (.inr (.inl (134, 2, 10, none, [])))),
  (10, .inl (o_if (fun x => decide (x = 0)) 26 13)),
  (13, .inl (o_il 4 15)),
  (15, .inl (o_if (fun x => decide (x < 0)) 26 18)),
  (18, .inl (o_il 4 20)),
  (20, .inl (o_push (.int 255) 23)),
  (23, .inl (o_ic (fun x y => decide (x ≤ y)) 28 26)),
  (26, .inl (o_push (.int 0) 27)),
  (27, .inr (.inl (some k_bool))),
  (28, .inl (o_al 0 29)),
  (29, .inl (o_get 8 26 32)),
  (32, .inl (o_push (.int 12) 34)),
  (34, .inl (o_il 1 35)),
  (35, .inl (o_bin (fun x y => x * y) 36)),
  (36, .inl (o_il 2 37)),
  (37, .inl (o_bin (fun x y => x + y) 38)),
  (38, .inl (o_il 3 39)),
  (39, .inl (o_push (.int (2147483647 : Int32)) 41)),
  (41, .inl (o_bin (fun x y => x &&& y) 42)),
  (42, .inl (o_ias 43)),
  (43, .inl (o_al 0 44)),
  (44, .inl (o_get 8 27 47)),
  (47, .inl (o_push (.int 12) 49)),
  (49, .inl (o_il 1 50)),
  (50, .inl (o_bin (fun x y => x * y) 51)),
  (51, .inl (o_il 2 52)),
  (52, .inl (o_bin (fun x y => x + y) 53)),
  (53, .inl (o_il 4 55)),
  (55, .inl (o_ias 56)),
  (56, .inl (o_push (.int 1) 57)),
  (57, .inr (.inl (some k_bool)))]
theorem te_133 : ∀ q ∈ tb_133, ae_E am "TwinNetworkModel" "harm" prog_10_method_40_code 5 (Option.some Jvm.ClassFile.FieldType.boolean) [] q := by
  unfold tb_133
  refine List.forall_mem_cons.mpr ⟨ae_mk pu_al (fun X => ok_aload_n X (k := 0) rfl (by decide +kernel)), ?_⟩
  refine List.forall_mem_cons.mpr ⟨ae_mk (pu_push (fun _ => trivial)) (fun X => ok_iconst X (n := 0) (by decide) (by decide +kernel)), ?_⟩
  refine List.forall_mem_cons.mpr ⟨ae_mk pu_put (fun X => ok_put X (ci := 8) (kk := 0) (index := 127) rfl aw_c_Model (by decide) wd_776 cy_Model cn_Model_ty cn_Model_nm rfl hk_int rfl (by decide +kernel)), ?_⟩
  refine List.forall_mem_cons.mpr ⟨ae_mk pu_il (fun X => ok_iload_n X (k := 1) rfl (by decide +kernel)), ?_⟩
  refine List.forall_mem_cons.mpr ⟨ae_mk pu_il (fun X => ok_iload_n X (k := 2) rfl (by decide +kernel)), ?_⟩
  refine List.forall_mem_cons.mpr ⟨ae_mkc (fun X => ok_callS X (mid := 134) (index := 242) (y := my_134) rfl (by decide) ⟨by decide, by decide⟩ (n := 2) (by decide +kernel) wd_1049 wd_51 wd_1047 wd_1048 (by decide +kernel)), ?_⟩
  refine List.forall_mem_cons.mpr ⟨ae_mk pu_if (fun X => ok_if_eq X (off := 16) (by decide) (by decide +kernel)), ?_⟩
  refine List.forall_mem_cons.mpr ⟨ae_mk pu_il (fun X => ok_iload X (by decide +kernel)), ?_⟩
  refine List.forall_mem_cons.mpr ⟨ae_mk pu_if (fun X => ok_if_lt X (off := 11) (by decide) (by decide +kernel)), ?_⟩
  refine List.forall_mem_cons.mpr ⟨ae_mk pu_il (fun X => ok_iload X (by decide +kernel)), ?_⟩
  refine List.forall_mem_cons.mpr ⟨ae_mk (pu_push (fun _ => trivial)) (fun X => ok_sipush X (n := 255) (by decide) (by decide +kernel)), ?_⟩
  refine List.forall_mem_cons.mpr ⟨ae_mk pu_ic (fun X => ok_ic_le X (off := 5) (by decide) (by decide +kernel)), ?_⟩
  refine List.forall_mem_cons.mpr ⟨ae_mk (pu_push (fun _ => trivial)) (fun X => ok_iconst X (n := 0) (by decide) (by decide +kernel)), ?_⟩
  refine List.forall_mem_cons.mpr ⟨Or.inr (Or.inl ⟨rfl, (by decide +kernel), rt_bool⟩), ?_⟩
  refine List.forall_mem_cons.mpr ⟨ae_mk pu_al (fun X => ok_aload_n X (k := 0) rfl (by decide +kernel)), ?_⟩
  refine List.forall_mem_cons.mpr ⟨ae_mk pu_get (fun X => ok_get X (ci := 8) (kk := 26) (index := 84) rfl aw_c_Model (by decide) wd_802 (by decide +kernel)), ?_⟩
  refine List.forall_mem_cons.mpr ⟨ae_mk (pu_push (fun _ => trivial)) (fun X => ok_bipush X (n := 12) (by decide) (by decide +kernel)), ?_⟩
  refine List.forall_mem_cons.mpr ⟨ae_mk pu_il (fun X => ok_iload_n X (k := 1) rfl (by decide +kernel)), ?_⟩
  refine List.forall_mem_cons.mpr ⟨ae_mk pu_bin (fun X => ok_imul X (by decide +kernel)), ?_⟩
  refine List.forall_mem_cons.mpr ⟨ae_mk pu_il (fun X => ok_iload_n X (k := 2) rfl (by decide +kernel)), ?_⟩
  refine List.forall_mem_cons.mpr ⟨ae_mk pu_bin (fun X => ok_iadd X (by decide +kernel)), ?_⟩
  refine List.forall_mem_cons.mpr ⟨ae_mk pu_il (fun X => ok_iload_n X (k := 3) rfl (by decide +kernel)), ?_⟩
  refine List.forall_mem_cons.mpr ⟨ae_mk (pu_push (fun _ => trivial)) (fun X => ok_ldc X (index := 245) wd_1050 (by decide +kernel)), ?_⟩
  refine List.forall_mem_cons.mpr ⟨ae_mk pu_bin (fun X => ok_iand X (by decide +kernel)), ?_⟩
  refine List.forall_mem_cons.mpr ⟨ae_mk pu_ias (fun X => ok_ias X (by decide +kernel)), ?_⟩
  refine List.forall_mem_cons.mpr ⟨ae_mk pu_al (fun X => ok_aload_n X (k := 0) rfl (by decide +kernel)), ?_⟩
  refine List.forall_mem_cons.mpr ⟨ae_mk pu_get (fun X => ok_get X (ci := 8) (kk := 27) (index := 87) rfl aw_c_Model (by decide) wd_803 (by decide +kernel)), ?_⟩
  refine List.forall_mem_cons.mpr ⟨ae_mk (pu_push (fun _ => trivial)) (fun X => ok_bipush X (n := 12) (by decide) (by decide +kernel)), ?_⟩
  refine List.forall_mem_cons.mpr ⟨ae_mk pu_il (fun X => ok_iload_n X (k := 1) rfl (by decide +kernel)), ?_⟩
  refine List.forall_mem_cons.mpr ⟨ae_mk pu_bin (fun X => ok_imul X (by decide +kernel)), ?_⟩
  refine List.forall_mem_cons.mpr ⟨ae_mk pu_il (fun X => ok_iload_n X (k := 2) rfl (by decide +kernel)), ?_⟩
  refine List.forall_mem_cons.mpr ⟨ae_mk pu_bin (fun X => ok_iadd X (by decide +kernel)), ?_⟩
  refine List.forall_mem_cons.mpr ⟨ae_mk pu_il (fun X => ok_iload X (by decide +kernel)), ?_⟩
  refine List.forall_mem_cons.mpr ⟨ae_mk pu_ias (fun X => ok_ias X (by decide +kernel)), ?_⟩
  refine List.forall_mem_cons.mpr ⟨ae_mk (pu_push (fun _ => trivial)) (fun X => ok_iconst X (n := 1) (by decide) (by decide +kernel)), ?_⟩
  refine List.forall_mem_cons.mpr ⟨Or.inr (Or.inl ⟨rfl, (by decide +kernel), rt_bool⟩), ?_⟩
  exact fun _ h => absurd h List.not_mem_nil
def tb_134 : List (Nat × ae_I) := [(0, .inl (o_il 0 1)),
  (1, .inl (o_if (fun x => decide (x < 0)) 23 4)),
  (4, .inl (o_il 0 5)),
  (5, .inl (o_push (.int 2) 6)),
  (6, .inl (o_ic (fun x y => decide (y ≤ x)) 23 9)),
  (9, .inl (o_il 1 10)),
  (10, .inl (o_if (fun x => decide (x < 0)) 23 13)),
  (13, .inl (o_il 1 14)),
  (14, .inl (o_push (.int 12) 16)),
  (16, .inl (o_ic (fun x y => decide (y ≤ x)) 23 19)),
  (19, .inl (o_push (.int 1) 20)),
  (20, .inl (o_goto 24)),
  (23, .inl (o_push (.int 0) 24)),
  (24, .inr (.inl (some k_bool)))]
theorem te_134 : ∀ q ∈ tb_134, ae_E am "TwinNetworkModel" "isLine" prog_10_method_39_code 2 (Option.some Jvm.ClassFile.FieldType.boolean) [] q := by
  unfold tb_134
  refine List.forall_mem_cons.mpr ⟨ae_mk pu_il (fun X => ok_iload_n X (k := 0) rfl (by decide +kernel)), ?_⟩
  refine List.forall_mem_cons.mpr ⟨ae_mk pu_if (fun X => ok_if_lt X (off := 22) (by decide) (by decide +kernel)), ?_⟩
  refine List.forall_mem_cons.mpr ⟨ae_mk pu_il (fun X => ok_iload_n X (k := 0) rfl (by decide +kernel)), ?_⟩
  refine List.forall_mem_cons.mpr ⟨ae_mk (pu_push (fun _ => trivial)) (fun X => ok_iconst X (n := 2) (by decide) (by decide +kernel)), ?_⟩
  refine List.forall_mem_cons.mpr ⟨ae_mk pu_ic (fun X => ok_ic_ge X (off := 17) (by decide) (by decide +kernel)), ?_⟩
  refine List.forall_mem_cons.mpr ⟨ae_mk pu_il (fun X => ok_iload_n X (k := 1) rfl (by decide +kernel)), ?_⟩
  refine List.forall_mem_cons.mpr ⟨ae_mk pu_if (fun X => ok_if_lt X (off := 13) (by decide) (by decide +kernel)), ?_⟩
  refine List.forall_mem_cons.mpr ⟨ae_mk pu_il (fun X => ok_iload_n X (k := 1) rfl (by decide +kernel)), ?_⟩
  refine List.forall_mem_cons.mpr ⟨ae_mk (pu_push (fun _ => trivial)) (fun X => ok_bipush X (n := 12) (by decide) (by decide +kernel)), ?_⟩
  refine List.forall_mem_cons.mpr ⟨ae_mk pu_ic (fun X => ok_ic_ge X (off := 7) (by decide) (by decide +kernel)), ?_⟩
  refine List.forall_mem_cons.mpr ⟨ae_mk (pu_push (fun _ => trivial)) (fun X => ok_iconst X (n := 1) (by decide) (by decide +kernel)), ?_⟩
  refine List.forall_mem_cons.mpr ⟨ae_mk pu_goto (fun X => ok_goto X (off := 4) (by decide) (by decide +kernel)), ?_⟩
  refine List.forall_mem_cons.mpr ⟨ae_mk (pu_push (fun _ => trivial)) (fun X => ok_iconst X (n := 0) (by decide) (by decide +kernel)), ?_⟩
  refine List.forall_mem_cons.mpr ⟨Or.inr (Or.inl ⟨rfl, (by decide +kernel), rt_bool⟩), ?_⟩
  exact fun _ h => absurd h List.not_mem_nil
def tb_135 : List (Nat × ae_I) := [(0, .inl (o_al 0 1)),
  (1, .inl (o_push (.int 0) 2)),
  (2, .inl (o_put 8 0 k_int 5)),
  (5, .inl (o_il 1 6)),
  (6, .inl (o_if (fun x => decide (x < 0)) 66 9)),
  (9, .inl (o_il 1 10)),
  (10, .inl (o_push (.int 1) 11)),
  (11, .inl (o_ic (fun x y => decide (y < x)) 66 14)),
  (14, .inl (o_il 2 15)),
  (15, .inl (o_if (fun x => decide (x < 0)) 66 18)),
  (18, .inl (o_il 2 19)),
  (19, .inl (o_push (.int 3) 20)),
  (20, .inl (o_ic (fun x y => decide (y < x)) 66 23)),
  (23, .inl (o_il 3 24)),
  (24, .inl (o_if (fun x => decide (x < 0)) 66 27)),
  (27, .inl (o_il 3 28)),
  (28, .inl (o_push (.int 7) 30)),
  (30, .inl (o_ic (fun x y => decide (y < x)) 66 33)),
  (33, .inl (o_il 4 35)),
  (35, .inl (o_push (.int 64) 37)),
  (37, .inl (o_ic (fun x y => decide (x < y)) 66 40)),
  (40, .inl (o_il 4 42)),
  (42, .inl (o_push (.int 200) 45)),
  (45, .inl (o_ic (fun x y => decide (y < x)) 66 48)),
  (48, .inl (o_al 0 49)),
  (49, .inl (o_get 8 23 52)),
  (52, .inl (o_push (.int 2) 53)),
  (53, .inl (o_push (.int 12) 55)),
  (55, .inl (o_il 1 56)),
  (56, .inl (o_bin (fun x y => x * y) 57)),
  (57, .inl (o_il 2 58)),
  (58, .inl (o_bin (fun x y => x + y) 59)),
  (59, .inl (o_bin (fun x y => x * y) 60)),
  (60, .inl (o_ia 61)),
  (61, .inl (o_push (.int 16) 63)),
  (63, .inl (o_ic (fun x y => decide (¬ x = y)) 68 66)),
  (66, .inl (o_push (.int 0) 67)),
  (67, .inr (.inl (some k_bool))),
  (68, .inl (o_al 0 69)),
  (69, .inl (o_il 1 70)),
  (70, .inl (o_il 2 71)),
  (71, .inl (o_il 3 72)),
  (72, .inl (o_il 4 74)),
  (74, .inl (o_push (.int 39) 76)),
  (76, .inl (o_bin (fun x y => x - y) 77)),
  (77, .inl (o_il 5 79)),
  (79, .inl (o_push (.int (65535 : Int32)) 81)),
  (81, .inl (o_bin (fun x y => x &&& y) 82)),
  (82, .inl (o_push (.int 0) 83)),
  (83, .inl (o_push (.int 0) 84)),
  (84, .inr (.inr (.inl (103, 8, 87, some 8, [])))),
  (87, .inl (o_is 6 89)),
  (89, .inl (o_al 0 90)),
  (90, .inl (o_il 6 92)),
  (92, .inl (o_il 5 94)),
  (94, .inl (o_push (.int 255) 97)),
  (97, .inl (o_bin (fun x y => x &&& y) 98)),
  (98, .inr (.inr (.inl (110, 3, 101, some 8, [])))),
  (101, .inl (o_al 0 102)),
  (102, .inl (o_push (.int 12) 104)),
  (104, .inl (o_il 1 105)),
  (105, .inl (o_bin (fun x y => x * y) 106)),
  (106, .inl (o_il 2 107)),
  (107, .inl (o_bin (fun x y => x + y) 108)),
  (108, .inl (o_il 6 110)),
  (110, .inl (o_push (.int 0) 111)),
  (111, .inr (.inr (.inl (112, 4, 114, some 8, [])))),
  (114, .inl (o_push (.int 1) 115)),
  (115, .inr (.inl (some k_bool)))]
theorem te_135 : ∀ q ∈ tb_135, ae_E am "TwinNetworkModel" "babble" prog_10_method_41_code 7 (Option.some Jvm.ClassFile.FieldType.boolean) [] q := by
  unfold tb_135
  refine List.forall_mem_cons.mpr ⟨ae_mk pu_al (fun X => ok_aload_n X (k := 0) rfl (by decide +kernel)), ?_⟩
  refine List.forall_mem_cons.mpr ⟨ae_mk (pu_push (fun _ => trivial)) (fun X => ok_iconst X (n := 0) (by decide) (by decide +kernel)), ?_⟩
  refine List.forall_mem_cons.mpr ⟨ae_mk pu_put (fun X => ok_put X (ci := 8) (kk := 0) (index := 127) rfl aw_c_Model (by decide) wd_776 cy_Model cn_Model_ty cn_Model_nm rfl hk_int rfl (by decide +kernel)), ?_⟩
  refine List.forall_mem_cons.mpr ⟨ae_mk pu_il (fun X => ok_iload_n X (k := 1) rfl (by decide +kernel)), ?_⟩
  refine List.forall_mem_cons.mpr ⟨ae_mk pu_if (fun X => ok_if_lt X (off := 60) (by decide) (by decide +kernel)), ?_⟩
  refine List.forall_mem_cons.mpr ⟨ae_mk pu_il (fun X => ok_iload_n X (k := 1) rfl (by decide +kernel)), ?_⟩
  refine List.forall_mem_cons.mpr ⟨ae_mk (pu_push (fun _ => trivial)) (fun X => ok_iconst X (n := 1) (by decide) (by decide +kernel)), ?_⟩
  refine List.forall_mem_cons.mpr ⟨ae_mk pu_ic (fun X => ok_ic_gt X (off := 55) (by decide) (by decide +kernel)), ?_⟩
  refine List.forall_mem_cons.mpr ⟨ae_mk pu_il (fun X => ok_iload_n X (k := 2) rfl (by decide +kernel)), ?_⟩
  refine List.forall_mem_cons.mpr ⟨ae_mk pu_if (fun X => ok_if_lt X (off := 51) (by decide) (by decide +kernel)), ?_⟩
  refine List.forall_mem_cons.mpr ⟨ae_mk pu_il (fun X => ok_iload_n X (k := 2) rfl (by decide +kernel)), ?_⟩
  refine List.forall_mem_cons.mpr ⟨ae_mk (pu_push (fun _ => trivial)) (fun X => ok_iconst X (n := 3) (by decide) (by decide +kernel)), ?_⟩
  refine List.forall_mem_cons.mpr ⟨ae_mk pu_ic (fun X => ok_ic_gt X (off := 46) (by decide) (by decide +kernel)), ?_⟩
  refine List.forall_mem_cons.mpr ⟨ae_mk pu_il (fun X => ok_iload_n X (k := 3) rfl (by decide +kernel)), ?_⟩
  refine List.forall_mem_cons.mpr ⟨ae_mk pu_if (fun X => ok_if_lt X (off := 42) (by decide) (by decide +kernel)), ?_⟩
  refine List.forall_mem_cons.mpr ⟨ae_mk pu_il (fun X => ok_iload_n X (k := 3) rfl (by decide +kernel)), ?_⟩
  refine List.forall_mem_cons.mpr ⟨ae_mk (pu_push (fun _ => trivial)) (fun X => ok_bipush X (n := 7) (by decide) (by decide +kernel)), ?_⟩
  refine List.forall_mem_cons.mpr ⟨ae_mk pu_ic (fun X => ok_ic_gt X (off := 36) (by decide) (by decide +kernel)), ?_⟩
  refine List.forall_mem_cons.mpr ⟨ae_mk pu_il (fun X => ok_iload X (by decide +kernel)), ?_⟩
  refine List.forall_mem_cons.mpr ⟨ae_mk (pu_push (fun _ => trivial)) (fun X => ok_bipush X (n := 64) (by decide) (by decide +kernel)), ?_⟩
  refine List.forall_mem_cons.mpr ⟨ae_mk pu_ic (fun X => ok_ic_lt X (off := 29) (by decide) (by decide +kernel)), ?_⟩
  refine List.forall_mem_cons.mpr ⟨ae_mk pu_il (fun X => ok_iload X (by decide +kernel)), ?_⟩
  refine List.forall_mem_cons.mpr ⟨ae_mk (pu_push (fun _ => trivial)) (fun X => ok_sipush X (n := 200) (by decide) (by decide +kernel)), ?_⟩
  refine List.forall_mem_cons.mpr ⟨ae_mk pu_ic (fun X => ok_ic_gt X (off := 21) (by decide) (by decide +kernel)), ?_⟩
  refine List.forall_mem_cons.mpr ⟨ae_mk pu_al (fun X => ok_aload_n X (k := 0) rfl (by decide +kernel)), ?_⟩
  refine List.forall_mem_cons.mpr ⟨ae_mk pu_get (fun X => ok_get X (ci := 8) (kk := 23) (index := 75) rfl aw_c_Model (by decide) wd_799 (by decide +kernel)), ?_⟩
  refine List.forall_mem_cons.mpr ⟨ae_mk (pu_push (fun _ => trivial)) (fun X => ok_iconst X (n := 2) (by decide) (by decide +kernel)), ?_⟩
  refine List.forall_mem_cons.mpr ⟨ae_mk (pu_push (fun _ => trivial)) (fun X => ok_bipush X (n := 12) (by decide) (by decide +kernel)), ?_⟩
  refine List.forall_mem_cons.mpr ⟨ae_mk pu_il (fun X => ok_iload_n X (k := 1) rfl (by decide +kernel)), ?_⟩
  refine List.forall_mem_cons.mpr ⟨ae_mk pu_bin (fun X => ok_imul X (by decide +kernel)), ?_⟩
  refine List.forall_mem_cons.mpr ⟨ae_mk pu_il (fun X => ok_iload_n X (k := 2) rfl (by decide +kernel)), ?_⟩
  refine List.forall_mem_cons.mpr ⟨ae_mk pu_bin (fun X => ok_iadd X (by decide +kernel)), ?_⟩
  refine List.forall_mem_cons.mpr ⟨ae_mk pu_bin (fun X => ok_imul X (by decide +kernel)), ?_⟩
  refine List.forall_mem_cons.mpr ⟨ae_mk pu_ia (fun X => ok_ia X (by decide +kernel)), ?_⟩
  refine List.forall_mem_cons.mpr ⟨ae_mk (pu_push (fun _ => trivial)) (fun X => ok_bipush X (n := 16) (by decide) (by decide +kernel)), ?_⟩
  refine List.forall_mem_cons.mpr ⟨ae_mk pu_ic (fun X => ok_ic_ne X (off := 5) (by decide) (by decide +kernel)), ?_⟩
  refine List.forall_mem_cons.mpr ⟨ae_mk (pu_push (fun _ => trivial)) (fun X => ok_iconst X (n := 0) (by decide) (by decide +kernel)), ?_⟩
  refine List.forall_mem_cons.mpr ⟨Or.inr (Or.inl ⟨rfl, (by decide +kernel), rt_bool⟩), ?_⟩
  refine List.forall_mem_cons.mpr ⟨ae_mk pu_al (fun X => ok_aload_n X (k := 0) rfl (by decide +kernel)), ?_⟩
  refine List.forall_mem_cons.mpr ⟨ae_mk pu_il (fun X => ok_iload_n X (k := 1) rfl (by decide +kernel)), ?_⟩
  refine List.forall_mem_cons.mpr ⟨ae_mk pu_il (fun X => ok_iload_n X (k := 2) rfl (by decide +kernel)), ?_⟩
  refine List.forall_mem_cons.mpr ⟨ae_mk pu_il (fun X => ok_iload_n X (k := 3) rfl (by decide +kernel)), ?_⟩
  refine List.forall_mem_cons.mpr ⟨ae_mk pu_il (fun X => ok_iload X (by decide +kernel)), ?_⟩
  refine List.forall_mem_cons.mpr ⟨ae_mk (pu_push (fun _ => trivial)) (fun X => ok_bipush X (n := 39) (by decide) (by decide +kernel)), ?_⟩
  refine List.forall_mem_cons.mpr ⟨ae_mk pu_bin (fun X => ok_isub X (by decide +kernel)), ?_⟩
  refine List.forall_mem_cons.mpr ⟨ae_mk pu_il (fun X => ok_iload X (by decide +kernel)), ?_⟩
  refine List.forall_mem_cons.mpr ⟨ae_mk (pu_push (fun _ => trivial)) (fun X => ok_ldc X (index := 157) wd_950 (by decide +kernel)), ?_⟩
  refine List.forall_mem_cons.mpr ⟨ae_mk pu_bin (fun X => ok_iand X (by decide +kernel)), ?_⟩
  refine List.forall_mem_cons.mpr ⟨ae_mk (pu_push (fun _ => trivial)) (fun X => ok_iconst X (n := 0) (by decide) (by decide +kernel)), ?_⟩
  refine List.forall_mem_cons.mpr ⟨ae_mk (pu_push (fun _ => trivial)) (fun X => ok_iconst X (n := 0) (by decide) (by decide +kernel)), ?_⟩
  refine List.forall_mem_cons.mpr ⟨ae_mkc (fun X => ok_callV X (mid := 103) (index := 180) (y := my_103) rfl (by decide) ⟨by decide, by decide⟩ (n := 7) (by decide +kernel) wd_929 wd_51 wd_926 wd_928 wd_23 (ci := 8) rfl (by decide +kernel)), ?_⟩
  refine List.forall_mem_cons.mpr ⟨ae_mk pu_is (fun X => ok_istore X (by decide +kernel)), ?_⟩
  refine List.forall_mem_cons.mpr ⟨ae_mk pu_al (fun X => ok_aload_n X (k := 0) rfl (by decide +kernel)), ?_⟩
  refine List.forall_mem_cons.mpr ⟨ae_mk pu_il (fun X => ok_iload X (by decide +kernel)), ?_⟩
  refine List.forall_mem_cons.mpr ⟨ae_mk pu_il (fun X => ok_iload X (by decide +kernel)), ?_⟩
  refine List.forall_mem_cons.mpr ⟨ae_mk (pu_push (fun _ => trivial)) (fun X => ok_sipush X (n := 255) (by decide) (by decide +kernel)), ?_⟩
  refine List.forall_mem_cons.mpr ⟨ae_mk pu_bin (fun X => ok_iand X (by decide +kernel)), ?_⟩
  refine List.forall_mem_cons.mpr ⟨ae_mkc (fun X => ok_callV X (mid := 110) (index := 188) (y := my_110) rfl (by decide) ⟨by decide, by decide⟩ (n := 2) (by decide +kernel) wd_957 wd_51 wd_954 wd_956 wd_29 (ci := 8) rfl (by decide +kernel)), ?_⟩
  refine List.forall_mem_cons.mpr ⟨ae_mk pu_al (fun X => ok_aload_n X (k := 0) rfl (by decide +kernel)), ?_⟩
  refine List.forall_mem_cons.mpr ⟨ae_mk (pu_push (fun _ => trivial)) (fun X => ok_bipush X (n := 12) (by decide) (by decide +kernel)), ?_⟩
  refine List.forall_mem_cons.mpr ⟨ae_mk pu_il (fun X => ok_iload_n X (k := 1) rfl (by decide +kernel)), ?_⟩
  refine List.forall_mem_cons.mpr ⟨ae_mk pu_bin (fun X => ok_imul X (by decide +kernel)), ?_⟩
  refine List.forall_mem_cons.mpr ⟨ae_mk pu_il (fun X => ok_iload_n X (k := 2) rfl (by decide +kernel)), ?_⟩
  refine List.forall_mem_cons.mpr ⟨ae_mk pu_bin (fun X => ok_iadd X (by decide +kernel)), ?_⟩
  refine List.forall_mem_cons.mpr ⟨ae_mk pu_il (fun X => ok_iload X (by decide +kernel)), ?_⟩
  refine List.forall_mem_cons.mpr ⟨ae_mk (pu_push (fun _ => trivial)) (fun X => ok_iconst X (n := 0) (by decide) (by decide +kernel)), ?_⟩
  refine List.forall_mem_cons.mpr ⟨ae_mkc (fun X => ok_callV X (mid := 112) (index := 191) (y := my_112) rfl (by decide) ⟨by decide, by decide⟩ (n := 3) (by decide +kernel) wd_966 wd_51 wd_963 wd_965 wd_31 (ci := 8) rfl (by decide +kernel)), ?_⟩
  refine List.forall_mem_cons.mpr ⟨ae_mk (pu_push (fun _ => trivial)) (fun X => ok_iconst X (n := 1) (by decide) (by decide +kernel)), ?_⟩
  refine List.forall_mem_cons.mpr ⟨Or.inr (Or.inl ⟨rfl, (by decide +kernel), rt_bool⟩), ?_⟩
  exact fun _ h => absurd h List.not_mem_nil
def tb_136 : List (Nat × ae_I) := [(0, .inl (o_al 0 1)),
  (1, .inl (o_push (.int 0) 2)),
  (2, .inl (o_put 8 0 k_int 5)),
  (5, .inl (o_il 1 6)),
  (6, .inl (o_il 2 7)),
  (7, .inr (.inr (.inl (134, 2, 10, none, [])))),
  (10, .inl (o_if (fun x => decide (¬ x = 0)) 15 13)),
  (13, .inl (o_push (.int (-1)) 14)),
  (14, .inr (.inl (some k_int))),
  (15, .inl (o_al 0 16)),
  (16, .inl (o_get 8 24 19)),
  (19, .inl (o_push (.int 12) 21)),
  (21, .inl (o_il 1 22)),
  (22, .inl (o_bin (fun x y => x * y) 23)),
  (23, .inl (o_il 2 24)),
  (24, .inl (o_bin (fun x y => x + y) 25)),
  (25, .inl (o_ia 26)),
  (26, .inl (o_is 4 28)),
  (28, .inl (o_il 4 30)),
  (30, .inl (o_push (.int (-1)) 31)),
  (31, .inl (o_ic (fun x y => decide (x = y)) 50 34)),
  (34, .inl (o_il 3 35)),
  (35, .inl (o_push (.int (-1)) 36)),
  (36, .inl (o_ic (fun x y => decide (x < y)) 50 39)),
  (39, .inl (o_il 3 40)),
  (40, .inl (o_al 0 41)),
  (41, .inl (o_get 8 20 44)),
  (44, .inl (o_il 4 46)),
  (46, .inl (o_ia 47)),
  (47, .inl (o_ic (fun x y => decide (x < y)) 52 50)),
  (50, .inl (o_push (.int (-1)) 51)),
  (51, .inr (.inl (some k_int))),
  (52, .inl (o_il 3 53)),
  (53, .inl (o_push (.int (-1)) 54)),
  (54, .inl (o_ic (fun x y => decide (¬ x = y)) 67 57)),
  (57, .inl (o_al 0 58)),
  (58, .inl (o_get 8 20 61)),
  (61, .inl (o_il 4 63)),
  (63, .inl (o_ia 64)),
  (64, .inl (o_goto 74)),
  (67, .inl (o_al 0 68)),
  (68, .inl (o_il 4 70)),
  (70, .inl (o_il 3 71)),
  (71, .inr (.inr (.inl (108, 3, 74, some 8, [])))),
  (74, .inr (.inl (some k_int)))]
theorem te_136 : ∀ q ∈ tb_136, ae_E am "TwinNetworkModel" "onLine" prog_10_method_42_code 5 (Option.some Jvm.ClassFile.FieldType.int) [] q := by
  unfold tb_136
  refine List.forall_mem_cons.mpr ⟨ae_mk pu_al (fun X => ok_aload_n X (k := 0) rfl (by decide +kernel)), ?_⟩
  refine List.forall_mem_cons.mpr ⟨ae_mk (pu_push (fun _ => trivial)) (fun X => ok_iconst X (n := 0) (by decide) (by decide +kernel)), ?_⟩
  refine List.forall_mem_cons.mpr ⟨ae_mk pu_put (fun X => ok_put X (ci := 8) (kk := 0) (index := 127) rfl aw_c_Model (by decide) wd_776 cy_Model cn_Model_ty cn_Model_nm rfl hk_int rfl (by decide +kernel)), ?_⟩
  refine List.forall_mem_cons.mpr ⟨ae_mk pu_il (fun X => ok_iload_n X (k := 1) rfl (by decide +kernel)), ?_⟩
  refine List.forall_mem_cons.mpr ⟨ae_mk pu_il (fun X => ok_iload_n X (k := 2) rfl (by decide +kernel)), ?_⟩
  refine List.forall_mem_cons.mpr ⟨ae_mkc (fun X => ok_callS X (mid := 134) (index := 242) (y := my_134) rfl (by decide) ⟨by decide, by decide⟩ (n := 2) (by decide +kernel) wd_1049 wd_51 wd_1047 wd_1048 (by decide +kernel)), ?_⟩
  refine List.forall_mem_cons.mpr ⟨ae_mk pu_if (fun X => ok_if_ne X (off := 5) (by decide) (by decide +kernel)), ?_⟩
  refine List.forall_mem_cons.mpr ⟨ae_mk (pu_push (fun _ => trivial)) (fun X => ok_iconst X (n := (-1)) (by decide) (by decide +kernel)), ?_⟩
  refine List.forall_mem_cons.mpr ⟨Or.inl ⟨rfl, (by decide +kernel), rt_int⟩, ?_⟩
  refine List.forall_mem_cons.mpr ⟨ae_mk pu_al (fun X => ok_aload_n X (k := 0) rfl (by decide +kernel)), ?_⟩
  refine List.forall_mem_cons.mpr ⟨ae_mk pu_get (fun X => ok_get X (ci := 8) (kk := 24) (index := 78) rfl aw_c_Model (by decide) wd_800 (by decide +kernel)), ?_⟩
  refine List.forall_mem_cons.mpr ⟨ae_mk (pu_push (fun _ => trivial)) (fun X => ok_bipush X (n := 12) (by decide) (by decide +kernel)), ?_⟩
  refine List.forall_mem_cons.mpr ⟨ae_mk pu_il (fun X => ok_iload_n X (k := 1) rfl (by decide +kernel)), ?_⟩
  refine List.forall_mem_cons.mpr ⟨ae_mk pu_bin (fun X => ok_imul X (by decide +kernel)), ?_⟩
  refine List.forall_mem_cons.mpr ⟨ae_mk pu_il (fun X => ok_iload_n X (k := 2) rfl (by decide +kernel)), ?_⟩
  refine List.forall_mem_cons.mpr ⟨ae_mk pu_bin (fun X => ok_iadd X (by decide +kernel)), ?_⟩
  refine List.forall_mem_cons.mpr ⟨ae_mk pu_ia (fun X => ok_ia X (by decide +kernel)), ?_⟩
  refine List.forall_mem_cons.mpr ⟨ae_mk pu_is (fun X => ok_istore X (by decide +kernel)), ?_⟩
  refine List.forall_mem_cons.mpr ⟨ae_mk pu_il (fun X => ok_iload X (by decide +kernel)), ?_⟩
  refine List.forall_mem_cons.mpr ⟨ae_mk (pu_push (fun _ => trivial)) (fun X => ok_iconst X (n := (-1)) (by decide) (by decide +kernel)), ?_⟩
  refine List.forall_mem_cons.mpr ⟨ae_mk pu_ic (fun X => ok_ic_eq X (off := 19) (by decide) (by decide +kernel)), ?_⟩
  refine List.forall_mem_cons.mpr ⟨ae_mk pu_il (fun X => ok_iload_n X (k := 3) rfl (by decide +kernel)), ?_⟩
  refine List.forall_mem_cons.mpr ⟨ae_mk (pu_push (fun _ => trivial)) (fun X => ok_iconst X (n := (-1)) (by decide) (by decide +kernel)), ?_⟩
  refine List.forall_mem_cons.mpr ⟨ae_mk pu_ic (fun X => ok_ic_lt X (off := 14) (by decide) (by decide +kernel)), ?_⟩
  refine List.forall_mem_cons.mpr ⟨ae_mk pu_il (fun X => ok_iload_n X (k := 3) rfl (by decide +kernel)), ?_⟩
  refine List.forall_mem_cons.mpr ⟨ae_mk pu_al (fun X => ok_aload_n X (k := 0) rfl (by decide +kernel)), ?_⟩
  refine List.forall_mem_cons.mpr ⟨ae_mk pu_get (fun X => ok_get X (ci := 8) (kk := 20) (index := 66) rfl aw_c_Model (by decide) wd_796 (by decide +kernel)), ?_⟩
  refine List.forall_mem_cons.mpr ⟨ae_mk pu_il (fun X => ok_iload X (by decide +kernel)), ?_⟩
  refine List.forall_mem_cons.mpr ⟨ae_mk pu_ia (fun X => ok_ia X (by decide +kernel)), ?_⟩
  refine List.forall_mem_cons.mpr ⟨ae_mk pu_ic (fun X => ok_ic_lt X (off := 5) (by decide) (by decide +kernel)), ?_⟩
  refine List.forall_mem_cons.mpr ⟨ae_mk (pu_push (fun _ => trivial)) (fun X => ok_iconst X (n := (-1)) (by decide) (by decide +kernel)), ?_⟩
  refine List.forall_mem_cons.mpr ⟨Or.inl ⟨rfl, (by decide +kernel), rt_int⟩, ?_⟩
  refine List.forall_mem_cons.mpr ⟨ae_mk pu_il (fun X => ok_iload_n X (k := 3) rfl (by decide +kernel)), ?_⟩
  refine List.forall_mem_cons.mpr ⟨ae_mk (pu_push (fun _ => trivial)) (fun X => ok_iconst X (n := (-1)) (by decide) (by decide +kernel)), ?_⟩
  refine List.forall_mem_cons.mpr ⟨ae_mk pu_ic (fun X => ok_ic_ne X (off := 13) (by decide) (by decide +kernel)), ?_⟩
  refine List.forall_mem_cons.mpr ⟨ae_mk pu_al (fun X => ok_aload_n X (k := 0) rfl (by decide +kernel)), ?_⟩
  refine List.forall_mem_cons.mpr ⟨ae_mk pu_get (fun X => ok_get X (ci := 8) (kk := 20) (index := 66) rfl aw_c_Model (by decide) wd_796 (by decide +kernel)), ?_⟩
  refine List.forall_mem_cons.mpr ⟨ae_mk pu_il (fun X => ok_iload X (by decide +kernel)), ?_⟩
  refine List.forall_mem_cons.mpr ⟨ae_mk pu_ia (fun X => ok_ia X (by decide +kernel)), ?_⟩
  refine List.forall_mem_cons.mpr ⟨ae_mk pu_goto (fun X => ok_goto X (off := 10) (by decide) (by decide +kernel)), ?_⟩
  refine List.forall_mem_cons.mpr ⟨ae_mk pu_al (fun X => ok_aload_n X (k := 0) rfl (by decide +kernel)), ?_⟩
  refine List.forall_mem_cons.mpr ⟨ae_mk pu_il (fun X => ok_iload X (by decide +kernel)), ?_⟩
  refine List.forall_mem_cons.mpr ⟨ae_mk pu_il (fun X => ok_iload_n X (k := 3) rfl (by decide +kernel)), ?_⟩
  refine List.forall_mem_cons.mpr ⟨ae_mkc (fun X => ok_callV X (mid := 108) (index := 150) (y := my_108) rfl (by decide) ⟨by decide, by decide⟩ (n := 2) (by decide +kernel) wd_949 wd_51 wd_946 wd_948 wd_28 (ci := 8) rfl (by decide +kernel)), ?_⟩
  refine List.forall_mem_cons.mpr ⟨Or.inl ⟨rfl, (by decide +kernel), rt_int⟩, ?_⟩
  exact fun _ h => absurd h List.not_mem_nil
def tb_137 : List (Nat × ae_I) := [(0, .inl (o_al 0 1)),
  (1, .inl (o_push (.int 0) 2)),
  (2, .inl (o_put 8 0 k_int 5)),
  (5, .inl (o_il 1 6)),
  (6, .inl (o_il 2 7)),
  (7, .inr (.inr (.inl (134, 2, 10, none, [])))),
  (10, .inl (o_if (fun x => decide (x = 0)) 22 13)),
  (13, .inl (o_il 3 14)),
  (14, .inl (o_if (fun x => decide (x < 0)) 22 17)),
  (17, .inl (o_il 3 18)),
  (18, .inl (o_push (.int 1) 19)),
  (19, .inl (o_ic (fun x y => decide (x ≤ y)) 26 22)),
  (22, .inl (o_push (.int (-1)) 23)),
  (23, .inl (o_goto 41)),
  (26, .inl (o_al 0 27)),
  (27, .inl (o_get 8 23 30)),
  (30, .inl (o_push (.int 2) 31)),
  (31, .inl (o_push (.int 12) 33)),
  (33, .inl (o_il 1 34)),
  (34, .inl (o_bin (fun x y => x * y) 35)),
  (35, .inl (o_il 2 36)),
  (36, .inl (o_bin (fun x y => x + y) 37)),
  (37, .inl (o_bin (fun x y => x * y) 38)),
  (38, .inl (o_il 3 39)),
  (39, .inl (o_bin (fun x y => x + y) 40)),
  (40, .inl (o_ia 41)),
  (41, .inr (.inl (some k_int)))]
theorem te_137 : ∀ q ∈ tb_137, ae_E am "TwinNetworkModel" "waiting" prog_10_method_43_code 4 (Option.some Jvm.ClassFile.FieldType.int) [] q := by
  unfold tb_137
  refine List.forall_mem_cons.mpr ⟨ae_mk pu_al (fun X => ok_aload_n X (k := 0) rfl (by decide +kernel)), ?_⟩
  refine List.forall_mem_cons.mpr ⟨ae_mk (pu_push (fun _ => trivial)) (fun X => ok_iconst X (n := 0) (by decide) (by decide +kernel)), ?_⟩
  refine List.forall_mem_cons.mpr ⟨ae_mk pu_put (fun X => ok_put X (ci := 8) (kk := 0) (index := 127) rfl aw_c_Model (by decide) wd_776 cy_Model cn_Model_ty cn_Model_nm rfl hk_int rfl (by decide +kernel)), ?_⟩
  refine List.forall_mem_cons.mpr ⟨ae_mk pu_il (fun X => ok_iload_n X (k := 1) rfl (by decide +kernel)), ?_⟩
  refine List.forall_mem_cons.mpr ⟨ae_mk pu_il (fun X => ok_iload_n X (k := 2) rfl (by decide +kernel)), ?_⟩
  refine List.forall_mem_cons.mpr ⟨ae_mkc (fun X => ok_callS X (mid := 134) (index := 242) (y := my_134) rfl (by decide) ⟨by decide, by decide⟩ (n := 2) (by decide +kernel) wd_1049 wd_51 wd_1047 wd_1048 (by decide +kernel)), ?_⟩
  refine List.forall_mem_cons.mpr ⟨ae_mk pu_if (fun X => ok_if_eq X (off := 12) (by decide) (by decide +kernel)), ?_⟩
  refine List.forall_mem_cons.mpr ⟨ae_mk pu_il (fun X => ok_iload_n X (k := 3) rfl (by decide +kernel)), ?_⟩
  refine List.forall_mem_cons.mpr ⟨ae_mk pu_if (fun X => ok_if_lt X (off := 8) (by decide) (by decide +kernel)), ?_⟩
  refine List.forall_mem_cons.mpr ⟨ae_mk pu_il (fun X => ok_iload_n X (k := 3) rfl (by decide +kernel)), ?_⟩
  refine List.forall_mem_cons.mpr ⟨ae_mk (pu_push (fun _ => trivial)) (fun X => ok_iconst X (n := 1) (by decide) (by decide +kernel)), ?_⟩
  refine List.forall_mem_cons.mpr ⟨ae_mk pu_ic (fun X => ok_ic_le X (off := 7) (by decide) (by decide +kernel)), ?_⟩
  refine List.forall_mem_cons.mpr ⟨ae_mk (pu_push (fun _ => trivial)) (fun X => ok_iconst X (n := (-1)) (by decide) (by decide +kernel)), ?_⟩
  refine List.forall_mem_cons.mpr ⟨ae_mk pu_goto (fun X => ok_goto X (off := 18) (by decide) (by decide +kernel)), ?_⟩
  refine List.forall_mem_cons.mpr ⟨ae_mk pu_al (fun X => ok_aload_n X (k := 0) rfl (by decide +kernel)), ?_⟩
  refine List.forall_mem_cons.mpr ⟨ae_mk pu_get (fun X => ok_get X (ci := 8) (kk := 23) (index := 75) rfl aw_c_Model (by decide) wd_799 (by decide +kernel)), ?_⟩
  refine List.forall_mem_cons.mpr ⟨ae_mk (pu_push (fun _ => trivial)) (fun X => ok_iconst X (n := 2) (by decide) (by decide +kernel)), ?_⟩
  refine List.forall_mem_cons.mpr ⟨ae_mk (pu_push (fun _ => trivial)) (fun X => ok_bipush X (n := 12) (by decide) (by decide +kernel)), ?_⟩
  refine List.forall_mem_cons.mpr ⟨ae_mk pu_il (fun X => ok_iload_n X (k := 1) rfl (by decide +kernel)), ?_⟩
  refine List.forall_mem_cons.mpr ⟨ae_mk pu_bin (fun X => ok_imul X (by decide +kernel)), ?_⟩
  refine List.forall_mem_cons.mpr ⟨ae_mk pu_il (fun X => ok_iload_n X (k := 2) rfl (by decide +kernel)), ?_⟩
  refine List.forall_mem_cons.mpr ⟨ae_mk pu_bin (fun X => ok_iadd X (by decide +kernel)), ?_⟩
  refine List.forall_mem_cons.mpr ⟨ae_mk pu_bin (fun X => ok_imul X (by decide +kernel)), ?_⟩
  refine List.forall_mem_cons.mpr ⟨ae_mk pu_il (fun X => ok_iload_n X (k := 3) rfl (by decide +kernel)), ?_⟩
  refine List.forall_mem_cons.mpr ⟨ae_mk pu_bin (fun X => ok_iadd X (by decide +kernel)), ?_⟩
  refine List.forall_mem_cons.mpr ⟨ae_mk pu_ia (fun X => ok_ia X (by decide +kernel)), ?_⟩
  refine List.forall_mem_cons.mpr ⟨Or.inl ⟨rfl, (by decide +kernel), rt_int⟩, ?_⟩
  exact fun _ h => absurd h List.not_mem_nil
def tb_138 : List (Nat × ae_I) := [(0, .inl (o_al 0 1)),
  (1, .inl (o_push (.int 0) 2)),
  (2, .inl (o_put 8 0 k_int 5)),
  (5, .inl (o_al 0 6)),
  (6, .inl (o_il 1 7)),
  (7, .inr (.inr (.inl (99, 2, 10, some 8, [])))),
  (10, .inl (o_if (fun x => decide (x = 0)) 22 13)),
  (13, .inl (o_al 0 14)),
  (14, .inl (o_get 8 14 17)),
  (17, .inl (o_il 1 18)),
  (18, .inl (o_ia 19)),
  (19, .inl (o_goto 23)),
  (22, .inl (o_push (.int (-1)) 23)),
  (23, .inr (.inl (some k_int)))]
theorem te_138 : ∀ q ∈ tb_138, ae_E am "TwinNetworkModel" "fragments" prog_10_method_44_code 2 (Option.some Jvm.ClassFile.FieldType.int) [] q := by
  unfold tb_138
  refine List.forall_mem_cons.mpr ⟨ae_mk pu_al (fun X => ok_aload_n X (k := 0) rfl (by decide +kernel)), ?_⟩
  refine List.forall_mem_cons.mpr ⟨ae_mk (pu_push (fun _ => trivial)) (fun X => ok_iconst X (n := 0) (by decide) (by decide +kernel)), ?_⟩
  refine List.forall_mem_cons.mpr ⟨ae_mk pu_put (fun X => ok_put X (ci := 8) (kk := 0) (index := 127) rfl aw_c_Model (by decide) wd_776 cy_Model cn_Model_ty cn_Model_nm rfl hk_int rfl (by decide +kernel)), ?_⟩
  refine List.forall_mem_cons.mpr ⟨ae_mk pu_al (fun X => ok_aload_n X (k := 0) rfl (by decide +kernel)), ?_⟩
  refine List.forall_mem_cons.mpr ⟨ae_mk pu_il (fun X => ok_iload_n X (k := 1) rfl (by decide +kernel)), ?_⟩
  refine List.forall_mem_cons.mpr ⟨ae_mkc (fun X => ok_callV X (mid := 99) (index := 142) (y := my_99) rfl (by decide) ⟨by decide, by decide⟩ (n := 1) (by decide +kernel) wd_912 wd_51 wd_909 wd_911 wd_20 (ci := 8) rfl (by decide +kernel)), ?_⟩
  refine List.forall_mem_cons.mpr ⟨ae_mk pu_if (fun X => ok_if_eq X (off := 12) (by decide) (by decide +kernel)), ?_⟩
  refine List.forall_mem_cons.mpr ⟨ae_mk pu_al (fun X => ok_aload_n X (k := 0) rfl (by decide +kernel)), ?_⟩
  refine List.forall_mem_cons.mpr ⟨ae_mk pu_get (fun X => ok_get X (ci := 8) (kk := 14) (index := 47) rfl aw_c_Model (by decide) wd_790 (by decide +kernel)), ?_⟩
  refine List.forall_mem_cons.mpr ⟨ae_mk pu_il (fun X => ok_iload_n X (k := 1) rfl (by decide +kernel)), ?_⟩
  refine List.forall_mem_cons.mpr ⟨ae_mk pu_ia (fun X => ok_ia X (by decide +kernel)), ?_⟩
  refine List.forall_mem_cons.mpr ⟨ae_mk pu_goto (fun X => ok_goto X (off := 4) (by decide) (by decide +kernel)), ?_⟩
  refine List.forall_mem_cons.mpr ⟨ae_mk (pu_push (fun _ => trivial)) (fun X => ok_iconst X (n := (-1)) (by decide) (by decide +kernel)), ?_⟩
  refine List.forall_mem_cons.mpr ⟨Or.inl ⟨rfl, (by decide +kernel), rt_int⟩, ?_⟩
  exact fun _ h => absurd h List.not_mem_nil
def tb_139 : List (Nat × ae_I) := [(0, .inl (o_al 0 1)),
  (1, .inl (o_push (.int 0) 2)),
  (2, .inl (o_put 8 0 k_int 5)),
  (5, .inl (o_il 1 6)),
  (6, .inl (o_if (fun x => decide (x < 0)) 22 9)),
  (9, .inl (o_il 1 10)),
  (10, .inl (o_push (.int 1) 11)),
  (11, .inl (o_ic (fun x y => decide (y < x)) 22 14)),
  (14, .inl (o_al 0 15)),
  (15, .inl (o_il 2 16)),
  (16, .inr (.inr (.inl (99, 2, 19, some 8, [])))),
  (19, .inl (o_if (fun x => decide (¬ x = 0)) 26 22)),
  (22, .inl (o_push (.int (-1)) 23)),
  (23, .inl (o_goto 37)),
  (26, .inl (o_al 0 27)),
  (27, .inl (o_get 8 13 30)),
  (30, .inl (o_push (.int 8) 32)),
  (32, .inl (o_il 1 33)),
  (33, .inl (o_bin (fun x y => x * y) 34)),
  (34, .inl (o_il 2 35)),
  (35, .inl (o_bin (fun x y => x + y) 36)),
  (36, .inl (o_ia 37)),
  (37, .inr (.inl (some k_int)))]
theorem te_139 : ∀ q ∈ tb_139, ae_E am "TwinNetworkModel" "account" prog_10_method_45_code 3 (Option.some Jvm.ClassFile.FieldType.int) [] q := by
  unfold tb_139
  refine List.forall_mem_cons.mpr ⟨ae_mk pu_al (fun X => ok_aload_n X (k := 0) rfl (by decide +kernel)), ?_⟩
  refine List.forall_mem_cons.mpr ⟨ae_mk (pu_push (fun _ => trivial)) (fun X => ok_iconst X (n := 0) (by decide) (by decide +kernel)), ?_⟩
  refine List.forall_mem_cons.mpr ⟨ae_mk pu_put (fun X => ok_put X (ci := 8) (kk := 0) (index := 127) rfl aw_c_Model (by decide) wd_776 cy_Model cn_Model_ty cn_Model_nm rfl hk_int rfl (by decide +kernel)), ?_⟩
  refine List.forall_mem_cons.mpr ⟨ae_mk pu_il (fun X => ok_iload_n X (k := 1) rfl (by decide +kernel)), ?_⟩
  refine List.forall_mem_cons.mpr ⟨ae_mk pu_if (fun X => ok_if_lt X (off := 16) (by decide) (by decide +kernel)), ?_⟩
  refine List.forall_mem_cons.mpr ⟨ae_mk pu_il (fun X => ok_iload_n X (k := 1) rfl (by decide +kernel)), ?_⟩
  refine List.forall_mem_cons.mpr ⟨ae_mk (pu_push (fun _ => trivial)) (fun X => ok_iconst X (n := 1) (by decide) (by decide +kernel)), ?_⟩
  refine List.forall_mem_cons.mpr ⟨ae_mk pu_ic (fun X => ok_ic_gt X (off := 11) (by decide) (by decide +kernel)), ?_⟩
  refine List.forall_mem_cons.mpr ⟨ae_mk pu_al (fun X => ok_aload_n X (k := 0) rfl (by decide +kernel)), ?_⟩
  refine List.forall_mem_cons.mpr ⟨ae_mk pu_il (fun X => ok_iload_n X (k := 2) rfl (by decide +kernel)), ?_⟩
  refine List.forall_mem_cons.mpr ⟨ae_mkc (fun X => ok_callV X (mid := 99) (index := 142) (y := my_99) rfl (by decide) ⟨by decide, by decide⟩ (n := 1) (by decide +kernel) wd_912 wd_51 wd_909 wd_911 wd_20 (ci := 8) rfl (by decide +kernel)), ?_⟩
  refine List.forall_mem_cons.mpr ⟨ae_mk pu_if (fun X => ok_if_ne X (off := 7) (by decide) (by decide +kernel)), ?_⟩
  refine List.forall_mem_cons.mpr ⟨ae_mk (pu_push (fun _ => trivial)) (fun X => ok_iconst X (n := (-1)) (by decide) (by decide +kernel)), ?_⟩
  refine List.forall_mem_cons.mpr ⟨ae_mk pu_goto (fun X => ok_goto X (off := 14) (by decide) (by decide +kernel)), ?_⟩
  refine List.forall_mem_cons.mpr ⟨ae_mk pu_al (fun X => ok_aload_n X (k := 0) rfl (by decide +kernel)), ?_⟩
  refine List.forall_mem_cons.mpr ⟨ae_mk pu_get (fun X => ok_get X (ci := 8) (kk := 13) (index := 44) rfl aw_c_Model (by decide) wd_789 (by decide +kernel)), ?_⟩
  refine List.forall_mem_cons.mpr ⟨ae_mk (pu_push (fun _ => trivial)) (fun X => ok_bipush X (n := 8) (by decide) (by decide +kernel)), ?_⟩
  refine List.forall_mem_cons.mpr ⟨ae_mk pu_il (fun X => ok_iload_n X (k := 1) rfl (by decide +kernel)), ?_⟩
  refine List.forall_mem_cons.mpr ⟨ae_mk pu_bin (fun X => ok_imul X (by decide +kernel)), ?_⟩
  refine List.forall_mem_cons.mpr ⟨ae_mk pu_il (fun X => ok_iload_n X (k := 2) rfl (by decide +kernel)), ?_⟩
  refine List.forall_mem_cons.mpr ⟨ae_mk pu_bin (fun X => ok_iadd X (by decide +kernel)), ?_⟩
  refine List.forall_mem_cons.mpr ⟨ae_mk pu_ia (fun X => ok_ia X (by decide +kernel)), ?_⟩
  refine List.forall_mem_cons.mpr ⟨Or.inl ⟨rfl, (by decide +kernel), rt_int⟩, ?_⟩
  exact fun _ h => absurd h List.not_mem_nil
def tb_140 : List (Nat × ae_I) := [(0, .inl (o_al 0 1)),
  (1, .inl (o_push (.int 0) 2)),
  (2, .inl (o_put 8 0 k_int 5)),
  (5, .inl (o_il 1 6)),
  (6, .inl (o_if (fun x => decide (x < 0)) 15 9)),
  (9, .inl (o_il 1 10)),
  (10, .inl (o_push (.int 11) 12)),
  (12, .inl (o_ic (fun x y => decide (x ≤ y)) 19 15)),
  (15, .inl (o_push (.int (-1)) 16)),
  (16, .inl (o_goto 25)),
  (19, .inl (o_al 0 20)),
  (20, .inl (o_get 8 38 23)),
  (23, .inl (o_il 1 24)),
  (24, .inl (o_ia 25)),
  (25, .inr (.inl (some k_int)))]
theorem te_140 : ∀ q ∈ tb_140, ae_E am "TwinNetworkModel" "dropped" prog_10_method_46_code 2 (Option.some Jvm.ClassFile.FieldType.int) [] q := by
  unfold tb_140
  refine List.forall_mem_cons.mpr ⟨ae_mk pu_al (fun X => ok_aload_n X (k := 0) rfl (by decide +kernel)), ?_⟩
  refine List.forall_mem_cons.mpr ⟨ae_mk (pu_push (fun _ => trivial)) (fun X => ok_iconst X (n := 0) (by decide) (by decide +kernel)), ?_⟩
  refine List.forall_mem_cons.mpr ⟨ae_mk pu_put (fun X => ok_put X (ci := 8) (kk := 0) (index := 127) rfl aw_c_Model (by decide) wd_776 cy_Model cn_Model_ty cn_Model_nm rfl hk_int rfl (by decide +kernel)), ?_⟩
  refine List.forall_mem_cons.mpr ⟨ae_mk pu_il (fun X => ok_iload_n X (k := 1) rfl (by decide +kernel)), ?_⟩
  refine List.forall_mem_cons.mpr ⟨ae_mk pu_if (fun X => ok_if_lt X (off := 9) (by decide) (by decide +kernel)), ?_⟩
  refine List.forall_mem_cons.mpr ⟨ae_mk pu_il (fun X => ok_iload_n X (k := 1) rfl (by decide +kernel)), ?_⟩
  refine List.forall_mem_cons.mpr ⟨ae_mk (pu_push (fun _ => trivial)) (fun X => ok_bipush X (n := 11) (by decide) (by decide +kernel)), ?_⟩
  refine List.forall_mem_cons.mpr ⟨ae_mk pu_ic (fun X => ok_ic_le X (off := 7) (by decide) (by decide +kernel)), ?_⟩
  refine List.forall_mem_cons.mpr ⟨ae_mk (pu_push (fun _ => trivial)) (fun X => ok_iconst X (n := (-1)) (by decide) (by decide +kernel)), ?_⟩
  refine List.forall_mem_cons.mpr ⟨ae_mk pu_goto (fun X => ok_goto X (off := 9) (by decide) (by decide +kernel)), ?_⟩
  refine List.forall_mem_cons.mpr ⟨ae_mk pu_al (fun X => ok_aload_n X (k := 0) rfl (by decide +kernel)), ?_⟩
  refine List.forall_mem_cons.mpr ⟨ae_mk pu_get (fun X => ok_get X (ci := 8) (kk := 38) (index := 121) rfl aw_c_Model (by decide) wd_814 (by decide +kernel)), ?_⟩
  refine List.forall_mem_cons.mpr ⟨ae_mk pu_il (fun X => ok_iload_n X (k := 1) rfl (by decide +kernel)), ?_⟩
  refine List.forall_mem_cons.mpr ⟨ae_mk pu_ia (fun X => ok_ia X (by decide +kernel)), ?_⟩
  refine List.forall_mem_cons.mpr ⟨Or.inl ⟨rfl, (by decide +kernel), rt_int⟩, ?_⟩
  exact fun _ h => absurd h List.not_mem_nil
def tb_141 : List (Nat × ae_I) := [(0, .inl (o_al 0 1)),
  (1, .inl (o_push (.int 0) 2)),
  (2, .inl (o_put 8 0 k_int 5)),
  (5, .inl (o_al 0 6)),
  (6, .inl (o_il 2 7)),
  (7, .inl (o_il 1 8)),
  (8, .inr (.inr (.inl (119, 3, 11, some 8, [])))),
  (11, .inl (o_if (fun x => decide (¬ x = 0)) 16 14)),
  (14, .inl (o_push (.int (-1)) 15)),
  (15, .inr (.inl (some k_int))),
  (16, .inl (o_push (.int 0) 17)),
  (17, .inl (o_is 3 18)),
  (18, .inl (o_push (.int 0) 19)),
  (19, .inl (o_is 4 21)),
  (21, .inl (o_il 4 23)),
  (23, .inl (o_push (.int 12) 25)),
  (25, .inl (o_ic (fun x y => decide (y ≤ x)) 105 28)),
  (28, .inl (o_il 4 30)),
  (30, .inl (o_al 0 31)),
  (31, .inl (o_get 8 5 34)),
  (34, .inl (o_il 1 35)),
  (35, .inl (o_ia 36)),
  (36, .inl (o_il 2 37)),
  (37, .inr (.inr (.inl (126, 3, 40, none, [])))),
  (40, .inl (o_if (fun x => decide (¬ x = 0)) 46 43)),
  (43, .inl (o_goto 99)),
  (46, .inl (o_push (.int 0) 47)),
  (47, .inl (o_is 5 49)),
  (49, .inl (o_il 5 51)),
  (51, .inl (o_push (.int 8) 53)),
  (53, .inl (o_ic (fun x y => decide (y ≤ x)) 99 56)),
  (56, .inl (o_al 0 57)),
  (57, .inl (o_get 8 2 60)),
  (60, .inl (o_il 5 62)),
  (62, .inl (o_ba 63)),
  (63, .inl (o_if (fun x => decide (x = 0)) 93 66)),
  (66, .inl (o_al 0 67)),
  (67, .inl (o_il 4 69)),
  (69, .inl (o_il 5 71)),
  (71, .inr (.inr (.inl (125, 3, 74, some 8, [])))),
  (74, .inl (o_if (fun x => decide (x = 0)) 93 77)),
  (77, .inl (o_il 3 78)),
  (78, .inl (o_al 0 79)),
  (79, .inl (o_get 8 7 82)),
  (82, .inl (o_il 5 84)),
  (84, .inl (o_ia 85)),
  (85, .inl (o_push (.int 7) 87)),
  (87, .inl (o_bin (fun x y => x + y) 88)),
  (88, .inl (o_push (.int 8) 90)),
  (90, .inl (o_dv (fun x y => x / y) 91)),
  (91, .inl (o_bin (fun x y => x + y) 92)),
  (92, .inl (o_is 3 93)),
  (93, .inl (o_inc 5 1 96)),
  (96, .inl (o_goto 49)),
  (99, .inl (o_inc 4 1 102)),
  (102, .inl (o_goto 21)),
  (105, .inl (o_il 3 106)),
  (106, .inr (.inl (some k_int)))]
theorem te_141 : ∀ q ∈ tb_141, ae_E am "TwinNetworkModel" "bound" prog_10_method_47_code 6 (Option.some Jvm.ClassFile.FieldType.int) [] q := by
  unfold tb_141
  refine List.forall_mem_cons.mpr ⟨ae_mk pu_al (fun X => ok_aload_n X (k := 0) rfl (by decide +kernel)), ?_⟩
  refine List.forall_mem_cons.mpr ⟨ae_mk (pu_push (fun _ => trivial)) (fun X => ok_iconst X (n := 0) (by decide) (by decide +kernel)), ?_⟩
  refine List.forall_mem_cons.mpr ⟨ae_mk pu_put (fun X => ok_put X (ci := 8) (kk := 0) (index := 127) rfl aw_c_Model (by decide) wd_776 cy_Model cn_Model_ty cn_Model_nm rfl hk_int rfl (by decide +kernel)), ?_⟩
  refine List.forall_mem_cons.mpr ⟨ae_mk pu_al (fun X => ok_aload_n X (k := 0) rfl (by decide +kernel)), ?_⟩
  refine List.forall_mem_cons.mpr ⟨ae_mk pu_il (fun X => ok_iload_n X (k := 2) rfl (by decide +kernel)), ?_⟩
  refine List.forall_mem_cons.mpr ⟨ae_mk pu_il (fun X => ok_iload_n X (k := 1) rfl (by decide +kernel)), ?_⟩
  refine List.forall_mem_cons.mpr ⟨ae_mkc (fun X => ok_callV X (mid := 119) (index := 214) (y := my_119) rfl (by decide) ⟨by decide, by decide⟩ (n := 2) (by decide +kernel) wd_993 wd_51 wd_990 wd_992 wd_37 (ci := 8) rfl (by decide +kernel)), ?_⟩
  refine List.forall_mem_cons.mpr ⟨ae_mk pu_if (fun X => ok_if_ne X (off := 5) (by decide) (by decide +kernel)), ?_⟩
  refine List.forall_mem_cons.mpr ⟨ae_mk (pu_push (fun _ => trivial)) (fun X => ok_iconst X (n := (-1)) (by decide) (by decide +kernel)), ?_⟩
  refine List.forall_mem_cons.mpr ⟨Or.inl ⟨rfl, (by decide +kernel), rt_int⟩, ?_⟩
  refine List.forall_mem_cons.mpr ⟨ae_mk (pu_push (fun _ => trivial)) (fun X => ok_iconst X (n := 0) (by decide) (by decide +kernel)), ?_⟩
  refine List.forall_mem_cons.mpr ⟨ae_mk pu_is (fun X => ok_istore_n X (k := 3) rfl (by decide +kernel)), ?_⟩
  refine List.forall_mem_cons.mpr ⟨ae_mk (pu_push (fun _ => trivial)) (fun X => ok_iconst X (n := 0) (by decide) (by decide +kernel)), ?_⟩
  refine List.forall_mem_cons.mpr ⟨ae_mk pu_is (fun X => ok_istore X (by decide +kernel)), ?_⟩
  refine List.forall_mem_cons.mpr ⟨ae_mk pu_il (fun X => ok_iload X (by decide +kernel)), ?_⟩
  refine List.forall_mem_cons.mpr ⟨ae_mk (pu_push (fun _ => trivial)) (fun X => ok_bipush X (n := 12) (by decide) (by decide +kernel)), ?_⟩
  refine List.forall_mem_cons.mpr ⟨ae_mk pu_ic (fun X => ok_ic_ge X (off := 80) (by decide) (by decide +kernel)), ?_⟩
  refine List.forall_mem_cons.mpr ⟨ae_mk pu_il (fun X => ok_iload X (by decide +kernel)), ?_⟩
  refine List.forall_mem_cons.mpr ⟨ae_mk pu_al (fun X => ok_aload_n X (k := 0) rfl (by decide +kernel)), ?_⟩
  refine List.forall_mem_cons.mpr ⟨ae_mk pu_get (fun X => ok_get X (ci := 8) (kk := 5) (index := 19) rfl aw_c_Model (by decide) wd_781 (by decide +kernel)), ?_⟩
  refine List.forall_mem_cons.mpr ⟨ae_mk pu_il (fun X => ok_iload_n X (k := 1) rfl (by decide +kernel)), ?_⟩
  refine List.forall_mem_cons.mpr ⟨ae_mk pu_ia (fun X => ok_ia X (by decide +kernel)), ?_⟩
  refine List.forall_mem_cons.mpr ⟨ae_mk pu_il (fun X => ok_iload_n X (k := 2) rfl (by decide +kernel)), ?_⟩
  refine List.forall_mem_cons.mpr ⟨ae_mkc (fun X => ok_callS X (mid := 126) (index := 138) (y := my_126) rfl (by decide) ⟨by decide, by decide⟩ (n := 3) (by decide +kernel) wd_1019 wd_51 wd_1017 wd_1018 (by decide +kernel)), ?_⟩
  refine List.forall_mem_cons.mpr ⟨ae_mk pu_if (fun X => ok_if_ne X (off := 6) (by decide) (by decide +kernel)), ?_⟩
  refine List.forall_mem_cons.mpr ⟨ae_mk pu_goto (fun X => ok_goto X (off := 56) (by decide) (by decide +kernel)), ?_⟩
  refine List.forall_mem_cons.mpr ⟨ae_mk (pu_push (fun _ => trivial)) (fun X => ok_iconst X (n := 0) (by decide) (by decide +kernel)), ?_⟩
  refine List.forall_mem_cons.mpr ⟨ae_mk pu_is (fun X => ok_istore X (by decide +kernel)), ?_⟩
  refine List.forall_mem_cons.mpr ⟨ae_mk pu_il (fun X => ok_iload X (by decide +kernel)), ?_⟩
  refine List.forall_mem_cons.mpr ⟨ae_mk (pu_push (fun _ => trivial)) (fun X => ok_bipush X (n := 8) (by decide) (by decide +kernel)), ?_⟩
  refine List.forall_mem_cons.mpr ⟨ae_mk pu_ic (fun X => ok_ic_ge X (off := 46) (by decide) (by decide +kernel)), ?_⟩
  refine List.forall_mem_cons.mpr ⟨ae_mk pu_al (fun X => ok_aload_n X (k := 0) rfl (by decide +kernel)), ?_⟩
  refine List.forall_mem_cons.mpr ⟨ae_mk pu_get (fun X => ok_get X (ci := 8) (kk := 2) (index := 7) rfl aw_c_Model (by decide) wd_778 (by decide +kernel)), ?_⟩
  refine List.forall_mem_cons.mpr ⟨ae_mk pu_il (fun X => ok_iload X (by decide +kernel)), ?_⟩
  refine List.forall_mem_cons.mpr ⟨ae_mk pu_ba (fun X => ok_ba X (by decide +kernel)), ?_⟩
  refine List.forall_mem_cons.mpr ⟨ae_mk pu_if (fun X => ok_if_eq X (off := 30) (by decide) (by decide +kernel)), ?_⟩
  refine List.forall_mem_cons.mpr ⟨ae_mk pu_al (fun X => ok_aload_n X (k := 0) rfl (by decide +kernel)), ?_⟩
  refine List.forall_mem_cons.mpr ⟨ae_mk pu_il (fun X => ok_iload X (by decide +kernel)), ?_⟩
  refine List.forall_mem_cons.mpr ⟨ae_mk pu_il (fun X => ok_iload X (by decide +kernel)), ?_⟩
  refine List.forall_mem_cons.mpr ⟨ae_mkc (fun X => ok_callV X (mid := 125) (index := 210) (y := my_125) rfl (by decide) ⟨by decide, by decide⟩ (n := 2) (by decide +kernel) wd_1016 wd_51 wd_1013 wd_1015 wd_42 (ci := 8) rfl (by decide +kernel)), ?_⟩
  refine List.forall_mem_cons.mpr ⟨ae_mk pu_if (fun X => ok_if_eq X (off := 19) (by decide) (by decide +kernel)), ?_⟩
  refine List.forall_mem_cons.mpr ⟨ae_mk pu_il (fun X => ok_iload_n X (k := 3) rfl (by decide +kernel)), ?_⟩
  refine List.forall_mem_cons.mpr ⟨ae_mk pu_al (fun X => ok_aload_n X (k := 0) rfl (by decide +kernel)), ?_⟩
  refine List.forall_mem_cons.mpr ⟨ae_mk pu_get (fun X => ok_get X (ci := 8) (kk := 7) (index := 26) rfl aw_c_Model (by decide) wd_783 (by decide +kernel)), ?_⟩
  refine List.forall_mem_cons.mpr ⟨ae_mk pu_il (fun X => ok_iload X (by decide +kernel)), ?_⟩
  refine List.forall_mem_cons.mpr ⟨ae_mk pu_ia (fun X => ok_ia X (by decide +kernel)), ?_⟩
  refine List.forall_mem_cons.mpr ⟨ae_mk (pu_push (fun _ => trivial)) (fun X => ok_bipush X (n := 7) (by decide) (by decide +kernel)), ?_⟩
  refine List.forall_mem_cons.mpr ⟨ae_mk pu_bin (fun X => ok_iadd X (by decide +kernel)), ?_⟩
  refine List.forall_mem_cons.mpr ⟨ae_mk (pu_push (fun _ => trivial)) (fun X => ok_bipush X (n := 8) (by decide) (by decide +kernel)), ?_⟩
  refine List.forall_mem_cons.mpr ⟨ae_mk pu_dv (fun X => ok_idiv X (by decide +kernel)), ?_⟩
  refine List.forall_mem_cons.mpr ⟨ae_mk pu_bin (fun X => ok_iadd X (by decide +kernel)), ?_⟩
  refine List.forall_mem_cons.mpr ⟨ae_mk pu_is (fun X => ok_istore_n X (k := 3) rfl (by decide +kernel)), ?_⟩
  refine List.forall_mem_cons.mpr ⟨ae_mk pu_inc (fun X => ok_iinc X (n := 1) (by decide) (by decide +kernel)), ?_⟩
  refine List.forall_mem_cons.mpr ⟨ae_mk pu_goto (fun X => ok_goto X (off := (-47)) (by decide) (by decide +kernel)), ?_⟩
  refine List.forall_mem_cons.mpr ⟨ae_mk pu_inc (fun X => ok_iinc X (n := 1) (by decide) (by decide +kernel)), ?_⟩
  refine List.forall_mem_cons.mpr ⟨ae_mk pu_goto (fun X => ok_goto X (off := (-81)) (by decide) (by decide +kernel)), ?_⟩
  refine List.forall_mem_cons.mpr ⟨ae_mk pu_il (fun X => ok_iload_n X (k := 3) rfl (by decide +kernel)), ?_⟩
  refine List.forall_mem_cons.mpr ⟨Or.inl ⟨rfl, (by decide +kernel), rt_int⟩, ?_⟩
  exact fun _ h => absurd h List.not_mem_nil
