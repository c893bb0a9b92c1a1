def tb_106 : List (Nat × ae_I) := [(0, .inl (o_push (.int 0) 1)),
  (1, .inl (o_is 2 2)),
  (2, .inl (o_push (.int 0) 3)),
  (3, .inl (o_is 3 4)),
  (4, .inl (o_il 3 5)),
  (5, .inl (o_push (.int 10) 7)),
  (7, .inl (o_ic (fun x y => decide (y ≤ x)) 49 10)),
  (10, .inl (o_il 3 11)),
  (11, .inl (o_push (.int 5) 12)),
  (12, .inl (o_ic (fun x y => decide (¬ x = y)) 18 15)),
  (15, .inl (o_goto 43)),
  (18, .inl (o_il 2 19)),
  (19, .inl (o_al 0 20)),
  (20, .inl (o_il 1 21)),
  (21, .inl (o_push (.int 14) 23)),
  (23, .inl (o_push (.int 2) 24)),
  (24, .inl (o_il 3 25)),
  (25, .inl (o_bin (fun x y => x * y) 26)),
  (26, .inl (o_bin (fun x y => x + y) 27)),
  (27, .inr (.inr (.inl (107, 3, 30, some 8, [])))),
  (30, .inl (o_bin (fun x y => x + y) 31)),
  (31, .inl (o_is 2 32)),
  (32, .inl (o_il 2 33)),
  (33, .inl (o_push (.int (65535 : Int32)) 35)),
  (35, .inl (o_ic (fun x y => decide (x ≤ y)) 43 38)),
  (38, .inl (o_il 2 39)),
  (39, .inl (o_push (.int (65535 : Int32)) 41)),
  (41, .inl (o_bin (fun x y => x - y) 42)),
  (42, .inl (o_is 2 43)),
  (43, .inl (o_inc 3 1 46)),
  (46, .inl (o_goto 4)),
  (49, .inl (o_push (.int (65535 : Int32)) 51)),
  (51, .inl (o_il 2 52)),
  (52, .inl (o_bin (fun x y => x - y) 53)),
  (53, .inr (.inl (some k_int)))]
theorem te_106 : ∀ q ∈ tb_106, ae_E am "TwinNetworkModel" "sum" prog_10_method_16_code 4 (Option.some Jvm.ClassFile.FieldType.int) [] q := by
  unfold tb_106
  refine List.forall_mem_cons.mpr ⟨ae_mk (pu_push (fun _ => trivial)) (fun X => ok_iconst X (n := 0) (by decide) (by decide +kernel)), ?_⟩
  refine List.forall_mem_cons.mpr ⟨ae_mk pu_is (fun X => ok_istore_n X (k := 2) rfl (by decide +kernel)), ?_⟩
  refine List.forall_mem_cons.mpr ⟨ae_mk (pu_push (fun _ => trivial)) (fun X => ok_iconst X (n := 0) (by decide) (by decide +kernel)), ?_⟩
  refine List.forall_mem_cons.mpr ⟨ae_mk pu_is (fun X => ok_istore_n X (k := 3) rfl (by decide +kernel)), ?_⟩
  refine List.forall_mem_cons.mpr ⟨ae_mk pu_il (fun X => ok_iload_n X (k := 3) rfl (by decide +kernel)), ?_⟩
  refine List.forall_mem_cons.mpr ⟨ae_mk (pu_push (fun _ => trivial)) (fun X => ok_bipush X (n := 10) (by decide) (by decide +kernel)), ?_⟩
  refine List.forall_mem_cons.mpr ⟨ae_mk pu_ic (fun X => ok_ic_ge X (off := 42) (by decide) (by decide +kernel)), ?_⟩
  refine List.forall_mem_cons.mpr ⟨ae_mk pu_il (fun X => ok_iload_n X (k := 3) rfl (by decide +kernel)), ?_⟩
  refine List.forall_mem_cons.mpr ⟨ae_mk (pu_push (fun _ => trivial)) (fun X => ok_iconst X (n := 5) (by decide) (by decide +kernel)), ?_⟩
  refine List.forall_mem_cons.mpr ⟨ae_mk pu_ic (fun X => ok_ic_ne X (off := 6) (by decide) (by decide +kernel)), ?_⟩
  refine List.forall_mem_cons.mpr ⟨ae_mk pu_goto (fun X => ok_goto X (off := 28) (by decide) (by decide +kernel)), ?_⟩
  refine List.forall_mem_cons.mpr ⟨ae_mk pu_il (fun X => ok_iload_n X (k := 2) rfl (by decide +kernel)), ?_⟩
  refine List.forall_mem_cons.mpr ⟨ae_mk pu_al (fun X => ok_aload_n X (k := 0) rfl (by decide +kernel)), ?_⟩
  refine List.forall_mem_cons.mpr ⟨ae_mk pu_il (fun X => ok_iload_n X (k := 1) rfl (by decide +kernel)), ?_⟩
  refine List.forall_mem_cons.mpr ⟨ae_mk (pu_push (fun _ => trivial)) (fun X => ok_bipush X (n := 14) (by decide) (by decide +kernel)), ?_⟩
  refine List.forall_mem_cons.mpr ⟨ae_mk (pu_push (fun _ => trivial)) (fun X => ok_iconst X (n := 2) (by decide) (by decide +kernel)), ?_⟩
  refine List.forall_mem_cons.mpr ⟨ae_mk pu_il (fun X => ok_iload_n X (k := 3) rfl (by decide +kernel)), ?_⟩
  refine List.forall_mem_cons.mpr ⟨ae_mk pu_bin (fun X => ok_imul X (by decide +kernel)), ?_⟩
  refine List.forall_mem_cons.mpr ⟨ae_mk pu_bin (fun X => ok_iadd X (by decide +kernel)), ?_⟩
  refine List.forall_mem_cons.mpr ⟨ae_mkc (fun X => ok_callV X (mid := 107) (index := 154) (y := my_107) rfl (by decide) ⟨by decide, by decide⟩ (n := 2) (by decide +kernel) wd_945 wd_51 wd_942 wd_944 wd_27 (ci := 8) rfl (by decide +kernel)), ?_⟩
  refine List.forall_mem_cons.mpr ⟨ae_mk pu_bin (fun X => ok_iadd X (by decide +kernel)), ?_⟩
  refine List.forall_mem_cons.mpr ⟨ae_mk pu_is (fun X => ok_istore_n X (k := 2) rfl (by decide +kernel)), ?_⟩
  refine List.forall_mem_cons.mpr ⟨ae_mk pu_il (fun X => ok_iload_n X (k := 2) rfl (by decide +kernel)), ?_⟩
  refine List.forall_mem_cons.mpr ⟨ae_mk (pu_push (fun _ => trivial)) (fun X => ok_ldc X (index := 157) wd_950 (by decide +kernel)), ?_⟩
  refine List.forall_mem_cons.mpr ⟨ae_mk pu_ic (fun X => ok_ic_le X (off := 8) (by decide) (by decide +kernel)), ?_⟩
  refine List.forall_mem_cons.mpr ⟨ae_mk pu_il (fun X => ok_iload_n X (k := 2) rfl (by decide +kernel)), ?_⟩
  refine List.forall_mem_cons.mpr ⟨ae_mk (pu_push (fun _ => trivial)) (fun X => ok_ldc X (index := 157) wd_950 (by decide +kernel)), ?_⟩
  refine List.forall_mem_cons.mpr ⟨ae_mk pu_bin (fun X => ok_isub X (by decide +kernel)), ?_⟩
  refine List.forall_mem_cons.mpr ⟨ae_mk pu_is (fun X => ok_istore_n X (k := 2) rfl (by decide +kernel)), ?_⟩
  refine List.forall_mem_cons.mpr ⟨ae_mk pu_inc (fun X => ok_iinc X (n := 1) (by decide) (by decide +kernel)), ?_⟩
  refine List.forall_mem_cons.mpr ⟨ae_mk pu_goto (fun X => ok_goto X (off := (-42)) (by decide) (by decide +kernel)), ?_⟩
  refine List.forall_mem_cons.mpr ⟨ae_mk (pu_push (fun _ => trivial)) (fun X => ok_ldc X (index := 157) wd_950 (by decide +kernel)), ?_⟩
  refine List.forall_mem_cons.mpr ⟨ae_mk pu_il (fun X => ok_iload_n X (k := 2) rfl (by decide +kernel)), ?_⟩
  refine List.forall_mem_cons.mpr ⟨ae_mk pu_bin (fun X => ok_isub X (by decide +kernel)), ?_⟩
  refine List.forall_mem_cons.mpr ⟨Or.inl ⟨rfl, (by decide +kernel), rt_int⟩, ?_⟩
  exact fun _ h => absurd h List.not_mem_nil
def tb_107 : List (Nat × ae_I) := [(0, .inl (o_push (.int 256) 3)),
  (3, .inl (o_al 0 4)),
  (4, .inl (o_il 1 5)),
  (5, .inl (o_il 2 6)),
  (6, .inr (.inr (.inl (108, 3, 9, some 8, [])))),
  (9, .inl (o_bin (fun x y => x * y) 10)),
  (10, .inl (o_al 0 11)),
  (11, .inl (o_il 1 12)),
  (12, .inl (o_il 2 13)),
  (13, .inl (o_push (.int 1) 14)),
  (14, .inl (o_bin (fun x y => x + y) 15)),
  (15, .inr (.inr (.inl (108, 3, 18, some 8, [])))),
  (18, .inl (o_bin (fun x y => x + y) 19)),
  (19, .inr (.inl (some k_int)))]
theorem te_107 : ∀ q ∈ tb_107, ae_E am "TwinNetworkModel" "two" prog_10_method_14_code 3 (Option.some Jvm.ClassFile.FieldType.int) [] q := by
  unfold tb_107
  refine List.forall_mem_cons.mpr ⟨ae_mk (pu_push (fun _ => trivial)) (fun X => ok_sipush X (n := 256) (by decide) (by decide +kernel)), ?_⟩
  refine List.forall_mem_cons.mpr ⟨ae_mk pu_al (fun X => ok_aload_n X (k := 0) rfl (by decide +kernel)), ?_⟩
  refine List.forall_mem_cons.mpr ⟨ae_mk pu_il (fun X => ok_iload_n X (k := 1) rfl (by decide +kernel)), ?_⟩
  refine List.forall_mem_cons.mpr ⟨ae_mk pu_il (fun X => ok_iload_n X (k := 2) rfl (by decide +kernel)), ?_⟩
  refine List.forall_mem_cons.mpr ⟨ae_mkc (fun X => ok_callV X (mid := 108) (index := 150) (y := my_108) rfl (by decide) ⟨by decide, by decide⟩ (n := 2) (by decide +kernel) wd_949 wd_51 wd_946 wd_948 wd_28 (ci := 8) rfl (by decide +kernel)), ?_⟩
  refine List.forall_mem_cons.mpr ⟨ae_mk pu_bin (fun X => ok_imul X (by decide +kernel)), ?_⟩
  refine List.forall_mem_cons.mpr ⟨ae_mk pu_al (fun X => ok_aload_n X (k := 0) rfl (by decide +kernel)), ?_⟩
  refine List.forall_mem_cons.mpr ⟨ae_mk pu_il (fun X => ok_iload_n X (k := 1) rfl (by decide +kernel)), ?_⟩
  refine List.forall_mem_cons.mpr ⟨ae_mk pu_il (fun X => ok_iload_n X (k := 2) rfl (by decide +kernel)), ?_⟩
  refine List.forall_mem_cons.mpr ⟨ae_mk (pu_push (fun _ => trivial)) (fun X => ok_iconst X (n := 1) (by decide) (by decide +kernel)), ?_⟩
  refine List.forall_mem_cons.mpr ⟨ae_mk pu_bin (fun X => ok_iadd X (by decide +kernel)), ?_⟩
  refine List.forall_mem_cons.mpr ⟨ae_mkc (fun X => ok_callV X (mid := 108) (index := 150) (y := my_108) rfl (by decide) ⟨by decide, by decide⟩ (n := 2) (by decide +kernel) wd_949 wd_51 wd_946 wd_948 wd_28 (ci := 8) rfl (by decide +kernel)), ?_⟩
  refine List.forall_mem_cons.mpr ⟨ae_mk pu_bin (fun X => ok_iadd X (by decide +kernel)), ?_⟩
  refine List.forall_mem_cons.mpr ⟨Or.inl ⟨rfl, (by decide +kernel), rt_int⟩, ?_⟩
  exact fun _ h => absurd h List.not_mem_nil
def tb_108 : List (Nat × ae_I) := [(0, .inl (o_al 0 1)),
  (1, .inl (o_get 8 19 4)),
  (4, .inl (o_push (.int 200) 7)),
  (7, .inl (o_il 1 8)),
  (8, .inl (o_bin (fun x y => x * y) 9)),
  (9, .inl (o_il 2 10)),
  (10, .inl (o_bin (fun x y => x + y) 11)),
  (11, .inl (o_ia 12)),
  (12, .inr (.inl (some k_int)))]
theorem te_108 : ∀ q ∈ tb_108, ae_E am "TwinNetworkModel" "cell" prog_10_method_13_code 3 (Option.some Jvm.ClassFile.FieldType.int) [] q := by
  unfold tb_108
  refine List.forall_mem_cons.mpr ⟨ae_mk pu_al (fun X => ok_aload_n X (k := 0) rfl (by decide +kernel)), ?_⟩
  refine List.forall_mem_cons.mpr ⟨ae_mk pu_get (fun X => ok_get X (ci := 8) (kk := 19) (index := 63) rfl aw_c_Model (by decide) wd_795 (by decide +kernel)), ?_⟩
  refine List.forall_mem_cons.mpr ⟨ae_mk (pu_push (fun _ => trivial)) (fun X => ok_sipush X (n := 200) (by decide) (by decide +kernel)), ?_⟩
  refine List.forall_mem_cons.mpr ⟨ae_mk pu_il (fun X => ok_iload_n X (k := 1) rfl (by decide +kernel)), ?_⟩
  refine List.forall_mem_cons.mpr ⟨ae_mk pu_bin (fun X => ok_imul X (by decide +kernel)), ?_⟩
  refine List.forall_mem_cons.mpr ⟨ae_mk pu_il (fun X => ok_iload_n X (k := 2) rfl (by decide +kernel)), ?_⟩
  refine List.forall_mem_cons.mpr ⟨ae_mk pu_bin (fun X => ok_iadd X (by decide +kernel)), ?_⟩
  refine List.forall_mem_cons.mpr ⟨ae_mk pu_ia (fun X => ok_ia X (by decide +kernel)), ?_⟩
  refine List.forall_mem_cons.mpr ⟨Or.inl ⟨rfl, (by decide +kernel), rt_int⟩, ?_⟩
  exact fun _ h => absurd h List.not_mem_nil
def tb_109 : List (Nat × ae_I) := [(0, .inl (o_il 3 1)),
  (1, .inl (o_sw 0 7 [48, 58, 64, 74, 80, 89, 94, 94] 96)),
  (48, .inl (o_push (.int 1000) 51)),
  (51, .inl (o_il 0 52)),
  (52, .inl (o_bin (fun x y => x + y) 53)),
  (53, .inl (o_push (.int 256) 56)),
  (56, .inl (o_dv (fun x y => x / y) 57)),
  (57, .inr (.inl (some k_int))),
  (58, .inl (o_push (.int 1000) 61)),
  (61, .inl (o_il 0 62)),
  (62, .inl (o_bin (fun x y => x + y) 63)),
  (63, .inr (.inl (some k_int))),
  (64, .inl (o_push (.int 2000) 67)),
  (67, .inl (o_il 0 68)),
  (68, .inl (o_bin (fun x y => x + y) 69)),
  (69, .inl (o_push (.int 256) 72)),
  (72, .inl (o_dv (fun x y => x / y) 73)),
  (73, .inr (.inl (some k_int))),
  (74, .inl (o_push (.int 2000) 77)),
  (77, .inl (o_il 0 78)),
  (78, .inl (o_bin (fun x y => x + y) 79)),
  (79, .inr (.inl (some k_int))),
  (80, .inl (o_il 1 81)),
  (81, .inl (o_push (.int 8) 83)),
  (83, .inl (o_bin (fun x y => x + y) 84)),
  (84, .inl (o_push (.int 256) 87)),
  (87, .inl (o_dv (fun x y => x / y) 88)),
  (88, .inr (.inl (some k_int))),
  (89, .inl (o_il 1 90)),
  (90, .inl (o_push (.int 8) 92)),
  (92, .inl (o_bin (fun x y => x + y) 93)),
  (93, .inr (.inl (some k_int))),
  (94, .inl (o_push (.int 0) 95)),
  (95, .inr (.inl (some k_int))),
  (96, .inl (o_il 2 97)),
  (97, .inl (o_push (.int 37) 99)),
  (99, .inl (o_il 3 100)),
  (100, .inl (o_push (.int 8) 102)),
  (102, .inl (o_bin (fun x y => x - y) 103)),
  (103, .inl (o_bin (fun x y => x * y) 104)),
  (104, .inl (o_bin (fun x y => x + y) 105)),
  (105, .inl (o_il 3 106)),
  (106, .inl (o_push (.int 8) 108)),
  (108, .inl (o_bin (fun x y => x - y) 109)),
  (109, .inl (o_il 3 110)),
  (110, .inl (o_push (.int 8) 112)),
  (112, .inl (o_bin (fun x y => x - y) 113)),
  (113, .inl (o_bin (fun x y => x * y) 114)),
  (114, .inl (o_push (.int 8) 116)),
  (116, .inl (o_dv (fun x y => x / y) 117)),
  (117, .inl (o_bin (fun x y => x + y) 118)),
  (118, .inr (.inl (some k_int)))]
theorem te_109 : ∀ q ∈ tb_109, ae_E am "TwinNetworkModel" "datagram" prog_10_method_21_code 4 (Option.some Jvm.ClassFile.FieldType.int) [] q := by
  unfold tb_109
  refine List.forall_mem_cons.mpr ⟨ae_mk pu_il (fun X => ok_iload_n X (k := 3) rfl (by decide +kernel)), ?_⟩
  refine List.forall_mem_cons.mpr ⟨ae_mk pu_sw (fun X => ok_sw X (dflt := 95) (offs := #[47, 57, 63, 73, 79, 88, 93, 93]) (len := 47) (by decide) (sw_ok (by decide +kernel)) (by decide +kernel)), ?_⟩
  refine List.forall_mem_cons.mpr ⟨ae_mk (pu_push (fun _ => trivial)) (fun X => ok_sipush X (n := 1000) (by decide) (by decide +kernel)), ?_⟩
  refine List.forall_mem_cons.mpr ⟨ae_mk pu_il (fun X => ok_iload_n X (k := 0) rfl (by decide +kernel)), ?_⟩
  refine List.forall_mem_cons.mpr ⟨ae_mk pu_bin (fun X => ok_iadd X (by decide +kernel)), ?_⟩
  refine List.forall_mem_cons.mpr ⟨ae_mk (pu_push (fun _ => trivial)) (fun X => ok_sipush X (n := 256) (by decide) (by decide +kernel)), ?_⟩
  refine List.forall_mem_cons.mpr ⟨ae_mk pu_dv (fun X => ok_idiv X (by decide +kernel)), ?_⟩
  refine List.forall_mem_cons.mpr ⟨Or.inl ⟨rfl, (by decide +kernel), rt_int⟩, ?_⟩
  refine List.forall_mem_cons.mpr ⟨ae_mk (pu_push (fun _ => trivial)) (fun X => ok_sipush X (n := 1000) (by decide) (by decide +kernel)), ?_⟩
  refine List.forall_mem_cons.mpr ⟨ae_mk pu_il (fun X => ok_iload_n X (k := 0) rfl (by decide +kernel)), ?_⟩
  refine List.forall_mem_cons.mpr ⟨ae_mk pu_bin (fun X => ok_iadd X (by decide +kernel)), ?_⟩
  refine List.forall_mem_cons.mpr ⟨Or.inl ⟨rfl, (by decide +kernel), rt_int⟩, ?_⟩
  refine List.forall_mem_cons.mpr ⟨ae_mk (pu_push (fun _ => trivial)) (fun X => ok_sipush X (n := 2000) (by decide) (by decide +kernel)), ?_⟩
  refine List.forall_mem_cons.mpr ⟨ae_mk pu_il (fun X => ok_iload_n X (k := 0) rfl (by decide +kernel)), ?_⟩
  refine List.forall_mem_cons.mpr ⟨ae_mk pu_bin (fun X => ok_iadd X (by decide +kernel)), ?_⟩
  refine List.forall_mem_cons.mpr ⟨ae_mk (pu_push (fun _ => trivial)) (fun X => ok_sipush X (n := 256) (by decide) (by decide +kernel)), ?_⟩
  refine List.forall_mem_cons.mpr ⟨ae_mk pu_dv (fun X => ok_idiv X (by decide +kernel)), ?_⟩
  refine List.forall_mem_cons.mpr ⟨Or.inl ⟨rfl, (by decide +kernel), rt_int⟩, ?_⟩
  refine List.forall_mem_cons.mpr ⟨ae_mk (pu_push (fun _ => trivial)) (fun X => ok_sipush X (n := 2000) (by decide) (by decide +kernel)), ?_⟩
  refine List.forall_mem_cons.mpr ⟨ae_mk pu_il (fun X => ok_iload_n X (k := 0) rfl (by decide +kernel)), ?_⟩
  refine List.forall_mem_cons.mpr ⟨ae_mk pu_bin (fun X => ok_iadd X (by decide +kernel)), ?_⟩
  refine List.forall_mem_cons.mpr ⟨Or.inl ⟨rfl, (by decide +kernel), rt_int⟩, ?_⟩
  refine List.forall_mem_cons.mpr ⟨ae_mk pu_il (fun X => ok_iload_n X (k := 1) rfl (by decide +kernel)), ?_⟩
  refine List.forall_mem_cons.mpr ⟨ae_mk (pu_push (fun _ => trivial)) (fun X => ok_bipush X (n := 8) (by decide) (by decide +kernel)), ?_⟩
  refine List.forall_mem_cons.mpr ⟨ae_mk pu_bin (fun X => ok_iadd X (by decide +kernel)), ?_⟩
  refine List.forall_mem_cons.mpr ⟨ae_mk (pu_push (fun _ => trivial)) (fun X => ok_sipush X (n := 256) (by decide) (by decide +kernel)), ?_⟩
  refine List.forall_mem_cons.mpr ⟨ae_mk pu_dv (fun X => ok_idiv X (by decide +kernel)), ?_⟩
  refine List.forall_mem_cons.mpr ⟨Or.inl ⟨rfl, (by decide +kernel), rt_int⟩, ?_⟩
  refine List.forall_mem_cons.mpr ⟨ae_mk pu_il (fun X => ok_iload_n X (k := 1) rfl (by decide +kernel)), ?_⟩
  refine List.forall_mem_cons.mpr ⟨ae_mk (pu_push (fun _ => trivial)) (fun X => ok_bipush X (n := 8) (by decide) (by decide +kernel)), ?_⟩
  refine List.forall_mem_cons.mpr ⟨ae_mk pu_bin (fun X => ok_iadd X (by decide +kernel)), ?_⟩
  refine List.forall_mem_cons.mpr ⟨Or.inl ⟨rfl, (by decide +kernel), rt_int⟩, ?_⟩
  refine List.forall_mem_cons.mpr ⟨ae_mk (pu_push (fun _ => trivial)) (fun X => ok_iconst X (n := 0) (by decide) (by decide +kernel)), ?_⟩
  refine List.forall_mem_cons.mpr ⟨Or.inl ⟨rfl, (by decide +kernel), rt_int⟩, ?_⟩
  refine List.forall_mem_cons.mpr ⟨ae_mk pu_il (fun X => ok_iload_n X (k := 2) rfl (by decide +kernel)), ?_⟩
  refine List.forall_mem_cons.mpr ⟨ae_mk (pu_push (fun _ => trivial)) (fun X => ok_bipush X (n := 37) (by decide) (by decide +kernel)), ?_⟩
  refine List.forall_mem_cons.mpr ⟨ae_mk pu_il (fun X => ok_iload_n X (k := 3) rfl (by decide +kernel)), ?_⟩
  refine List.forall_mem_cons.mpr ⟨ae_mk (pu_push (fun _ => trivial)) (fun X => ok_bipush X (n := 8) (by decide) (by decide +kernel)), ?_⟩
  refine List.forall_mem_cons.mpr ⟨ae_mk pu_bin (fun X => ok_isub X (by decide +kernel)), ?_⟩
  refine List.forall_mem_cons.mpr ⟨ae_mk pu_bin (fun X => ok_imul X (by decide +kernel)), ?_⟩
  refine List.forall_mem_cons.mpr ⟨ae_mk pu_bin (fun X => ok_iadd X (by decide +kernel)), ?_⟩
  refine List.forall_mem_cons.mpr ⟨ae_mk pu_il (fun X => ok_iload_n X (k := 3) rfl (by decide +kernel)), ?_⟩
  refine List.forall_mem_cons.mpr ⟨ae_mk (pu_push (fun _ => trivial)) (fun X => ok_bipush X (n := 8) (by decide) (by decide +kernel)), ?_⟩
  refine List.forall_mem_cons.mpr ⟨ae_mk pu_bin (fun X => ok_isub X (by decide +kernel)), ?_⟩
  refine List.forall_mem_cons.mpr ⟨ae_mk pu_il (fun X => ok_iload_n X (k := 3) rfl (by decide +kernel)), ?_⟩
  refine List.forall_mem_cons.mpr ⟨ae_mk (pu_push (fun _ => trivial)) (fun X => ok_bipush X (n := 8) (by decide) (by decide +kernel)), ?_⟩
  refine List.forall_mem_cons.mpr ⟨ae_mk pu_bin (fun X => ok_isub X (by decide +kernel)), ?_⟩
  refine List.forall_mem_cons.mpr ⟨ae_mk pu_bin (fun X => ok_imul X (by decide +kernel)), ?_⟩
  refine List.forall_mem_cons.mpr ⟨ae_mk (pu_push (fun _ => trivial)) (fun X => ok_bipush X (n := 8) (by decide) (by decide +kernel)), ?_⟩
  refine List.forall_mem_cons.mpr ⟨ae_mk pu_dv (fun X => ok_idiv X (by decide +kernel)), ?_⟩
  refine List.forall_mem_cons.mpr ⟨ae_mk pu_bin (fun X => ok_iadd X (by decide +kernel)), ?_⟩
  refine List.forall_mem_cons.mpr ⟨Or.inl ⟨rfl, (by decide +kernel), rt_int⟩, ?_⟩
  exact fun _ h => absurd h List.not_mem_nil
def tb_110 : List (Nat × ae_I) := [(0, .inl (o_al 0 1)),
  (1, .inl (o_il 1 2)),
  (2, .inl (o_al 0 3)),
  (3, .inl (o_get 8 20 6)),
  (6, .inl (o_il 1 7)),
  (7, .inl (o_ia 8)),
  (8, .inl (o_push (.int 5) 9)),
  (9, .inl (o_bin (fun x y => x - y) 10)),
  (10, .inl (o_il 2 11)),
  (11, .inr (.inr (.inl (105, 4, 14, some 8, [])))),
  (14, .inl (o_al 0 15)),
  (15, .inl (o_il 1 16)),
  (16, .inr (.inr (.inl (111, 2, 19, some 8, [])))),
  (19, .inl (o_is 3 20)),
  (20, .inl (o_push (.int 0) 21)),
  (21, .inl (o_is 4 23)),
  (23, .inl (o_il 4 25)),
  (25, .inl (o_push (.int 4) 26)),
  (26, .inl (o_ic (fun x y => decide (y ≤ x)) 58 29)),
  (29, .inl (o_al 0 30)),
  (30, .inl (o_il 1 31)),
  (31, .inl (o_al 0 32)),
  (32, .inl (o_get 8 20 35)),
  (35, .inl (o_il 1 36)),
  (36, .inl (o_ia 37)),
  (37, .inl (o_push (.int 4) 38)),
  (38, .inl (o_bin (fun x y => x - y) 39)),
  (39, .inl (o_il 4 41)),
  (41, .inl (o_bin (fun x y => x + y) 42)),
  (42, .inl (o_il 3 43)),
  (43, .inl (o_push (.int 8) 45)),
  (45, .inl (o_il 4 47)),
  (47, .inl (o_bin (fun x y => x * y) 48)),
  (48, .inl (o_bin (fun x y => x >>> (y &&& 31)) 49)),
  (49, .inr (.inr (.inl (105, 4, 52, some 8, [])))),
  (52, .inl (o_inc 4 1 55)),
  (55, .inl (o_goto 23)),
  (58, .inr (.inl none))]
theorem te_110 : ∀ q ∈ tb_110, ae_E am "TwinNetworkModel" "close" prog_10_method_20_code 5 (Option.none : Option Jvm.ClassFile.FieldType) [] q := by
  unfold tb_110
  refine List.forall_mem_cons.mpr ⟨ae_mk pu_al (fun X => ok_aload_n X (k := 0) rfl (by decide +kernel)), ?_⟩
  refine List.forall_mem_cons.mpr ⟨ae_mk pu_il (fun X => ok_iload_n X (k := 1) rfl (by decide +kernel)), ?_⟩
  refine List.forall_mem_cons.mpr ⟨ae_mk pu_al (fun X => ok_aload_n X (k := 0) rfl (by decide +kernel)), ?_⟩
  refine List.forall_mem_cons.mpr ⟨ae_mk pu_get (fun X => ok_get X (ci := 8) (kk := 20) (index := 66) rfl aw_c_Model (by decide) wd_796 (by decide +kernel)), ?_⟩
  refine List.forall_mem_cons.mpr ⟨ae_mk pu_il (fun X => ok_iload_n X (k := 1) rfl (by decide +kernel)), ?_⟩
  refine List.forall_mem_cons.mpr ⟨ae_mk pu_ia (fun X => ok_ia X (by decide +kernel)), ?_⟩
  refine List.forall_mem_cons.mpr ⟨ae_mk (pu_push (fun _ => trivial)) (fun X => ok_iconst X (n := 5) (by decide) (by decide +kernel)), ?_⟩
  refine List.forall_mem_cons.mpr ⟨ae_mk pu_bin (fun X => ok_isub X (by decide +kernel)), ?_⟩
  refine List.forall_mem_cons.mpr ⟨ae_mk pu_il (fun X => ok_iload_n X (k := 2) rfl (by decide +kernel)), ?_⟩
  refine List.forall_mem_cons.mpr ⟨ae_mkc (fun X => ok_callV X (mid := 105) (index := 166) (y := my_105) rfl (by decide) ⟨by decide, by decide⟩ (n := 3) (by decide +kernel) wd_937 wd_51 wd_934 wd_936 wd_25 (ci := 8) rfl (by decide +kernel)), ?_⟩
  refine List.forall_mem_cons.mpr ⟨ae_mk pu_al (fun X => ok_aload_n X (k := 0) rfl (by decide +kernel)), ?_⟩
  refine List.forall_mem_cons.mpr ⟨ae_mk pu_il (fun X => ok_iload_n X (k := 1) rfl (by decide +kernel)), ?_⟩
  refine List.forall_mem_cons.mpr ⟨ae_mkc (fun X => ok_callV X (mid := 111) (index := 159) (y := my_111) rfl (by decide) ⟨by decide, by decide⟩ (n := 1) (by decide +kernel) wd_961 wd_51 wd_958 wd_960 wd_30 (ci := 8) rfl (by decide +kernel)), ?_⟩
  refine List.forall_mem_cons.mpr ⟨ae_mk pu_is (fun X => ok_istore_n X (k := 3) rfl (by decide +kernel)), ?_⟩
  refine List.forall_mem_cons.mpr ⟨ae_mk (pu_push (fun _ => trivial)) (fun X => ok_iconst X (n := 0) (by decide) (by decide +kernel)), ?_⟩
  refine List.forall_mem_cons.mpr ⟨ae_mk pu_is (fun X => ok_istore X (by decide +kernel)), ?_⟩
  refine List.forall_mem_cons.mpr ⟨ae_mk pu_il (fun X => ok_iload X (by decide +kernel)), ?_⟩
  refine List.forall_mem_cons.mpr ⟨ae_mk (pu_push (fun _ => trivial)) (fun X => ok_iconst X (n := 4) (by decide) (by decide +kernel)), ?_⟩
  refine List.forall_mem_cons.mpr ⟨ae_mk pu_ic (fun X => ok_ic_ge X (off := 32) (by decide) (by decide +kernel)), ?_⟩
  refine List.forall_mem_cons.mpr ⟨ae_mk pu_al (fun X => ok_aload_n X (k := 0) rfl (by decide +kernel)), ?_⟩
  refine List.forall_mem_cons.mpr ⟨ae_mk pu_il (fun X => ok_iload_n X (k := 1) rfl (by decide +kernel)), ?_⟩
  refine List.forall_mem_cons.mpr ⟨ae_mk pu_al (fun X => ok_aload_n X (k := 0) rfl (by decide +kernel)), ?_⟩
  refine List.forall_mem_cons.mpr ⟨ae_mk pu_get (fun X => ok_get X (ci := 8) (kk := 20) (index := 66) rfl aw_c_Model (by decide) wd_796 (by decide +kernel)), ?_⟩
  refine List.forall_mem_cons.mpr ⟨ae_mk pu_il (fun X => ok_iload_n X (k := 1) rfl (by decide +kernel)), ?_⟩
  refine List.forall_mem_cons.mpr ⟨ae_mk pu_ia (fun X => ok_ia X (by decide +kernel)), ?_⟩
  refine List.forall_mem_cons.mpr ⟨ae_mk (pu_push (fun _ => trivial)) (fun X => ok_iconst X (n := 4) (by decide) (by decide +kernel)), ?_⟩
  refine List.forall_mem_cons.mpr ⟨ae_mk pu_bin (fun X => ok_isub X (by decide +kernel)), ?_⟩
  refine List.forall_mem_cons.mpr ⟨ae_mk pu_il (fun X => ok_iload X (by decide +kernel)), ?_⟩
  refine List.forall_mem_cons.mpr ⟨ae_mk pu_bin (fun X => ok_iadd X (by decide +kernel)), ?_⟩
  refine List.forall_mem_cons.mpr ⟨ae_mk pu_il (fun X => ok_iload_n X (k := 3) rfl (by decide +kernel)), ?_⟩
  refine List.forall_mem_cons.mpr ⟨ae_mk (pu_push (fun _ => trivial)) (fun X => ok_bipush X (n := 8) (by decide) (by decide +kernel)), ?_⟩
  refine List.forall_mem_cons.mpr ⟨ae_mk pu_il (fun X => ok_iload X (by decide +kernel)), ?_⟩
  refine List.forall_mem_cons.mpr ⟨ae_mk pu_bin (fun X => ok_imul X (by decide +kernel)), ?_⟩
  refine List.forall_mem_cons.mpr ⟨ae_mk pu_bin (fun X => ok_ishr X (by decide +kernel)), ?_⟩
  refine List.forall_mem_cons.mpr ⟨ae_mkc (fun X => ok_callV X (mid := 105) (index := 166) (y := my_105) rfl (by decide) ⟨by decide, by decide⟩ (n := 3) (by decide +kernel) wd_937 wd_51 wd_934 wd_936 wd_25 (ci := 8) rfl (by decide +kernel)), ?_⟩
  refine List.forall_mem_cons.mpr ⟨ae_mk pu_inc (fun X => ok_iinc X (n := 1) (by decide) (by decide +kernel)), ?_⟩
  refine List.forall_mem_cons.mpr ⟨ae_mk pu_goto (fun X => ok_goto X (off := (-32)) (by decide) (by decide +kernel)), ?_⟩
  refine List.forall_mem_cons.mpr ⟨⟨rfl, (by decide +kernel)⟩, ?_⟩
  exact fun _ h => absurd h List.not_mem_nil
def tb_111 : List (Nat × ae_I) := [(0, .inl (o_push (.int (-1)) 1)),
  (1, .inl (o_is 2 2)),
  (2, .inl (o_push (.int 0) 3)),
  (3, .inl (o_is 3 4)),
  (4, .inl (o_il 3 5)),
  (5, .inl (o_push (.int 8) 7)),
  (7, .inl (o_al 0 8)),
  (8, .inl (o_get 8 20 11)),
  (11, .inl (o_il 1 12)),
  (12, .inl (o_ia 13)),
  (13, .inl (o_push (.int 4) 14)),
  (14, .inl (o_bin (fun x y => x - y) 15)),
  (15, .inl (o_bin (fun x y => x * y) 16)),
  (16, .inl (o_ic (fun x y => decide (y ≤ x)) 72 19)),
  (19, .inl (o_al 0 20)),
  (20, .inl (o_il 1 21)),
  (21, .inl (o_il 3 22)),
  (22, .inl (o_push (.int 8) 24)),
  (24, .inl (o_dv (fun x y => x / y) 25)),
  (25, .inr (.inr (.inl (108, 3, 28, some 8, [])))),
  (28, .inl (o_il 3 29)),
  (29, .inl (o_push (.int 8) 31)),
  (31, .inl (o_dv (fun x y => x - x / y * y) 32)),
  (32, .inl (o_bin (fun x y => x >>> (y &&& 31)) 33)),
  (33, .inl (o_push (.int 1) 34)),
  (34, .inl (o_bin (fun x y => x &&& y) 35)),
  (35, .inl (o_is 4 37)),
  (37, .inl (o_il 2 38)),
  (38, .inl (o_push (.int 1) 39)),
  (39, .inl (o_bin (fun x y => x &&& y) 40)),
  (40, .inl (o_il 4 42)),
  (42, .inl (o_ic (fun x y => decide (x = y)) 49 45)),
  (45, .inl (o_push (.int 1) 46)),
  (46, .inl (o_goto 50)),
  (49, .inl (o_push (.int 0) 50)),
  (50, .inl (o_is 5 52)),
  (52, .inl (o_il 2 53)),
  (53, .inl (o_push (.int 1) 54)),
  (54, .inl (o_bin (fun x y => (x.toUInt32 >>> (y.toUInt32 &&& Int32.toUInt32 31)).toInt32) 55)),
  (55, .inl (o_is 2 56)),
  (56, .inl (o_il 5 58)),
  (58, .inl (o_if (fun x => decide (x = 0)) 66 61)),
  (61, .inl (o_il 2 62)),
  (62, .inl (o_push (.int (-306674912 : Int32)) 64)),
  (64, .inl (o_bin (fun x y => x ^^^ y) 65)),
  (65, .inl (o_is 2 66)),
  (66, .inl (o_inc 3 1 69)),
  (69, .inl (o_goto 4)),
  (72, .inl (o_il 2 73)),
  (73, .inl (o_push (.int (-1)) 74)),
  (74, .inl (o_bin (fun x y => x ^^^ y) 75)),
  (75, .inr (.inl (some k_int)))]
theorem te_111 : ∀ q ∈ tb_111, ae_E am "TwinNetworkModel" "check" prog_10_method_17_code 6 (Option.some Jvm.ClassFile.FieldType.int) [] q := by
  unfold tb_111
  refine List.forall_mem_cons.mpr ⟨ae_mk (pu_push (fun _ => trivial)) (fun X => ok_iconst X (n := (-1)) (by decide) (by decide +kernel)), ?_⟩
  refine List.forall_mem_cons.mpr ⟨ae_mk pu_is (fun X => ok_istore_n X (k := 2) rfl (by decide +kernel)), ?_⟩
  refine List.forall_mem_cons.mpr ⟨ae_mk (pu_push (fun _ => trivial)) (fun X => ok_iconst X (n := 0) (by decide) (by decide +kernel)), ?_⟩
  refine List.forall_mem_cons.mpr ⟨ae_mk pu_is (fun X => ok_istore_n X (k := 3) rfl (by decide +kernel)), ?_⟩
  refine List.forall_mem_cons.mpr ⟨ae_mk pu_il (fun X => ok_iload_n X (k := 3) rfl (by decide +kernel)), ?_⟩
  refine List.forall_mem_cons.mpr ⟨ae_mk (pu_push (fun _ => trivial)) (fun X => ok_bipush X (n := 8) (by decide) (by decide +kernel)), ?_⟩
  refine List.forall_mem_cons.mpr ⟨ae_mk pu_al (fun X => ok_aload_n X (k := 0) rfl (by decide +kernel)), ?_⟩
  refine List.forall_mem_cons.mpr ⟨ae_mk pu_get (fun X => ok_get X (ci := 8) (kk := 20) (index := 66) rfl aw_c_Model (by decide) wd_796 (by decide +kernel)), ?_⟩
  refine List.forall_mem_cons.mpr ⟨ae_mk pu_il (fun X => ok_iload_n X (k := 1) rfl (by decide +kernel)), ?_⟩
  refine List.forall_mem_cons.mpr ⟨ae_mk pu_ia (fun X => ok_ia X (by decide +kernel)), ?_⟩
  refine List.forall_mem_cons.mpr ⟨ae_mk (pu_push (fun _ => trivial)) (fun X => ok_iconst X (n := 4) (by decide) (by decide +kernel)), ?_⟩
  refine List.forall_mem_cons.mpr ⟨ae_mk pu_bin (fun X => ok_isub X (by decide +kernel)), ?_⟩
  refine List.forall_mem_cons.mpr ⟨ae_mk pu_bin (fun X => ok_imul X (by decide +kernel)), ?_⟩
  refine List.forall_mem_cons.mpr ⟨ae_mk pu_ic (fun X => ok_ic_ge X (off := 56) (by decide) (by decide +kernel)), ?_⟩
  refine List.forall_mem_cons.mpr ⟨ae_mk pu_al (fun X => ok_aload_n X (k := 0) rfl (by decide +kernel)), ?_⟩
  refine List.forall_mem_cons.mpr ⟨ae_mk pu_il (fun X => ok_iload_n X (k := 1) rfl (by decide +kernel)), ?_⟩
  refine List.forall_mem_cons.mpr ⟨ae_mk pu_il (fun X => ok_iload_n X (k := 3) rfl (by decide +kernel)), ?_⟩
  refine List.forall_mem_cons.mpr ⟨ae_mk (pu_push (fun _ => trivial)) (fun X => ok_bipush X (n := 8) (by decide) (by decide +kernel)), ?_⟩
  refine List.forall_mem_cons.mpr ⟨ae_mk pu_dv (fun X => ok_idiv X (by decide +kernel)), ?_⟩
  refine List.forall_mem_cons.mpr ⟨ae_mkc (fun X => ok_callV X (mid := 108) (index := 150) (y := my_108) rfl (by decide) ⟨by decide, by decide⟩ (n := 2) (by decide +kernel) wd_949 wd_51 wd_946 wd_948 wd_28 (ci := 8) rfl (by decide +kernel)), ?_⟩
  refine List.forall_mem_cons.mpr ⟨ae_mk pu_il (fun X => ok_iload_n X (k := 3) rfl (by decide +kernel)), ?_⟩
  refine List.forall_mem_cons.mpr ⟨ae_mk (pu_push (fun _ => trivial)) (fun X => ok_bipush X (n := 8) (by decide) (by decide +kernel)), ?_⟩
  refine List.forall_mem_cons.mpr ⟨ae_mk pu_dv (fun X => ok_irem X (by decide +kernel)), ?_⟩
  refine List.forall_mem_cons.mpr ⟨ae_mk pu_bin (fun X => ok_ishr X (by decide +kernel)), ?_⟩
  refine List.forall_mem_cons.mpr ⟨ae_mk (pu_push (fun _ => trivial)) (fun X => ok_iconst X (n := 1) (by decide) (by decide +kernel)), ?_⟩
  refine List.forall_mem_cons.mpr ⟨ae_mk pu_bin (fun X => ok_iand X (by decide +kernel)), ?_⟩
  refine List.forall_mem_cons.mpr ⟨ae_mk pu_is (fun X => ok_istore X (by decide +kernel)), ?_⟩
  refine List.forall_mem_cons.mpr ⟨ae_mk pu_il (fun X => ok_iload_n X (k := 2) rfl (by decide +kernel)), ?_⟩
  refine List.forall_mem_cons.mpr ⟨ae_mk (pu_push (fun _ => trivial)) (fun X => ok_iconst X (n := 1) (by decide) (by decide +kernel)), ?_⟩
  refine List.forall_mem_cons.mpr ⟨ae_mk pu_bin (fun X => ok_iand X (by decide +kernel)), ?_⟩
  refine List.forall_mem_cons.mpr ⟨ae_mk pu_il (fun X => ok_iload X (by decide +kernel)), ?_⟩
  refine List.forall_mem_cons.mpr ⟨ae_mk pu_ic (fun X => ok_ic_eq X (off := 7) (by decide) (by decide +kernel)), ?_⟩
  refine List.forall_mem_cons.mpr ⟨ae_mk (pu_push (fun _ => trivial)) (fun X => ok_iconst X (n := 1) (by decide) (by decide +kernel)), ?_⟩
  refine List.forall_mem_cons.mpr ⟨ae_mk pu_goto (fun X => ok_goto X (off := 4) (by decide) (by decide +kernel)), ?_⟩
  refine List.forall_mem_cons.mpr ⟨ae_mk (pu_push (fun _ => trivial)) (fun X => ok_iconst X (n := 0) (by decide) (by decide +kernel)), ?_⟩
  refine List.forall_mem_cons.mpr ⟨ae_mk pu_is (fun X => ok_istore X (by decide +kernel)), ?_⟩
  refine List.forall_mem_cons.mpr ⟨ae_mk pu_il (fun X => ok_iload_n X (k := 2) rfl (by decide +kernel)), ?_⟩
  refine List.forall_mem_cons.mpr ⟨ae_mk (pu_push (fun _ => trivial)) (fun X => ok_iconst X (n := 1) (by decide) (by decide +kernel)), ?_⟩
  refine List.forall_mem_cons.mpr ⟨ae_mk pu_bin (fun X => ok_iushr X (by decide +kernel)), ?_⟩
  refine List.forall_mem_cons.mpr ⟨ae_mk pu_is (fun X => ok_istore_n X (k := 2) rfl (by decide +kernel)), ?_⟩
  refine List.forall_mem_cons.mpr ⟨ae_mk pu_il (fun X => ok_iload X (by decide +kernel)), ?_⟩
  refine List.forall_mem_cons.mpr ⟨ae_mk pu_if (fun X => ok_if_eq X (off := 8) (by decide) (by decide +kernel)), ?_⟩
  refine List.forall_mem_cons.mpr ⟨ae_mk pu_il (fun X => ok_iload_n X (k := 2) rfl (by decide +kernel)), ?_⟩
  refine List.forall_mem_cons.mpr ⟨ae_mk (pu_push (fun _ => trivial)) (fun X => ok_ldc X (index := 158) wd_962 (by decide +kernel)), ?_⟩
  refine List.forall_mem_cons.mpr ⟨ae_mk pu_bin (fun X => ok_ixor X (by decide +kernel)), ?_⟩
  refine List.forall_mem_cons.mpr ⟨ae_mk pu_is (fun X => ok_istore_n X (k := 2) rfl (by decide +kernel)), ?_⟩
  refine List.forall_mem_cons.mpr ⟨ae_mk pu_inc (fun X => ok_iinc X (n := 1) (by decide) (by decide +kernel)), ?_⟩
  refine List.forall_mem_cons.mpr ⟨ae_mk pu_goto (fun X => ok_goto X (off := (-65)) (by decide) (by decide +kernel)), ?_⟩
  refine List.forall_mem_cons.mpr ⟨ae_mk pu_il (fun X => ok_iload_n X (k := 2) rfl (by decide +kernel)), ?_⟩
  refine List.forall_mem_cons.mpr ⟨ae_mk (pu_push (fun _ => trivial)) (fun X => ok_iconst X (n := (-1)) (by decide) (by decide +kernel)), ?_⟩
  refine List.forall_mem_cons.mpr ⟨ae_mk pu_bin (fun X => ok_ixor X (by decide +kernel)), ?_⟩
  refine List.forall_mem_cons.mpr ⟨Or.inl ⟨rfl, (by decide +kernel), rt_int⟩, ?_⟩
  exact fun _ h => absurd h List.not_mem_nil
def tb_112 : List (Nat × ae_I) := [(0, .inl (o_il 1 1)),
  (1, .inl (o_push (.int 12) 3)),
  (3, .inl (o_dv (fun x y => x - x / y * y) 4)),
  (4, .inl (o_push (.int 4) 5)),
  (5, .inl (o_ic (fun x y => decide (y ≤ x)) 12 8)),
  (8, .inl (o_push (.int 1) 9)),
  (9, .inl (o_goto 13)),
  (12, .inl (o_push (.int 0) 13)),
  (13, .inl (o_is 4 15)),
  (15, .inl (o_push (.int 2) 16)),
  (16, .inl (o_il 1 17)),
  (17, .inl (o_bin (fun x y => x * y) 18)),
  (18, .inl (o_il 3 19)),
  (19, .inl (o_if (fun x => decide (x = 0)) 31 22)),
  (22, .inl (o_il 4 24)),
  (24, .inl (o_if (fun x => decide (¬ x = 0)) 31 27)),
  (27, .inl (o_push (.int 1) 28)),
  (28, .inl (o_goto 32)),
  (31, .inl (o_push (.int 0) 32)),
  (32, .inl (o_bin (fun x y => x + y) 33)),
  (33, .inl (o_is 5 35)),
  (35, .inl (o_al 0 36)),
  (36, .inl (o_get 8 23 39)),
  (39, .inl (o_il 5 41)),
  (41, .inl (o_ia 42)),
  (42, .inl (o_il 4 44)),
  (44, .inl (o_if (fun x => decide (x = 0)) 52 47)),
  (47, .inl (o_push (.int 16) 49)),
  (49, .inl (o_goto 53)),
  (52, .inl (o_push (.int 4) 53)),
  (53, .inl (o_ic (fun x y => decide (¬ x = y)) 64 56)),
  (56, .inl (o_al 0 57)),
  (57, .inl (o_il 2 58)),
  (58, .inl (o_push (.int 6) 60)),
  (60, .inr (.inr (.inl (113, 3, 63, some 8, [])))),
  (63, .inr (.inl none)),
  (64, .inl (o_al 0 65)),
  (65, .inl (o_get 8 22 68)),
  (68, .inl (o_push (.int 16) 70)),
  (70, .inl (o_il 5 72)),
  (72, .inl (o_bin (fun x y => x * y) 73)),
  (73, .inl (o_al 0 74)),
  (74, .inl (o_get 8 23 77)),
  (77, .inl (o_il 5 79)),
  (79, .inl (o_ia 80)),
  (80, .inl (o_bin (fun x y => x + y) 81)),
  (81, .inl (o_il 2 82)),
  (82, .inl (o_ias 83)),
  (83, .inl (o_al 0 84)),
  (84, .inl (o_get 8 23 87)),
  (87, .inl (o_il 5 89)),
  (89, .inl (o_dup2 90)),
  (90, .inl (o_ia 91)),
  (91, .inl (o_push (.int 1) 92)),
  (92, .inl (o_bin (fun x y => x + y) 93)),
  (93, .inl (o_ias 94)),
  (94, .inr (.inl none))]
theorem te_112 : ∀ q ∈ tb_112, ae_E am "TwinNetworkModel" "enter" prog_10_method_23_code 6 (Option.none : Option Jvm.ClassFile.FieldType) [] q := by
  unfold tb_112
  refine List.forall_mem_cons.mpr ⟨ae_mk pu_il (fun X => ok_iload_n X (k := 1) rfl (by decide +kernel)), ?_⟩
  refine List.forall_mem_cons.mpr ⟨ae_mk (pu_push (fun _ => trivial)) (fun X => ok_bipush X (n := 12) (by decide) (by decide +kernel)), ?_⟩
  refine List.forall_mem_cons.mpr ⟨ae_mk pu_dv (fun X => ok_irem X (by decide +kernel)), ?_⟩
  refine List.forall_mem_cons.mpr ⟨ae_mk (pu_push (fun _ => trivial)) (fun X => ok_iconst X (n := 4) (by decide) (by decide +kernel)), ?_⟩
  refine List.forall_mem_cons.mpr ⟨ae_mk pu_ic (fun X => ok_ic_ge X (off := 7) (by decide) (by decide +kernel)), ?_⟩
  refine List.forall_mem_cons.mpr ⟨ae_mk (pu_push (fun _ => trivial)) (fun X => ok_iconst X (n := 1) (by decide) (by decide +kernel)), ?_⟩
  refine List.forall_mem_cons.mpr ⟨ae_mk pu_goto (fun X => ok_goto X (off := 4) (by decide) (by decide +kernel)), ?_⟩
  refine List.forall_mem_cons.mpr ⟨ae_mk (pu_push (fun _ => trivial)) (fun X => ok_iconst X (n := 0) (by decide) (by decide +kernel)), ?_⟩
  refine List.forall_mem_cons.mpr ⟨ae_mk pu_is (fun X => ok_istore X (by decide +kernel)), ?_⟩
  refine List.forall_mem_cons.mpr ⟨ae_mk (pu_push (fun _ => trivial)) (fun X => ok_iconst X (n := 2) (by decide) (by decide +kernel)), ?_⟩
  refine List.forall_mem_cons.mpr ⟨ae_mk pu_il (fun X => ok_iload_n X (k := 1) rfl (by decide +kernel)), ?_⟩
  refine List.forall_mem_cons.mpr ⟨ae_mk pu_bin (fun X => ok_imul X (by decide +kernel)), ?_⟩
  refine List.forall_mem_cons.mpr ⟨ae_mk pu_il (fun X => ok_iload_n X (k := 3) rfl (by decide +kernel)), ?_⟩
  refine List.forall_mem_cons.mpr ⟨ae_mk pu_if (fun X => ok_if_eq X (off := 12) (by decide) (by decide +kernel)), ?_⟩
  refine List.forall_mem_cons.mpr ⟨ae_mk pu_il (fun X => ok_iload X (by decide +kernel)), ?_⟩
  refine List.forall_mem_cons.mpr ⟨ae_mk pu_if (fun X => ok_if_ne X (off := 7) (by decide) (by decide +kernel)), ?_⟩
  refine List.forall_mem_cons.mpr ⟨ae_mk (pu_push (fun _ => trivial)) (fun X => ok_iconst X (n := 1) (by decide) (by decide +kernel)), ?_⟩
  refine List.forall_mem_cons.mpr ⟨ae_mk pu_goto (fun X => ok_goto X (off := 4) (by decide) (by decide +kernel)), ?_⟩
  refine List.forall_mem_cons.mpr ⟨ae_mk (pu_push (fun _ => trivial)) (fun X => ok_iconst X (n := 0) (by decide) (by decide +kernel)), ?_⟩
  refine List.forall_mem_cons.mpr ⟨ae_mk pu_bin (fun X => ok_iadd X (by decide +kernel)), ?_⟩
  refine List.forall_mem_cons.mpr ⟨ae_mk pu_is (fun X => ok_istore X (by decide +kernel)), ?_⟩
  refine List.forall_mem_cons.mpr ⟨ae_mk pu_al (fun X => ok_aload_n X (k := 0) rfl (by decide +kernel)), ?_⟩
  refine List.forall_mem_cons.mpr ⟨ae_mk pu_get (fun X => ok_get X (ci := 8) (kk := 23) (index := 75) rfl aw_c_Model (by decide) wd_799 (by decide +kernel)), ?_⟩
  refine List.forall_mem_cons.mpr ⟨ae_mk pu_il (fun X => ok_iload X (by decide +kernel)), ?_⟩
  refine List.forall_mem_cons.mpr ⟨ae_mk pu_ia (fun X => ok_ia X (by decide +kernel)), ?_⟩
  refine List.forall_mem_cons.mpr ⟨ae_mk pu_il (fun X => ok_iload X (by decide +kernel)), ?_⟩
  refine List.forall_mem_cons.mpr ⟨ae_mk pu_if (fun X => ok_if_eq X (off := 8) (by decide) (by decide +kernel)), ?_⟩
  refine List.forall_mem_cons.mpr ⟨ae_mk (pu_push (fun _ => trivial)) (fun X => ok_bipush X (n := 16) (by decide) (by decide +kernel)), ?_⟩
  refine List.forall_mem_cons.mpr ⟨ae_mk pu_goto (fun X => ok_goto X (off := 4) (by decide) (by decide +kernel)), ?_⟩
  refine List.forall_mem_cons.mpr ⟨ae_mk (pu_push (fun _ => trivial)) (fun X => ok_iconst X (n := 4) (by decide) (by decide +kernel)), ?_⟩
  refine List.forall_mem_cons.mpr ⟨ae_mk pu_ic (fun X => ok_ic_ne X (off := 11) (by decide) (by decide +kernel)), ?_⟩
  refine List.forall_mem_cons.mpr ⟨ae_mk pu_al (fun X => ok_aload_n X (k := 0) rfl (by decide +kernel)), ?_⟩
  refine List.forall_mem_cons.mpr ⟨ae_mk pu_il (fun X => ok_iload_n X (k := 2) rfl (by decide +kernel)), ?_⟩
  refine List.forall_mem_cons.mpr ⟨ae_mk (pu_push (fun _ => trivial)) (fun X => ok_bipush X (n := 6) (by decide) (by decide +kernel)), ?_⟩
  refine List.forall_mem_cons.mpr ⟨ae_mkc (fun X => ok_callV X (mid := 113) (index := 173) (y := my_113) rfl (by decide) ⟨by decide, by decide⟩ (n := 2) (by decide +kernel) wd_970 wd_51 wd_967 wd_969 wd_32 (ci := 8) rfl (by decide +kernel)), ?_⟩
  refine List.forall_mem_cons.mpr ⟨⟨rfl, (by decide +kernel)⟩, ?_⟩
  refine List.forall_mem_cons.mpr ⟨ae_mk pu_al (fun X => ok_aload_n X (k := 0) rfl (by decide +kernel)), ?_⟩
  refine List.forall_mem_cons.mpr ⟨ae_mk pu_get (fun X => ok_get X (ci := 8) (kk := 22) (index := 72) rfl aw_c_Model (by decide) wd_798 (by decide +kernel)), ?_⟩
  refine List.forall_mem_cons.mpr ⟨ae_mk (pu_push (fun _ => trivial)) (fun X => ok_bipush X (n := 16) (by decide) (by decide +kernel)), ?_⟩
  refine List.forall_mem_cons.mpr ⟨ae_mk pu_il (fun X => ok_iload X (by decide +kernel)), ?_⟩
  refine List.forall_mem_cons.mpr ⟨ae_mk pu_bin (fun X => ok_imul X (by decide +kernel)), ?_⟩
  refine List.forall_mem_cons.mpr ⟨ae_mk pu_al (fun X => ok_aload_n X (k := 0) rfl (by decide +kernel)), ?_⟩
  refine List.forall_mem_cons.mpr ⟨ae_mk pu_get (fun X => ok_get X (ci := 8) (kk := 23) (index := 75) rfl aw_c_Model (by decide) wd_799 (by decide +kernel)), ?_⟩
  refine List.forall_mem_cons.mpr ⟨ae_mk pu_il (fun X => ok_iload X (by decide +kernel)), ?_⟩
  refine List.forall_mem_cons.mpr ⟨ae_mk pu_ia (fun X => ok_ia X (by decide +kernel)), ?_⟩
  refine List.forall_mem_cons.mpr ⟨ae_mk pu_bin (fun X => ok_iadd X (by decide +kernel)), ?_⟩
  refine List.forall_mem_cons.mpr ⟨ae_mk pu_il (fun X => ok_iload_n X (k := 2) rfl (by decide +kernel)), ?_⟩
  refine List.forall_mem_cons.mpr ⟨ae_mk pu_ias (fun X => ok_ias X (by decide +kernel)), ?_⟩
  refine List.forall_mem_cons.mpr ⟨ae_mk pu_al (fun X => ok_aload_n X (k := 0) rfl (by decide +kernel)), ?_⟩
  refine List.forall_mem_cons.mpr ⟨ae_mk pu_get (fun X => ok_get X (ci := 8) (kk := 23) (index := 75) rfl aw_c_Model (by decide) wd_799 (by decide +kernel)), ?_⟩
  refine List.forall_mem_cons.mpr ⟨ae_mk pu_il (fun X => ok_iload X (by decide +kernel)), ?_⟩
  refine List.forall_mem_cons.mpr ⟨ae_mk pu_dup2 (fun X => ok_dup2 X (by decide +kernel)), ?_⟩
  refine List.forall_mem_cons.mpr ⟨ae_mk pu_ia (fun X => ok_ia X (by decide +kernel)), ?_⟩
  refine List.forall_mem_cons.mpr ⟨ae_mk (pu_push (fun _ => trivial)) (fun X => ok_iconst X (n := 1) (by decide) (by decide +kernel)), ?_⟩
  refine List.forall_mem_cons.mpr ⟨ae_mk pu_bin (fun X => ok_iadd X (by decide +kernel)), ?_⟩
  refine List.forall_mem_cons.mpr ⟨ae_mk pu_ias (fun X => ok_ias X (by decide +kernel)), ?_⟩
  refine List.forall_mem_cons.mpr ⟨⟨rfl, (by decide +kernel)⟩, ?_⟩
  exact fun _ h => absurd h List.not_mem_nil
def tb_113 : List (Nat × ae_I) := [(0, .inl (o_al 0 1)),
  (1, .inl (o_get 8 38 4)),
  (4, .inl (o_il 2 5)),
  (5, .inl (o_dup2 6)),
  (6, .inl (o_ia 7)),
  (7, .inl (o_push (.int 1) 8)),
  (8, .inl (o_bin (fun x y => x + y) 9)),
  (9, .inl (o_ias 10)),
  (10, .inl (o_al 0 11)),
  (11, .inl (o_get 8 21 14)),
  (14, .inl (o_il 1 15)),
  (15, .inl (o_push (.int 0) 16)),
  (16, .inl (o_bas 17)),
  (17, .inr (.inl none))]
theorem te_113 : ∀ q ∈ tb_113, ae_E am "TwinNetworkModel" "drop" prog_10_method_22_code 3 (Option.none : Option Jvm.ClassFile.FieldType) [] q := by
  unfold tb_113
  refine List.forall_mem_cons.mpr ⟨ae_mk pu_al (fun X => ok_aload_n X (k := 0) rfl (by decide +kernel)), ?_⟩
  refine List.forall_mem_cons.mpr ⟨ae_mk pu_get (fun X => ok_get X (ci := 8) (kk := 38) (index := 121) rfl aw_c_Model (by decide) wd_814 (by decide +kernel)), ?_⟩
  refine List.forall_mem_cons.mpr ⟨ae_mk pu_il (fun X => ok_iload_n X (k := 2) rfl (by decide +kernel)), ?_⟩
  refine List.forall_mem_cons.mpr ⟨ae_mk pu_dup2 (fun X => ok_dup2 X (by decide +kernel)), ?_⟩
  refine List.forall_mem_cons.mpr ⟨ae_mk pu_ia (fun X => ok_ia X (by decide +kernel)), ?_⟩
  refine List.forall_mem_cons.mpr ⟨ae_mk (pu_push (fun _ => trivial)) (fun X => ok_iconst X (n := 1) (by decide) (by decide +kernel)), ?_⟩
  refine List.forall_mem_cons.mpr ⟨ae_mk pu_bin (fun X => ok_iadd X (by decide +kernel)), ?_⟩
  refine List.forall_mem_cons.mpr ⟨ae_mk pu_ias (fun X => ok_ias X (by decide +kernel)), ?_⟩
  refine List.forall_mem_cons.mpr ⟨ae_mk pu_al (fun X => ok_aload_n X (k := 0) rfl (by decide +kernel)), ?_⟩
  refine List.forall_mem_cons.mpr ⟨ae_mk pu_get (fun X => ok_get X (ci := 8) (kk := 21) (index := 69) rfl aw_c_Model (by decide) wd_797 (by decide +kernel)), ?_⟩
  refine List.forall_mem_cons.mpr ⟨ae_mk pu_il (fun X => ok_iload_n X (k := 1) rfl (by decide +kernel)), ?_⟩
  refine List.forall_mem_cons.mpr ⟨ae_mk (pu_push (fun _ => trivial)) (fun X => ok_iconst X (n := 0) (by decide) (by decide +kernel)), ?_⟩
  refine List.forall_mem_cons.mpr ⟨ae_mk pu_bas (fun X => ok_bas X (by decide +kernel)), ?_⟩
  refine List.forall_mem_cons.mpr ⟨⟨rfl, (by decide +kernel)⟩, ?_⟩
  exact fun _ h => absurd h List.not_mem_nil
def tb_114 : List (Nat × ae_I) := [(0, .inl (o_al 0 1)),
  (1, .inl (o_get 8 24 4)),
  (4, .inl (o_il 1 5)),
  (5, .inl (o_ia 6)),
  (6, .inl (o_push (.int (-1)) 7)),
  (7, .inl (o_ic (fun x y => decide (¬ x = y)) 11 10)),
  (10, .inr (.inl none)),
  (11, .inl (o_al 0 12)),
  (12, .inl (o_get 8 25 15)),
  (15, .inl (o_il 1 16)),
  (16, .inl (o_dup2 17)),
  (17, .inl (o_ia 18)),
  (18, .inl (o_push (.int 1) 19)),
  (19, .inl (o_bin (fun x y => x + y) 20)),
  (20, .inl (o_ias 21)),
  (21, .inl (o_al 0 22)),
  (22, .inl (o_get 8 24 25)),
  (25, .inl (o_il 1 26)),
  (26, .inl (o_ia 27)),
  (27, .inl (o_is 2 28)),
  (28, .inl (o_push (.int 8) 30)),
  (30, .inl (o_al 0 31)),
  (31, .inl (o_get 8 25 34)),
  (34, .inl (o_il 1 35)),
  (35, .inl (o_ia 36)),
  (36, .inl (o_bin (fun x y => x * y) 37)),
  (37, .inl (o_al 0 38)),
  (38, .inl (o_get 8 20 41)),
  (41, .inl (o_il 2 42)),
  (42, .inl (o_ia 43)),
  (43, .inl (o_ic (fun x y => decide (y ≤ x)) 47 46)),
  (46, .inr (.inl none)),
  (47, .inl (o_al 0 48)),
  (48, .inl (o_get 8 24 51)),
  (51, .inl (o_il 1 52)),
  (52, .inl (o_push (.int (-1)) 53)),
  (53, .inl (o_ias 54)),
  (54, .inl (o_il 1 55)),
  (55, .inl (o_push (.int 12) 57)),
  (57, .inl (o_dv (fun x y => x - x / y * y) 58)),
  (58, .inr (.inr (.inl (115, 1, 61, none, [])))),
  (61, .inl (o_push (.int (-1)) 62)),
  (62, .inl (o_ic (fun x y => decide (¬ x = y)) 83 65)),
  (65, .inl (o_al 0 66)),
  (66, .inl (o_il 2 67)),
  (67, .inl (o_il 1 68)),
  (68, .inl (o_push (.int 12) 70)),
  (70, .inl (o_dv (fun x y => x / y) 71)),
  (71, .inl (o_il 1 72)),
  (72, .inl (o_push (.int 12) 74)),
  (74, .inl (o_dv (fun x y => x - x / y * y) 75)),
  (75, .inl (o_push (.int 4) 76)),
  (76, .inl (o_bin (fun x y => x - y) 77)),
  (77, .inr (.inr (.inl (116, 4, 80, some 8, [])))),
  (80, .inl (o_goto 96)),
  (83, .inl (o_al 0 84)),
  (84, .inl (o_il 2 85)),
  (85, .inl (o_il 1 86)),
  (86, .inl (o_push (.int 12) 88)),
  (88, .inl (o_dv (fun x y => x / y) 89)),
  (89, .inl (o_il 1 90)),
  (90, .inl (o_push (.int 12) 92)),
  (92, .inl (o_dv (fun x y => x - x / y * y) 93)),
  (93, .inr (.inr (.inl (124, 4, 96, some 8, [])))),
  (96, .inr (.inl none))]
theorem te_114 : ∀ q ∈ tb_114, ae_E am "TwinNetworkModel" "move" prog_10_method_25_code 3 (Option.none : Option Jvm.ClassFile.FieldType) [] q := by
  unfold tb_114
  refine List.forall_mem_cons.mpr ⟨ae_mk pu_al (fun X => ok_aload_n X (k := 0) rfl (by decide +kernel)), ?_⟩
  refine List.forall_mem_cons.mpr ⟨ae_mk pu_get (fun X => ok_get X (ci := 8) (kk := 24) (index := 78) rfl aw_c_Model (by decide) wd_800 (by decide +kernel)), ?_⟩
  refine List.forall_mem_cons.mpr ⟨ae_mk pu_il (fun X => ok_iload_n X (k := 1) rfl (by decide +kernel)), ?_⟩
  refine List.forall_mem_cons.mpr ⟨ae_mk pu_ia (fun X => ok_ia X (by decide +kernel)), ?_⟩
  refine List.forall_mem_cons.mpr ⟨ae_mk (pu_push (fun _ => trivial)) (fun X => ok_iconst X (n := (-1)) (by decide) (by decide +kernel)), ?_⟩
  refine List.forall_mem_cons.mpr ⟨ae_mk pu_ic (fun X => ok_ic_ne X (off := 4) (by decide) (by decide +kernel)), ?_⟩
  refine List.forall_mem_cons.mpr ⟨⟨rfl, (by decide +kernel)⟩, ?_⟩
  refine List.forall_mem_cons.mpr ⟨ae_mk pu_al (fun X => ok_aload_n X (k := 0) rfl (by decide +kernel)), ?_⟩
  refine List.forall_mem_cons.mpr ⟨ae_mk pu_get (fun X => ok_get X (ci := 8) (kk := 25) (index := 81) rfl aw_c_Model (by decide) wd_801 (by decide +kernel)), ?_⟩
  refine List.forall_mem_cons.mpr ⟨ae_mk pu_il (fun X => ok_iload_n X (k := 1) rfl (by decide +kernel)), ?_⟩
  refine List.forall_mem_cons.mpr ⟨ae_mk pu_dup2 (fun X => ok_dup2 X (by decide +kernel)), ?_⟩
  refine List.forall_mem_cons.mpr ⟨ae_mk pu_ia (fun X => ok_ia X (by decide +kernel)), ?_⟩
  refine List.forall_mem_cons.mpr ⟨ae_mk (pu_push (fun _ => trivial)) (fun X => ok_iconst X (n := 1) (by decide) (by decide +kernel)), ?_⟩
  refine List.forall_mem_cons.mpr ⟨ae_mk pu_bin (fun X => ok_iadd X (by decide +kernel)), ?_⟩
  refine List.forall_mem_cons.mpr ⟨ae_mk pu_ias (fun X => ok_ias X (by decide +kernel)), ?_⟩
  refine List.forall_mem_cons.mpr ⟨ae_mk pu_al (fun X => ok_aload_n X (k := 0) rfl (by decide +kernel)), ?_⟩
  refine List.forall_mem_cons.mpr ⟨ae_mk pu_get (fun X => ok_get X (ci := 8) (kk := 24) (index := 78) rfl aw_c_Model (by decide) wd_800 (by decide +kernel)), ?_⟩
  refine List.forall_mem_cons.mpr ⟨ae_mk pu_il (fun X => ok_iload_n X (k := 1) rfl (by decide +kernel)), ?_⟩
  refine List.forall_mem_cons.mpr ⟨ae_mk pu_ia (fun X => ok_ia X (by decide +kernel)), ?_⟩
  refine List.forall_mem_cons.mpr ⟨ae_mk pu_is (fun X => ok_istore_n X (k := 2) rfl (by decide +kernel)), ?_⟩
  refine List.forall_mem_cons.mpr ⟨ae_mk (pu_push (fun _ => trivial)) (fun X => ok_bipush X (n := 8) (by decide) (by decide +kernel)), ?_⟩
  refine List.forall_mem_cons.mpr ⟨ae_mk pu_al (fun X => ok_aload_n X (k := 0) rfl (by decide +kernel)), ?_⟩
  refine List.forall_mem_cons.mpr ⟨ae_mk pu_get (fun X => ok_get X (ci := 8) (kk := 25) (index := 81) rfl aw_c_Model (by decide) wd_801 (by decide +kernel)), ?_⟩
  refine List.forall_mem_cons.mpr ⟨ae_mk pu_il (fun X => ok_iload_n X (k := 1) rfl (by decide +kernel)), ?_⟩
  refine List.forall_mem_cons.mpr ⟨ae_mk pu_ia (fun X => ok_ia X (by decide +kernel)), ?_⟩
  refine List.forall_mem_cons.mpr ⟨ae_mk pu_bin (fun X => ok_imul X (by decide +kernel)), ?_⟩
  refine List.forall_mem_cons.mpr ⟨ae_mk pu_al (fun X => ok_aload_n X (k := 0) rfl (by decide +kernel)), ?_⟩
  refine List.forall_mem_cons.mpr ⟨ae_mk pu_get (fun X => ok_get X (ci := 8) (kk := 20) (index := 66) rfl aw_c_Model (by decide) wd_796 (by decide +kernel)), ?_⟩
  refine List.forall_mem_cons.mpr ⟨ae_mk pu_il (fun X => ok_iload_n X (k := 2) rfl (by decide +kernel)), ?_⟩
  refine List.forall_mem_cons.mpr ⟨ae_mk pu_ia (fun X => ok_ia X (by decide +kernel)), ?_⟩
  refine List.forall_mem_cons.mpr ⟨ae_mk pu_ic (fun X => ok_ic_ge X (off := 4) (by decide) (by decide +kernel)), ?_⟩
  refine List.forall_mem_cons.mpr ⟨⟨rfl, (by decide +kernel)⟩, ?_⟩
  refine List.forall_mem_cons.mpr ⟨ae_mk pu_al (fun X => ok_aload_n X (k := 0) rfl (by decide +kernel)), ?_⟩
  refine List.forall_mem_cons.mpr ⟨ae_mk pu_get (fun X => ok_get X (ci := 8) (kk := 24) (index := 78) rfl aw_c_Model (by decide) wd_800 (by decide +kernel)), ?_⟩
  refine List.forall_mem_cons.mpr ⟨ae_mk pu_il (fun X => ok_iload_n X (k := 1) rfl (by decide +kernel)), ?_⟩
  refine List.forall_mem_cons.mpr ⟨ae_mk (pu_push (fun _ => trivial)) (fun X => ok_iconst X (n := (-1)) (by decide) (by decide +kernel)), ?_⟩
  refine List.forall_mem_cons.mpr ⟨ae_mk pu_ias (fun X => ok_ias X (by decide +kernel)), ?_⟩
  refine List.forall_mem_cons.mpr ⟨ae_mk pu_il (fun X => ok_iload_n X (k := 1) rfl (by decide +kernel)), ?_⟩
  refine List.forall_mem_cons.mpr ⟨ae_mk (pu_push (fun _ => trivial)) (fun X => ok_bipush X (n := 12) (by decide) (by decide +kernel)), ?_⟩
  refine List.forall_mem_cons.mpr ⟨ae_mk pu_dv (fun X => ok_irem X (by decide +kernel)), ?_⟩
  refine List.forall_mem_cons.mpr ⟨ae_mkc (fun X => ok_callS X (mid := 115) (index := 131) (y := my_115) rfl (by decide) ⟨by decide, by decide⟩ (n := 1) (by decide +kernel) wd_977 wd_51 wd_975 wd_976 (by decide +kernel)), ?_⟩
  refine List.forall_mem_cons.mpr ⟨ae_mk (pu_push (fun _ => trivial)) (fun X => ok_iconst X (n := (-1)) (by decide) (by decide +kernel)), ?_⟩
  refine List.forall_mem_cons.mpr ⟨ae_mk pu_ic (fun X => ok_ic_ne X (off := 21) (by decide) (by decide +kernel)), ?_⟩
  refine List.forall_mem_cons.mpr ⟨ae_mk pu_al (fun X => ok_aload_n X (k := 0) rfl (by decide +kernel)), ?_⟩
  refine List.forall_mem_cons.mpr ⟨ae_mk pu_il (fun X => ok_iload_n X (k := 2) rfl (by decide +kernel)), ?_⟩
  refine List.forall_mem_cons.mpr ⟨ae_mk pu_il (fun X => ok_iload_n X (k := 1) rfl (by decide +kernel)), ?_⟩
  refine List.forall_mem_cons.mpr ⟨ae_mk (pu_push (fun _ => trivial)) (fun X => ok_bipush X (n := 12) (by decide) (by decide +kernel)), ?_⟩
  refine List.forall_mem_cons.mpr ⟨ae_mk pu_dv (fun X => ok_idiv X (by decide +kernel)), ?_⟩
  refine List.forall_mem_cons.mpr ⟨ae_mk pu_il (fun X => ok_iload_n X (k := 1) rfl (by decide +kernel)), ?_⟩
  refine List.forall_mem_cons.mpr ⟨ae_mk (pu_push (fun _ => trivial)) (fun X => ok_bipush X (n := 12) (by decide) (by decide +kernel)), ?_⟩
  refine List.forall_mem_cons.mpr ⟨ae_mk pu_dv (fun X => ok_irem X (by decide +kernel)), ?_⟩
  refine List.forall_mem_cons.mpr ⟨ae_mk (pu_push (fun _ => trivial)) (fun X => ok_iconst X (n := 4) (by decide) (by decide +kernel)), ?_⟩
  refine List.forall_mem_cons.mpr ⟨ae_mk pu_bin (fun X => ok_isub X (by decide +kernel)), ?_⟩
  refine List.forall_mem_cons.mpr ⟨ae_mkc (fun X => ok_callV X (mid := 116) (index := 195) (y := my_116) rfl (by decide) ⟨by decide, by decide⟩ (n := 3) (by decide +kernel) wd_981 wd_51 wd_978 wd_980 wd_34 (ci := 8) rfl (by decide +kernel)), ?_⟩
  refine List.forall_mem_cons.mpr ⟨ae_mk pu_goto (fun X => ok_goto X (off := 16) (by decide) (by decide +kernel)), ?_⟩
  refine List.forall_mem_cons.mpr ⟨ae_mk pu_al (fun X => ok_aload_n X (k := 0) rfl (by decide +kernel)), ?_⟩
  refine List.forall_mem_cons.mpr ⟨ae_mk pu_il (fun X => ok_iload_n X (k := 2) rfl (by decide +kernel)), ?_⟩
  refine List.forall_mem_cons.mpr ⟨ae_mk pu_il (fun X => ok_iload_n X (k := 1) rfl (by decide +kernel)), ?_⟩
  refine List.forall_mem_cons.mpr ⟨ae_mk (pu_push (fun _ => trivial)) (fun X => ok_bipush X (n := 12) (by decide) (by decide +kernel)), ?_⟩
  refine List.forall_mem_cons.mpr ⟨ae_mk pu_dv (fun X => ok_idiv X (by decide +kernel)), ?_⟩
  refine List.forall_mem_cons.mpr ⟨ae_mk pu_il (fun X => ok_iload_n X (k := 1) rfl (by decide +kernel)), ?_⟩
  refine List.forall_mem_cons.mpr ⟨ae_mk (pu_push (fun _ => trivial)) (fun X => ok_bipush X (n := 12) (by decide) (by decide +kernel)), ?_⟩
  refine List.forall_mem_cons.mpr ⟨ae_mk pu_dv (fun X => ok_irem X (by decide +kernel)), ?_⟩
  refine List.forall_mem_cons.mpr ⟨ae_mkc (fun X => ok_callV X (mid := 124) (index := 198) (y := my_124) rfl (by decide) ⟨by decide, by decide⟩ (n := 3) (by decide +kernel) wd_1012 wd_51 wd_1009 wd_1011 wd_41 (ci := 8) rfl (by decide +kernel)), ?_⟩
  refine List.forall_mem_cons.mpr ⟨⟨rfl, (by decide +kernel)⟩, ?_⟩
  exact fun _ h => absurd h List.not_mem_nil
def tb_115 : List (Nat × ae_I) := [(0, .inl (o_il 0 1)),
  (1, .inl (o_push (.int 4) 2)),
  (2, .inl (o_ic (fun x y => decide (y ≤ x)) 11 5)),
  (5, .inl (o_il 0 6)),
  (6, .inl (o_push (.int 3) 7)),
  (7, .inl (o_dv (fun x y => x - x / y * y) 8)),
  (8, .inl (o_goto 42)),
  (11, .inl (o_il 0 12)),
  (12, .inl (o_push (.int 8) 14)),
  (14, .inl (o_ic (fun x y => decide (y ≤ x)) 21 17)),
  (17, .inl (o_push (.int (-1)) 18)),
  (18, .inl (o_goto 42)),
  (21, .inl (o_il 0 22)),
  (22, .inl (o_push (.int 9) 24)),
  (24, .inl (o_ic (fun x y => decide (¬ x = y)) 31 27)),
  (27, .inl (o_push (.int 2) 28)),
  (28, .inl (o_goto 42)),
  (31, .inl (o_il 0 32)),
  (32, .inl (o_push (.int 10) 34)),
  (34, .inl (o_ic (fun x y => decide (¬ x = y)) 41 37)),
  (37, .inl (o_push (.int 0) 38)),
  (38, .inl (o_goto 42)),
  (41, .inl (o_push (.int 1) 42)),
  (42, .inr (.inl (some k_int)))]
theorem te_115 : ∀ q ∈ tb_115, ae_E am "TwinNetworkModel" "to" prog_10_method_4_code 1 (Option.some Jvm.ClassFile.FieldType.int) [] q := by
  unfold tb_115
  refine List.forall_mem_cons.mpr ⟨ae_mk pu_il (fun X => ok_iload_n X (k := 0) rfl (by decide +kernel)), ?_⟩
  refine List.forall_mem_cons.mpr ⟨ae_mk (pu_push (fun _ => trivial)) (fun X => ok_iconst X (n := 4) (by decide) (by decide +kernel)), ?_⟩
  refine List.forall_mem_cons.mpr ⟨ae_mk pu_ic (fun X => ok_ic_ge X (off := 9) (by decide) (by decide +kernel)), ?_⟩
  refine List.forall_mem_cons.mpr ⟨ae_mk pu_il (fun X => ok_iload_n X (k := 0) rfl (by decide +kernel)), ?_⟩
  refine List.forall_mem_cons.mpr ⟨ae_mk (pu_push (fun _ => trivial)) (fun X => ok_iconst X (n := 3) (by decide) (by decide +kernel)), ?_⟩
  refine List.forall_mem_cons.mpr ⟨ae_mk pu_dv (fun X => ok_irem X (by decide +kernel)), ?_⟩
  refine List.forall_mem_cons.mpr ⟨ae_mk pu_goto (fun X => ok_goto X (off := 34) (by decide) (by decide +kernel)), ?_⟩
  refine List.forall_mem_cons.mpr ⟨ae_mk pu_il (fun X => ok_iload_n X (k := 0) rfl (by decide +kernel)), ?_⟩
  refine List.forall_mem_cons.mpr ⟨ae_mk (pu_push (fun _ => trivial)) (fun X => ok_bipush X (n := 8) (by decide) (by decide +kernel)), ?_⟩
  refine List.forall_mem_cons.mpr ⟨ae_mk pu_ic (fun X => ok_ic_ge X (off := 7) (by decide) (by decide +kernel)), ?_⟩
  refine List.forall_mem_cons.mpr ⟨ae_mk (pu_push (fun _ => trivial)) (fun X => ok_iconst X (n := (-1)) (by decide) (by decide +kernel)), ?_⟩
  refine List.forall_mem_cons.mpr ⟨ae_mk pu_goto (fun X => ok_goto X (off := 24) (by decide) (by decide +kernel)), ?_⟩
  refine List.forall_mem_cons.mpr ⟨ae_mk pu_il (fun X => ok_iload_n X (k := 0) rfl (by decide +kernel)), ?_⟩
  refine List.forall_mem_cons.mpr ⟨ae_mk (pu_push (fun _ => trivial)) (fun X => ok_bipush X (n := 9) (by decide) (by decide +kernel)), ?_⟩
  refine List.forall_mem_cons.mpr ⟨ae_mk pu_ic (fun X => ok_ic_ne X (off := 7) (by decide) (by decide +kernel)), ?_⟩
  refine List.forall_mem_cons.mpr ⟨ae_mk (pu_push (fun _ => trivial)) (fun X => ok_iconst X (n := 2) (by decide) (by decide +kernel)), ?_⟩
  refine List.forall_mem_cons.mpr ⟨ae_mk pu_goto (fun X => ok_goto X (off := 14) (by decide) (by decide +kernel)), ?_⟩
  refine List.forall_mem_cons.mpr ⟨ae_mk pu_il (fun X => ok_iload_n X (k := 0) rfl (by decide +kernel)), ?_⟩
  refine List.forall_mem_cons.mpr ⟨ae_mk (pu_push (fun _ => trivial)) (fun X => ok_bipush X (n := 10) (by decide) (by decide +kernel)), ?_⟩
  refine List.forall_mem_cons.mpr ⟨ae_mk pu_ic (fun X => ok_ic_ne X (off := 7) (by decide) (by decide +kernel)), ?_⟩
  refine List.forall_mem_cons.mpr ⟨ae_mk (pu_push (fun _ => trivial)) (fun X => ok_iconst X (n := 0) (by decide) (by decide +kernel)), ?_⟩
  refine List.forall_mem_cons.mpr ⟨ae_mk pu_goto (fun X => ok_goto X (off := 4) (by decide) (by decide +kernel)), ?_⟩
  refine List.forall_mem_cons.mpr ⟨ae_mk (pu_push (fun _ => trivial)) (fun X => ok_iconst X (n := 1) (by decide) (by decide +kernel)), ?_⟩
  refine List.forall_mem_cons.mpr ⟨Or.inl ⟨rfl, (by decide +kernel), rt_int⟩, ?_⟩
  exact fun _ h => absurd h List.not_mem_nil
def tb_116 : List (Nat × ae_I) := [(0, .inl (o_al 0 1)),
  (1, .inl (o_il 1 2)),
  (2, .inr (.inr (.inl (117, 2, 5, some 8, [])))),
  (5, .inl (o_is 4 7)),
  (7, .inl (o_al 0 8)),
  (8, .inl (o_il 1 9)),
  (9, .inr (.inr (.inl (118, 2, 12, some 8, [])))),
  (12, .inl (o_if (fun x => decide (¬ x = 0)) 19 15)),
  (15, .inl (o_push (.int 1) 16)),
  (16, .inl (o_goto 57)),
  (19, .inl (o_il 4 21)),
  (21, .inl (o_push (.int (-1)) 22)),
  (22, .inl (o_ic (fun x y => decide (¬ x = y)) 29 25)),
  (25, .inl (o_push (.int 2) 26)),
  (26, .inl (o_goto 57)),
  (29, .inl (o_al 0 30)),
  (30, .inl (o_il 3 31)),
  (31, .inl (o_il 4 33)),
  (33, .inr (.inr (.inl (119, 3, 36, some 8, [])))),
  (36, .inl (o_if (fun x => decide (¬ x = 0)) 43 39)),
  (39, .inl (o_push (.int 3) 40)),
  (40, .inl (o_goto 57)),
  (43, .inl (o_al 0 44)),
  (44, .inl (o_il 1 45)),
  (45, .inr (.inr (.inl (120, 2, 48, some 8, [])))),
  (48, .inl (o_if (fun x => decide (¬ x = 0)) 56 51)),
  (51, .inl (o_push (.int 7) 53)),
  (53, .inl (o_goto 57)),
  (56, .inl (o_push (.int 0) 57)),
  (57, .inl (o_is 5 59)),
  (59, .inl (o_il 5 61)),
  (61, .inl (o_if (fun x => decide (¬ x = 0)) 92 64)),
  (64, .inl (o_al 0 65)),
  (65, .inl (o_il 1 66)),
  (66, .inl (o_il 2 67)),
  (67, .inl (o_push (.int 8) 69)),
  (69, .inl (o_il 3 70)),
  (70, .inl (o_bin (fun x y => x * y) 71)),
  (71, .inl (o_il 4 73)),
  (73, .inl (o_bin (fun x y => x + y) 74)),
  (74, .inl (o_al 0 75)),
  (75, .inl (o_il 1 76)),
  (76, .inl (o_al 0 77)),
  (77, .inl (o_get 8 20 80)),
  (80, .inl (o_il 1 81)),
  (81, .inl (o_ia 82)),
  (82, .inl (o_push (.int 5) 83)),
  (83, .inl (o_bin (fun x y => x - y) 84)),
  (84, .inr (.inr (.inl (108, 3, 87, some 8, [])))),
  (87, .inr (.inr (.inl (121, 5, 90, some 8, [])))),
  (90, .inl (o_is 5 92)),
  (92, .inl (o_il 5 94)),
  (94, .inl (o_if (fun x => decide (x ≤ 0)) 108 97)),
  (97, .inl (o_al 0 98)),
  (98, .inl (o_get 8 38 101)),
  (101, .inl (o_il 5 103)),
  (103, .inl (o_dup2 104)),
  (104, .inl (o_ia 105)),
  (105, .inl (o_push (.int 1) 106)),
  (106, .inl (o_bin (fun x y => x + y) 107)),
  (107, .inl (o_ias 108)),
  (108, .inl (o_al 0 109)),
  (109, .inl (o_get 8 21 112)),
  (112, .inl (o_il 1 113)),
  (113, .inl (o_push (.int 0) 114)),
  (114, .inl (o_bas 115)),
  (115, .inr (.inl none))]
theorem te_116 : ∀ q ∈ tb_116, ae_E am "TwinNetworkModel" "atEnd" prog_10_method_32_code 6 (Option.none : Option Jvm.ClassFile.FieldType) [] q := by
  unfold tb_116
  refine List.forall_mem_cons.mpr ⟨ae_mk pu_al (fun X => ok_aload_n X (k := 0) rfl (by decide +kernel)), ?_⟩
  refine List.forall_mem_cons.mpr ⟨ae_mk pu_il (fun X => ok_iload_n X (k := 1) rfl (by decide +kernel)), ?_⟩
  refine List.forall_mem_cons.mpr ⟨ae_mkc (fun X => ok_callV X (mid := 117) (index := 204) (y := my_117) rfl (by decide) ⟨by decide, by decide⟩ (n := 1) (by decide +kernel) wd_985 wd_51 wd_982 wd_984 wd_35 (ci := 8) rfl (by decide +kernel)), ?_⟩
  refine List.forall_mem_cons.mpr ⟨ae_mk pu_is (fun X => ok_istore X (by decide +kernel)), ?_⟩
  refine List.forall_mem_cons.mpr ⟨ae_mk pu_al (fun X => ok_aload_n X (k := 0) rfl (by decide +kernel)), ?_⟩
  refine List.forall_mem_cons.mpr ⟨ae_mk pu_il (fun X => ok_iload_n X (k := 1) rfl (by decide +kernel)), ?_⟩
  refine List.forall_mem_cons.mpr ⟨ae_mkc (fun X => ok_callV X (mid := 118) (index := 207) (y := my_118) rfl (by decide) ⟨by decide, by decide⟩ (n := 1) (by decide +kernel) wd_989 wd_51 wd_986 wd_988 wd_36 (ci := 8) rfl (by decide +kernel)), ?_⟩
  refine List.forall_mem_cons.mpr ⟨ae_mk pu_if (fun X => ok_if_ne X (off := 7) (by decide) (by decide +kernel)), ?_⟩
  refine List.forall_mem_cons.mpr ⟨ae_mk (pu_push (fun _ => trivial)) (fun X => ok_iconst X (n := 1) (by decide) (by decide +kernel)), ?_⟩
  refine List.forall_mem_cons.mpr ⟨ae_mk pu_goto (fun X => ok_goto X (off := 41) (by decide) (by decide +kernel)), ?_⟩
  refine List.forall_mem_cons.mpr ⟨ae_mk pu_il (fun X => ok_iload X (by decide +kernel)), ?_⟩
  refine List.forall_mem_cons.mpr ⟨ae_mk (pu_push (fun _ => trivial)) (fun X => ok_iconst X (n := (-1)) (by decide) (by decide +kernel)), ?_⟩
  refine List.forall_mem_cons.mpr ⟨ae_mk pu_ic (fun X => ok_ic_ne X (off := 7) (by decide) (by decide +kernel)), ?_⟩
  refine List.forall_mem_cons.mpr ⟨ae_mk (pu_push (fun _ => trivial)) (fun X => ok_iconst X (n := 2) (by decide) (by decide +kernel)), ?_⟩
  refine List.forall_mem_cons.mpr ⟨ae_mk pu_goto (fun X => ok_goto X (off := 31) (by decide) (by decide +kernel)), ?_⟩
  refine List.forall_mem_cons.mpr ⟨ae_mk pu_al (fun X => ok_aload_n X (k := 0) rfl (by decide +kernel)), ?_⟩
  refine List.forall_mem_cons.mpr ⟨ae_mk pu_il (fun X => ok_iload_n X (k := 3) rfl (by decide +kernel)), ?_⟩
  refine List.forall_mem_cons.mpr ⟨ae_mk pu_il (fun X => ok_iload X (by decide +kernel)), ?_⟩
  refine List.forall_mem_cons.mpr ⟨ae_mkc (fun X => ok_callV X (mid := 119) (index := 214) (y := my_119) rfl (by decide) ⟨by decide, by decide⟩ (n := 2) (by decide +kernel) wd_993 wd_51 wd_990 wd_992 wd_37 (ci := 8) rfl (by decide +kernel)), ?_⟩
  refine List.forall_mem_cons.mpr ⟨ae_mk pu_if (fun X => ok_if_ne X (off := 7) (by decide) (by decide +kernel)), ?_⟩
  refine List.forall_mem_cons.mpr ⟨ae_mk (pu_push (fun _ => trivial)) (fun X => ok_iconst X (n := 3) (by decide) (by decide +kernel)), ?_⟩
  refine List.forall_mem_cons.mpr ⟨ae_mk pu_goto (fun X => ok_goto X (off := 17) (by decide) (by decide +kernel)), ?_⟩
  refine List.forall_mem_cons.mpr ⟨ae_mk pu_al (fun X => ok_aload_n X (k := 0) rfl (by decide +kernel)), ?_⟩
  refine List.forall_mem_cons.mpr ⟨ae_mk pu_il (fun X => ok_iload_n X (k := 1) rfl (by decide +kernel)), ?_⟩
  refine List.forall_mem_cons.mpr ⟨ae_mkc (fun X => ok_callV X (mid := 120) (index := 217) (y := my_120) rfl (by decide) ⟨by decide, by decide⟩ (n := 1) (by decide +kernel) wd_997 wd_51 wd_994 wd_996 wd_38 (ci := 8) rfl (by decide +kernel)), ?_⟩
  refine List.forall_mem_cons.mpr ⟨ae_mk pu_if (fun X => ok_if_ne X (off := 8) (by decide) (by decide +kernel)), ?_⟩
  refine List.forall_mem_cons.mpr ⟨ae_mk (pu_push (fun _ => trivial)) (fun X => ok_bipush X (n := 7) (by decide) (by decide +kernel)), ?_⟩
  refine List.forall_mem_cons.mpr ⟨ae_mk pu_goto (fun X => ok_goto X (off := 4) (by decide) (by decide +kernel)), ?_⟩
  refine List.forall_mem_cons.mpr ⟨ae_mk (pu_push (fun _ => trivial)) (fun X => ok_iconst X (n := 0) (by decide) (by decide +kernel)), ?_⟩
  refine List.forall_mem_cons.mpr ⟨ae_mk pu_is (fun X => ok_istore X (by decide +kernel)), ?_⟩
  refine List.forall_mem_cons.mpr ⟨ae_mk pu_il (fun X => ok_iload X (by decide +kernel)), ?_⟩
  refine List.forall_mem_cons.mpr ⟨ae_mk pu_if (fun X => ok_if_ne X (off := 31) (by decide) (by decide +kernel)), ?_⟩
  refine List.forall_mem_cons.mpr ⟨ae_mk pu_al (fun X => ok_aload_n X (k := 0) rfl (by decide +kernel)), ?_⟩
  refine List.forall_mem_cons.mpr ⟨ae_mk pu_il (fun X => ok_iload_n X (k := 1) rfl (by decide +kernel)), ?_⟩
  refine List.forall_mem_cons.mpr ⟨ae_mk pu_il (fun X => ok_iload_n X (k := 2) rfl (by decide +kernel)), ?_⟩
  refine List.forall_mem_cons.mpr ⟨ae_mk (pu_push (fun _ => trivial)) (fun X => ok_bipush X (n := 8) (by decide) (by decide +kernel)), ?_⟩
  refine List.forall_mem_cons.mpr ⟨ae_mk pu_il (fun X => ok_iload_n X (k := 3) rfl (by decide +kernel)), ?_⟩
  refine List.forall_mem_cons.mpr ⟨ae_mk pu_bin (fun X => ok_imul X (by decide +kernel)), ?_⟩
  refine List.forall_mem_cons.mpr ⟨ae_mk pu_il (fun X => ok_iload X (by decide +kernel)), ?_⟩
  refine List.forall_mem_cons.mpr ⟨ae_mk pu_bin (fun X => ok_iadd X (by decide +kernel)), ?_⟩
  refine List.forall_mem_cons.mpr ⟨ae_mk pu_al (fun X => ok_aload_n X (k := 0) rfl (by decide +kernel)), ?_⟩
  refine List.forall_mem_cons.mpr ⟨ae_mk pu_il (fun X => ok_iload_n X (k := 1) rfl (by decide +kernel)), ?_⟩
  refine List.forall_mem_cons.mpr ⟨ae_mk pu_al (fun X => ok_aload_n X (k := 0) rfl (by decide +kernel)), ?_⟩
  refine List.forall_mem_cons.mpr ⟨ae_mk pu_get (fun X => ok_get X (ci := 8) (kk := 20) (index := 66) rfl aw_c_Model (by decide) wd_796 (by decide +kernel)), ?_⟩
  refine List.forall_mem_cons.mpr ⟨ae_mk pu_il (fun X => ok_iload_n X (k := 1) rfl (by decide +kernel)), ?_⟩
  refine List.forall_mem_cons.mpr ⟨ae_mk pu_ia (fun X => ok_ia X (by decide +kernel)), ?_⟩
  refine List.forall_mem_cons.mpr ⟨ae_mk (pu_push (fun _ => trivial)) (fun X => ok_iconst X (n := 5) (by decide) (by decide +kernel)), ?_⟩
  refine List.forall_mem_cons.mpr ⟨ae_mk pu_bin (fun X => ok_isub X (by decide +kernel)), ?_⟩
  refine List.forall_mem_cons.mpr ⟨ae_mkc (fun X => ok_callV X (mid := 108) (index := 150) (y := my_108) rfl (by decide) ⟨by decide, by decide⟩ (n := 2) (by decide +kernel) wd_949 wd_51 wd_946 wd_948 wd_28 (ci := 8) rfl (by decide +kernel)), ?_⟩
  refine List.forall_mem_cons.mpr ⟨ae_mkc (fun X => ok_callV X (mid := 121) (index := 220) (y := my_121) rfl (by decide) ⟨by decide, by decide⟩ (n := 4) (by decide +kernel) wd_1001 wd_51 wd_998 wd_1000 wd_39 (ci := 8) rfl (by decide +kernel)), ?_⟩
  refine List.forall_mem_cons.mpr ⟨ae_mk pu_is (fun X => ok_istore X (by decide +kernel)), ?_⟩
  refine List.forall_mem_cons.mpr ⟨ae_mk pu_il (fun X => ok_iload X (by decide +kernel)), ?_⟩
  refine List.forall_mem_cons.mpr ⟨ae_mk pu_if (fun X => ok_if_le X (off := 14) (by decide) (by decide +kernel)), ?_⟩
  refine List.forall_mem_cons.mpr ⟨ae_mk pu_al (fun X => ok_aload_n X (k := 0) rfl (by decide +kernel)), ?_⟩
  refine List.forall_mem_cons.mpr ⟨ae_mk pu_get (fun X => ok_get X (ci := 8) (kk := 38) (index := 121) rfl aw_c_Model (by decide) wd_814 (by decide +kernel)), ?_⟩
  refine List.forall_mem_cons.mpr ⟨ae_mk pu_il (fun X => ok_iload X (by decide +kernel)), ?_⟩
  refine List.forall_mem_cons.mpr ⟨ae_mk pu_dup2 (fun X => ok_dup2 X (by decide +kernel)), ?_⟩
  refine List.forall_mem_cons.mpr ⟨ae_mk pu_ia (fun X => ok_ia X (by decide +kernel)), ?_⟩
  refine List.forall_mem_cons.mpr ⟨ae_mk (pu_push (fun _ => trivial)) (fun X => ok_iconst X (n := 1) (by decide) (by decide +kernel)), ?_⟩
  refine List.forall_mem_cons.mpr ⟨ae_mk pu_bin (fun X => ok_iadd X (by decide +kernel)), ?_⟩
  refine List.forall_mem_cons.mpr ⟨ae_mk pu_ias (fun X => ok_ias X (by decide +kernel)), ?_⟩
  refine List.forall_mem_cons.mpr ⟨ae_mk pu_al (fun X => ok_aload_n X (k := 0) rfl (by decide +kernel)), ?_⟩
  refine List.forall_mem_cons.mpr ⟨ae_mk pu_get (fun X => ok_get X (ci := 8) (kk := 21) (index := 69) rfl aw_c_Model (by decide) wd_797 (by decide +kernel)), ?_⟩
  refine List.forall_mem_cons.mpr ⟨ae_mk pu_il (fun X => ok_iload_n X (k := 1) rfl (by decide +kernel)), ?_⟩
  refine List.forall_mem_cons.mpr ⟨ae_mk (pu_push (fun _ => trivial)) (fun X => ok_iconst X (n := 0) (by decide) (by decide +kernel)), ?_⟩
  refine List.forall_mem_cons.mpr ⟨ae_mk pu_bas (fun X => ok_bas X (by decide +kernel)), ?_⟩
  refine List.forall_mem_cons.mpr ⟨⟨rfl, (by decide +kernel)⟩, ?_⟩
  exact fun _ h => absurd h List.not_mem_nil
