def tb_117 : List (Nat × ae_I) := [(0, .inl (o_al 0 1)),
  (1, .inl (o_il 1 2)),
  (2, .inl (o_push (.int 0) 3)),
  (3, .inr (.inr (.inl (108, 3, 6, some 8, [])))),
  (6, .inl (o_push (.int 3) 7)),
  (7, .inl (o_ic (fun x y => decide (¬ x = y)) 25 10)),
  (10, .inl (o_al 0 11)),
  (11, .inl (o_il 1 12)),
  (12, .inl (o_push (.int 5) 13)),
  (13, .inr (.inr (.inl (108, 3, 16, some 8, [])))),
  (16, .inl (o_push (.int 8) 18)),
  (18, .inl (o_ic (fun x y => decide (y ≤ x)) 25 21)),
  (21, .inl (o_push (.int 1) 22)),
  (22, .inl (o_goto 26)),
  (25, .inl (o_push (.int 0) 26)),
  (26, .inl (o_is 2 27)),
  (27, .inl (o_push (.int 1) 28)),
  (28, .inl (o_is 3 29)),
  (29, .inl (o_il 3 30)),
  (30, .inl (o_push (.int 5) 31)),
  (31, .inl (o_ic (fun x y => decide (y ≤ x)) 59 34)),
  (34, .inl (o_il 2 35)),
  (35, .inl (o_if (fun x => decide (x = 0)) 51 38)),
  (38, .inl (o_al 0 39)),
  (39, .inl (o_il 1 40)),
  (40, .inl (o_il 3 41)),
  (41, .inr (.inr (.inl (108, 3, 44, some 8, [])))),
  (44, .inl (o_if (fun x => decide (¬ x = 0)) 51 47)),
  (47, .inl (o_push (.int 1) 48)),
  (48, .inl (o_goto 52)),
  (51, .inl (o_push (.int 0) 52)),
  (52, .inl (o_is 2 53)),
  (53, .inl (o_inc 3 1 56)),
  (56, .inl (o_goto 29)),
  (59, .inl (o_il 2 60)),
  (60, .inl (o_if (fun x => decide (x = 0)) 86 63)),
  (63, .inl (o_al 0 64)),
  (64, .inl (o_get 8 2 67)),
  (67, .inl (o_al 0 68)),
  (68, .inl (o_il 1 69)),
  (69, .inl (o_push (.int 5) 70)),
  (70, .inr (.inr (.inl (108, 3, 73, some 8, [])))),
  (73, .inl (o_ba 74)),
  (74, .inl (o_if (fun x => decide (x = 0)) 86 77)),
  (77, .inl (o_al 0 78)),
  (78, .inl (o_il 1 79)),
  (79, .inl (o_push (.int 5) 80)),
  (80, .inr (.inr (.inl (108, 3, 83, some 8, [])))),
  (83, .inl (o_goto 87)),
  (86, .inl (o_push (.int (-1)) 87)),
  (87, .inr (.inl (some k_int)))]
theorem te_117 : ∀ q ∈ tb_117, ae_E am "TwinNetworkModel" "linkOf" prog_10_method_28_code 4 (Option.some Jvm.ClassFile.FieldType.int) [] q := by
  unfold tb_117
  refine List.forall_mem_cons.mpr ⟨ae_mk pu_al (fun X => ok_aload_n X (k := 0) rfl (by decide +kernel)), ?_⟩
  refine List.forall_mem_cons.mpr ⟨ae_mk pu_il (fun X => ok_iload_n X (k := 1) rfl (by decide +kernel)), ?_⟩
  refine List.forall_mem_cons.mpr ⟨ae_mk (pu_push (fun _ => trivial)) (fun X => ok_iconst X (n := 0) (by decide) (by decide +kernel)), ?_⟩
  refine List.forall_mem_cons.mpr ⟨ae_mkc (fun X => ok_callV X (mid := 108) (index := 150) (y := my_108) rfl (by decide) ⟨by decide, by decide⟩ (n := 2) (by decide +kernel) wd_949 wd_51 wd_946 wd_948 wd_28 (ci := 8) rfl (by decide +kernel)), ?_⟩
  refine List.forall_mem_cons.mpr ⟨ae_mk (pu_push (fun _ => trivial)) (fun X => ok_iconst X (n := 3) (by decide) (by decide +kernel)), ?_⟩
  refine List.forall_mem_cons.mpr ⟨ae_mk pu_ic (fun X => ok_ic_ne X (off := 18) (by decide) (by decide +kernel)), ?_⟩
  refine List.forall_mem_cons.mpr ⟨ae_mk pu_al (fun X => ok_aload_n X (k := 0) rfl (by decide +kernel)), ?_⟩
  refine List.forall_mem_cons.mpr ⟨ae_mk pu_il (fun X => ok_iload_n X (k := 1) rfl (by decide +kernel)), ?_⟩
  refine List.forall_mem_cons.mpr ⟨ae_mk (pu_push (fun _ => trivial)) (fun X => ok_iconst X (n := 5) (by decide) (by decide +kernel)), ?_⟩
  refine List.forall_mem_cons.mpr ⟨ae_mkc (fun X => ok_callV X (mid := 108) (index := 150) (y := my_108) rfl (by decide) ⟨by decide, by decide⟩ (n := 2) (by decide +kernel) wd_949 wd_51 wd_946 wd_948 wd_28 (ci := 8) rfl (by decide +kernel)), ?_⟩
  refine List.forall_mem_cons.mpr ⟨ae_mk (pu_push (fun _ => trivial)) (fun X => ok_bipush X (n := 8) (by decide) (by decide +kernel)), ?_⟩
  refine List.forall_mem_cons.mpr ⟨ae_mk pu_ic (fun X => ok_ic_ge X (off := 7) (by decide) (by decide +kernel)), ?_⟩
  refine List.forall_mem_cons.mpr ⟨ae_mk (pu_push (fun _ => trivial)) (fun X => ok_iconst X (n := 1) (by decide) (by decide +kernel)), ?_⟩
  refine List.forall_mem_cons.mpr ⟨ae_mk pu_goto (fun X => ok_goto X (off := 4) (by decide) (by decide +kernel)), ?_⟩
  refine List.forall_mem_cons.mpr ⟨ae_mk (pu_push (fun _ => trivial)) (fun X => ok_iconst X (n := 0) (by decide) (by decide +kernel)), ?_⟩
  refine List.forall_mem_cons.mpr ⟨ae_mk pu_is (fun X => ok_istore_n X (k := 2) rfl (by decide +kernel)), ?_⟩
  refine List.forall_mem_cons.mpr ⟨ae_mk (pu_push (fun _ => trivial)) (fun X => ok_iconst X (n := 1) (by decide) (by decide +kernel)), ?_⟩
  refine List.forall_mem_cons.mpr ⟨ae_mk pu_is (fun X => ok_istore_n X (k := 3) rfl (by decide +kernel)), ?_⟩
  refine List.forall_mem_cons.mpr ⟨ae_mk pu_il (fun X => ok_iload_n X (k := 3) rfl (by decide +kernel)), ?_⟩
  refine List.forall_mem_cons.mpr ⟨ae_mk (pu_push (fun _ => trivial)) (fun X => ok_iconst X (n := 5) (by decide) (by decide +kernel)), ?_⟩
  refine List.forall_mem_cons.mpr ⟨ae_mk pu_ic (fun X => ok_ic_ge X (off := 28) (by decide) (by decide +kernel)), ?_⟩
  refine List.forall_mem_cons.mpr ⟨ae_mk pu_il (fun X => ok_iload_n X (k := 2) rfl (by decide +kernel)), ?_⟩
  refine List.forall_mem_cons.mpr ⟨ae_mk pu_if (fun X => ok_if_eq X (off := 16) (by decide) (by decide +kernel)), ?_⟩
  refine List.forall_mem_cons.mpr ⟨ae_mk pu_al (fun X => ok_aload_n X (k := 0) rfl (by decide +kernel)), ?_⟩
  refine List.forall_mem_cons.mpr ⟨ae_mk pu_il (fun X => ok_iload_n X (k := 1) rfl (by decide +kernel)), ?_⟩
  refine List.forall_mem_cons.mpr ⟨ae_mk pu_il (fun X => ok_iload_n X (k := 3) rfl (by decide +kernel)), ?_⟩
  refine List.forall_mem_cons.mpr ⟨ae_mkc (fun X => ok_callV X (mid := 108) (index := 150) (y := my_108) rfl (by decide) ⟨by decide, by decide⟩ (n := 2) (by decide +kernel) wd_949 wd_51 wd_946 wd_948 wd_28 (ci := 8) rfl (by decide +kernel)), ?_⟩
  refine List.forall_mem_cons.mpr ⟨ae_mk pu_if (fun X => ok_if_ne X (off := 7) (by decide) (by decide +kernel)), ?_⟩
  refine List.forall_mem_cons.mpr ⟨ae_mk (pu_push (fun _ => trivial)) (fun X => ok_iconst X (n := 1) (by decide) (by decide +kernel)), ?_⟩
  refine List.forall_mem_cons.mpr ⟨ae_mk pu_goto (fun X => ok_goto X (off := 4) (by decide) (by decide +kernel)), ?_⟩
  refine List.forall_mem_cons.mpr ⟨ae_mk (pu_push (fun _ => trivial)) (fun X => ok_iconst X (n := 0) (by decide) (by decide +kernel)), ?_⟩
  refine List.forall_mem_cons.mpr ⟨ae_mk pu_is (fun X => ok_istore_n X (k := 2) rfl (by decide +kernel)), ?_⟩
  refine List.forall_mem_cons.mpr ⟨ae_mk pu_inc (fun X => ok_iinc X (n := 1) (by decide) (by decide +kernel)), ?_⟩
  refine List.forall_mem_cons.mpr ⟨ae_mk pu_goto (fun X => ok_goto X (off := (-27)) (by decide) (by decide +kernel)), ?_⟩
  refine List.forall_mem_cons.mpr ⟨ae_mk pu_il (fun X => ok_iload_n X (k := 2) rfl (by decide +kernel)), ?_⟩
  refine List.forall_mem_cons.mpr ⟨ae_mk pu_if (fun X => ok_if_eq X (off := 26) (by decide) (by decide +kernel)), ?_⟩
  refine List.forall_mem_cons.mpr ⟨ae_mk pu_al (fun X => ok_aload_n X (k := 0) rfl (by decide +kernel)), ?_⟩
  refine List.forall_mem_cons.mpr ⟨ae_mk pu_get (fun X => ok_get X (ci := 8) (kk := 2) (index := 7) rfl aw_c_Model (by decide) wd_778 (by decide +kernel)), ?_⟩
  refine List.forall_mem_cons.mpr ⟨ae_mk pu_al (fun X => ok_aload_n X (k := 0) rfl (by decide +kernel)), ?_⟩
  refine List.forall_mem_cons.mpr ⟨ae_mk pu_il (fun X => ok_iload_n X (k := 1) rfl (by decide +kernel)), ?_⟩
  refine List.forall_mem_cons.mpr ⟨ae_mk (pu_push (fun _ => trivial)) (fun X => ok_iconst X (n := 5) (by decide) (by decide +kernel)), ?_⟩
  refine List.forall_mem_cons.mpr ⟨ae_mkc (fun X => ok_callV X (mid := 108) (index := 150) (y := my_108) rfl (by decide) ⟨by decide, by decide⟩ (n := 2) (by decide +kernel) wd_949 wd_51 wd_946 wd_948 wd_28 (ci := 8) rfl (by decide +kernel)), ?_⟩
  refine List.forall_mem_cons.mpr ⟨ae_mk pu_ba (fun X => ok_ba X (by decide +kernel)), ?_⟩
  refine List.forall_mem_cons.mpr ⟨ae_mk pu_if (fun X => ok_if_eq X (off := 12) (by decide) (by decide +kernel)), ?_⟩
  refine List.forall_mem_cons.mpr ⟨ae_mk pu_al (fun X => ok_aload_n X (k := 0) rfl (by decide +kernel)), ?_⟩
  refine List.forall_mem_cons.mpr ⟨ae_mk pu_il (fun X => ok_iload_n X (k := 1) rfl (by decide +kernel)), ?_⟩
  refine List.forall_mem_cons.mpr ⟨ae_mk (pu_push (fun _ => trivial)) (fun X => ok_iconst X (n := 5) (by decide) (by decide +kernel)), ?_⟩
  refine List.forall_mem_cons.mpr ⟨ae_mkc (fun X => ok_callV X (mid := 108) (index := 150) (y := my_108) rfl (by decide) ⟨by decide, by decide⟩ (n := 2) (by decide +kernel) wd_949 wd_51 wd_946 wd_948 wd_28 (ci := 8) rfl (by decide +kernel)), ?_⟩
  refine List.forall_mem_cons.mpr ⟨ae_mk pu_goto (fun X => ok_goto X (off := 4) (by decide) (by decide +kernel)), ?_⟩
  refine List.forall_mem_cons.mpr ⟨ae_mk (pu_push (fun _ => trivial)) (fun X => ok_iconst X (n := (-1)) (by decide) (by decide +kernel)), ?_⟩
  refine List.forall_mem_cons.mpr ⟨Or.inl ⟨rfl, (by decide +kernel), rt_int⟩, ?_⟩
  exact fun _ h => absurd h List.not_mem_nil
def tb_118 : List (Nat × ae_I) := [(0, .inl (o_al 0 1)),
  (1, .inl (o_il 1 2)),
  (2, .inr (.inr (.inl (111, 2, 5, some 8, [])))),
  (5, .inl (o_is 2 6)),
  (6, .inl (o_push (.int 1) 7)),
  (7, .inl (o_is 3 8)),
  (8, .inl (o_push (.int 0) 9)),
  (9, .inl (o_is 4 11)),
  (11, .inl (o_il 4 13)),
  (13, .inl (o_push (.int 4) 14)),
  (14, .inl (o_ic (fun x y => decide (y ≤ x)) 63 17)),
  (17, .inl (o_il 3 18)),
  (18, .inl (o_if (fun x => decide (x = 0)) 55 21)),
  (21, .inl (o_al 0 22)),
  (22, .inl (o_il 1 23)),
  (23, .inl (o_al 0 24)),
  (24, .inl (o_get 8 20 27)),
  (27, .inl (o_il 1 28)),
  (28, .inl (o_ia 29)),
  (29, .inl (o_push (.int 4) 30)),
  (30, .inl (o_bin (fun x y => x - y) 31)),
  (31, .inl (o_il 4 33)),
  (33, .inl (o_bin (fun x y => x + y) 34)),
  (34, .inr (.inr (.inl (108, 3, 37, some 8, [])))),
  (37, .inl (o_il 2 38)),
  (38, .inl (o_push (.int 8) 40)),
  (40, .inl (o_il 4 42)),
  (42, .inl (o_bin (fun x y => x * y) 43)),
  (43, .inl (o_bin (fun x y => x >>> (y &&& 31)) 44)),
  (44, .inl (o_push (.int 255) 47)),
  (47, .inl (o_bin (fun x y => x &&& y) 48)),
  (48, .inl (o_ic (fun x y => decide (¬ x = y)) 55 51)),
  (51, .inl (o_push (.int 1) 52)),
  (52, .inl (o_goto 56)),
  (55, .inl (o_push (.int 0) 56)),
  (56, .inl (o_is 3 57)),
  (57, .inl (o_inc 4 1 60)),
  (60, .inl (o_goto 11)),
  (63, .inl (o_il 3 64)),
  (64, .inr (.inl (some k_bool)))]
theorem te_118 : ∀ q ∈ tb_118, ae_E am "TwinNetworkModel" "isSound" prog_10_method_18_code 5 (Option.some Jvm.ClassFile.FieldType.boolean) [] q := by
  unfold tb_118
  refine List.forall_mem_cons.mpr ⟨ae_mk pu_al (fun X => ok_aload_n X (k := 0) rfl (by decide +kernel)), ?_⟩
  refine List.forall_mem_cons.mpr ⟨ae_mk pu_il (fun X => ok_iload_n X (k := 1) rfl (by decide +kernel)), ?_⟩
  refine List.forall_mem_cons.mpr ⟨ae_mkc (fun X => ok_callV X (mid := 111) (index := 159) (y := my_111) rfl (by decide) ⟨by decide, by decide⟩ (n := 1) (by decide +kernel) wd_961 wd_51 wd_958 wd_960 wd_30 (ci := 8) rfl (by decide +kernel)), ?_⟩
  refine List.forall_mem_cons.mpr ⟨ae_mk pu_is (fun X => ok_istore_n X (k := 2) rfl (by decide +kernel)), ?_⟩
  refine List.forall_mem_cons.mpr ⟨ae_mk (pu_push (fun _ => trivial)) (fun X => ok_iconst X (n := 1) (by decide) (by decide +kernel)), ?_⟩
  refine List.forall_mem_cons.mpr ⟨ae_mk pu_is (fun X => ok_istore_n X (k := 3) rfl (by decide +kernel)), ?_⟩
  refine List.forall_mem_cons.mpr ⟨ae_mk (pu_push (fun _ => trivial)) (fun X => ok_iconst X (n := 0) (by decide) (by decide +kernel)), ?_⟩
  refine List.forall_mem_cons.mpr ⟨ae_mk pu_is (fun X => ok_istore X (by decide +kernel)), ?_⟩
  refine List.forall_mem_cons.mpr ⟨ae_mk pu_il (fun X => ok_iload X (by decide +kernel)), ?_⟩
  refine List.forall_mem_cons.mpr ⟨ae_mk (pu_push (fun _ => trivial)) (fun X => ok_iconst X (n := 4) (by decide) (by decide +kernel)), ?_⟩
  refine List.forall_mem_cons.mpr ⟨ae_mk pu_ic (fun X => ok_ic_ge X (off := 49) (by decide) (by decide +kernel)), ?_⟩
  refine List.forall_mem_cons.mpr ⟨ae_mk pu_il (fun X => ok_iload_n X (k := 3) rfl (by decide +kernel)), ?_⟩
  refine List.forall_mem_cons.mpr ⟨ae_mk pu_if (fun X => ok_if_eq X (off := 37) (by decide) (by decide +kernel)), ?_⟩
  refine List.forall_mem_cons.mpr ⟨ae_mk pu_al (fun X => ok_aload_n X (k := 0) rfl (by decide +kernel)), ?_⟩
  refine List.forall_mem_cons.mpr ⟨ae_mk pu_il (fun X => ok_iload_n X (k := 1) rfl (by decide +kernel)), ?_⟩
  refine List.forall_mem_cons.mpr ⟨ae_mk pu_al (fun X => ok_aload_n X (k := 0) rfl (by decide +kernel)), ?_⟩
  refine List.forall_mem_cons.mpr ⟨ae_mk pu_get (fun X => ok_get X (ci := 8) (kk := 20) (index := 66) rfl aw_c_Model (by decide) wd_796 (by decide +kernel)), ?_⟩
  refine List.forall_mem_cons.mpr ⟨ae_mk pu_il (fun X => ok_iload_n X (k := 1) rfl (by decide +kernel)), ?_⟩
  refine List.forall_mem_cons.mpr ⟨ae_mk pu_ia (fun X => ok_ia X (by decide +kernel)), ?_⟩
  refine List.forall_mem_cons.mpr ⟨ae_mk (pu_push (fun _ => trivial)) (fun X => ok_iconst X (n := 4) (by decide) (by decide +kernel)), ?_⟩
  refine List.forall_mem_cons.mpr ⟨ae_mk pu_bin (fun X => ok_isub X (by decide +kernel)), ?_⟩
  refine List.forall_mem_cons.mpr ⟨ae_mk pu_il (fun X => ok_iload X (by decide +kernel)), ?_⟩
  refine List.forall_mem_cons.mpr ⟨ae_mk pu_bin (fun X => ok_iadd X (by decide +kernel)), ?_⟩
  refine List.forall_mem_cons.mpr ⟨ae_mkc (fun X => ok_callV X (mid := 108) (index := 150) (y := my_108) rfl (by decide) ⟨by decide, by decide⟩ (n := 2) (by decide +kernel) wd_949 wd_51 wd_946 wd_948 wd_28 (ci := 8) rfl (by decide +kernel)), ?_⟩
  refine List.forall_mem_cons.mpr ⟨ae_mk pu_il (fun X => ok_iload_n X (k := 2) rfl (by decide +kernel)), ?_⟩
  refine List.forall_mem_cons.mpr ⟨ae_mk (pu_push (fun _ => trivial)) (fun X => ok_bipush X (n := 8) (by decide) (by decide +kernel)), ?_⟩
  refine List.forall_mem_cons.mpr ⟨ae_mk pu_il (fun X => ok_iload X (by decide +kernel)), ?_⟩
  refine List.forall_mem_cons.mpr ⟨ae_mk pu_bin (fun X => ok_imul X (by decide +kernel)), ?_⟩
  refine List.forall_mem_cons.mpr ⟨ae_mk pu_bin (fun X => ok_ishr X (by decide +kernel)), ?_⟩
  refine List.forall_mem_cons.mpr ⟨ae_mk (pu_push (fun _ => trivial)) (fun X => ok_sipush X (n := 255) (by decide) (by decide +kernel)), ?_⟩
  refine List.forall_mem_cons.mpr ⟨ae_mk pu_bin (fun X => ok_iand X (by decide +kernel)), ?_⟩
  refine List.forall_mem_cons.mpr ⟨ae_mk pu_ic (fun X => ok_ic_ne X (off := 7) (by decide) (by decide +kernel)), ?_⟩
  refine List.forall_mem_cons.mpr ⟨ae_mk (pu_push (fun _ => trivial)) (fun X => ok_iconst X (n := 1) (by decide) (by decide +kernel)), ?_⟩
  refine List.forall_mem_cons.mpr ⟨ae_mk pu_goto (fun X => ok_goto X (off := 4) (by decide) (by decide +kernel)), ?_⟩
  refine List.forall_mem_cons.mpr ⟨ae_mk (pu_push (fun _ => trivial)) (fun X => ok_iconst X (n := 0) (by decide) (by decide +kernel)), ?_⟩
  refine List.forall_mem_cons.mpr ⟨ae_mk pu_is (fun X => ok_istore_n X (k := 3) rfl (by decide +kernel)), ?_⟩
  refine List.forall_mem_cons.mpr ⟨ae_mk pu_inc (fun X => ok_iinc X (n := 1) (by decide) (by decide +kernel)), ?_⟩
  refine List.forall_mem_cons.mpr ⟨ae_mk pu_goto (fun X => ok_goto X (off := (-49)) (by decide) (by decide +kernel)), ?_⟩
  refine List.forall_mem_cons.mpr ⟨ae_mk pu_il (fun X => ok_iload_n X (k := 3) rfl (by decide +kernel)), ?_⟩
  refine List.forall_mem_cons.mpr ⟨Or.inr (Or.inl ⟨rfl, (by decide +kernel), rt_bool⟩), ?_⟩
  exact fun _ h => absurd h List.not_mem_nil
def tb_119 : List (Nat × ae_I) := [(0, .inl (o_al 0 1)),
  (1, .inl (o_il 2 2)),
  (2, .inr (.inr (.inl (99, 2, 5, some 8, [])))),
  (5, .inl (o_if (fun x => decide (x = 0)) 35 8)),
  (8, .inl (o_il 1 9)),
  (9, .inl (o_if (fun x => decide (x < 0)) 35 12)),
  (12, .inl (o_il 1 13)),
  (13, .inl (o_push (.int 4) 14)),
  (14, .inl (o_ic (fun x y => decide (y ≤ x)) 35 17)),
  (17, .inl (o_al 0 18)),
  (18, .inl (o_get 8 8 21)),
  (21, .inl (o_il 2 22)),
  (22, .inl (o_ia 23)),
  (23, .inl (o_il 1 24)),
  (24, .inl (o_bin (fun x y => x >>> (y &&& 31)) 25)),
  (25, .inl (o_push (.int 1) 26)),
  (26, .inl (o_bin (fun x y => x &&& y) 27)),
  (27, .inl (o_push (.int 1) 28)),
  (28, .inl (o_ic (fun x y => decide (¬ x = y)) 35 31)),
  (31, .inl (o_push (.int 1) 32)),
  (32, .inl (o_goto 36)),
  (35, .inl (o_push (.int 0) 36)),
  (36, .inr (.inl (some k_bool)))]
theorem te_119 : ∀ q ∈ tb_119, ae_E am "TwinNetworkModel" "isTarget" prog_10_method_8_code 3 (Option.some Jvm.ClassFile.FieldType.boolean) [] q := by
  unfold tb_119
  refine List.forall_mem_cons.mpr ⟨ae_mk pu_al (fun X => ok_aload_n X (k := 0) rfl (by decide +kernel)), ?_⟩
  refine List.forall_mem_cons.mpr ⟨ae_mk pu_il (fun X => ok_iload_n X (k := 2) rfl (by decide +kernel)), ?_⟩
  refine List.forall_mem_cons.mpr ⟨ae_mkc (fun X => ok_callV X (mid := 99) (index := 142) (y := my_99) rfl (by decide) ⟨by decide, by decide⟩ (n := 1) (by decide +kernel) wd_912 wd_51 wd_909 wd_911 wd_20 (ci := 8) rfl (by decide +kernel)), ?_⟩
  refine List.forall_mem_cons.mpr ⟨ae_mk pu_if (fun X => ok_if_eq X (off := 30) (by decide) (by decide +kernel)), ?_⟩
  refine List.forall_mem_cons.mpr ⟨ae_mk pu_il (fun X => ok_iload_n X (k := 1) rfl (by decide +kernel)), ?_⟩
  refine List.forall_mem_cons.mpr ⟨ae_mk pu_if (fun X => ok_if_lt X (off := 26) (by decide) (by decide +kernel)), ?_⟩
  refine List.forall_mem_cons.mpr ⟨ae_mk pu_il (fun X => ok_iload_n X (k := 1) rfl (by decide +kernel)), ?_⟩
  refine List.forall_mem_cons.mpr ⟨ae_mk (pu_push (fun _ => trivial)) (fun X => ok_iconst X (n := 4) (by decide) (by decide +kernel)), ?_⟩
  refine List.forall_mem_cons.mpr ⟨ae_mk pu_ic (fun X => ok_ic_ge X (off := 21) (by decide) (by decide +kernel)), ?_⟩
  refine List.forall_mem_cons.mpr ⟨ae_mk pu_al (fun X => ok_aload_n X (k := 0) rfl (by decide +kernel)), ?_⟩
  refine List.forall_mem_cons.mpr ⟨ae_mk pu_get (fun X => ok_get X (ci := 8) (kk := 8) (index := 29) rfl aw_c_Model (by decide) wd_784 (by decide +kernel)), ?_⟩
  refine List.forall_mem_cons.mpr ⟨ae_mk pu_il (fun X => ok_iload_n X (k := 2) rfl (by decide +kernel)), ?_⟩
  refine List.forall_mem_cons.mpr ⟨ae_mk pu_ia (fun X => ok_ia X (by decide +kernel)), ?_⟩
  refine List.forall_mem_cons.mpr ⟨ae_mk pu_il (fun X => ok_iload_n X (k := 1) rfl (by decide +kernel)), ?_⟩
  refine List.forall_mem_cons.mpr ⟨ae_mk pu_bin (fun X => ok_ishr X (by decide +kernel)), ?_⟩
  refine List.forall_mem_cons.mpr ⟨ae_mk (pu_push (fun _ => trivial)) (fun X => ok_iconst X (n := 1) (by decide) (by decide +kernel)), ?_⟩
  refine List.forall_mem_cons.mpr ⟨ae_mk pu_bin (fun X => ok_iand X (by decide +kernel)), ?_⟩
  refine List.forall_mem_cons.mpr ⟨ae_mk (pu_push (fun _ => trivial)) (fun X => ok_iconst X (n := 1) (by decide) (by decide +kernel)), ?_⟩
  refine List.forall_mem_cons.mpr ⟨ae_mk pu_ic (fun X => ok_ic_ne X (off := 7) (by decide) (by decide +kernel)), ?_⟩
  refine List.forall_mem_cons.mpr ⟨ae_mk (pu_push (fun _ => trivial)) (fun X => ok_iconst X (n := 1) (by decide) (by decide +kernel)), ?_⟩
  refine List.forall_mem_cons.mpr ⟨ae_mk pu_goto (fun X => ok_goto X (off := 4) (by decide) (by decide +kernel)), ?_⟩
  refine List.forall_mem_cons.mpr ⟨ae_mk (pu_push (fun _ => trivial)) (fun X => ok_iconst X (n := 0) (by decide) (by decide +kernel)), ?_⟩
  refine List.forall_mem_cons.mpr ⟨Or.inr (Or.inl ⟨rfl, (by decide +kernel), rt_bool⟩), ?_⟩
  exact fun _ h => absurd h List.not_mem_nil
def tb_120 : List (Nat × ae_I) := [(0, .inl (o_al 0 1)),
  (1, .inl (o_il 1 2)),
  (2, .inl (o_push (.int 16) 4)),
  (4, .inr (.inr (.inl (107, 3, 7, some 8, [])))),
  (7, .inl (o_push (.int 20) 9)),
  (9, .inl (o_bin (fun x y => x - y) 10)),
  (10, .inl (o_is 2 11)),
  (11, .inl (o_al 0 12)),
  (12, .inl (o_il 1 13)),
  (13, .inl (o_push (.int 12) 15)),
  (15, .inr (.inr (.inl (108, 3, 18, some 8, [])))),
  (18, .inl (o_push (.int 8) 20)),
  (20, .inl (o_ic (fun x y => decide (¬ x = y)) 93 23)),
  (23, .inl (o_al 0 24)),
  (24, .inl (o_il 1 25)),
  (25, .inl (o_push (.int 13) 27)),
  (27, .inr (.inr (.inl (108, 3, 30, some 8, [])))),
  (30, .inl (o_if (fun x => decide (¬ x = 0)) 93 33)),
  (33, .inl (o_al 0 34)),
  (34, .inl (o_il 1 35)),
  (35, .inl (o_push (.int 14) 37)),
  (37, .inr (.inr (.inl (108, 3, 40, some 8, [])))),
  (40, .inl (o_push (.int 69) 42)),
  (42, .inl (o_ic (fun x y => decide (¬ x = y)) 93 45)),
  (45, .inl (o_al 0 46)),
  (46, .inl (o_il 1 47)),
  (47, .inl (o_push (.int 23) 49)),
  (49, .inr (.inr (.inl (108, 3, 52, some 8, [])))),
  (52, .inl (o_push (.int 17) 54)),
  (54, .inl (o_ic (fun x y => decide (¬ x = y)) 93 57)),
  (57, .inl (o_al 0 58)),
  (58, .inl (o_il 1 59)),
  (59, .inr (.inr (.inl (106, 2, 62, some 8, [])))),
  (62, .inl (o_al 0 63)),
  (63, .inl (o_il 1 64)),
  (64, .inl (o_push (.int 24) 66)),
  (66, .inr (.inr (.inl (107, 3, 69, some 8, [])))),
  (69, .inl (o_ic (fun x y => decide (¬ x = y)) 93 72)),
  (72, .inl (o_il 2 73)),
  (73, .inl (o_if (fun x => decide (x < 0)) 93 76)),
  (76, .inl (o_il 2 77)),
  (77, .inl (o_al 0 78)),
  (78, .inl (o_get 8 20 81)),
  (81, .inl (o_il 1 82)),
  (82, .inl (o_ia 83)),
  (83, .inl (o_push (.int 39) 85)),
  (85, .inl (o_bin (fun x y => x - y) 86)),
  (86, .inl (o_ic (fun x y => decide (y < x)) 93 89)),
  (89, .inl (o_push (.int 1) 90)),
  (90, .inl (o_goto 94)),
  (93, .inl (o_push (.int 0) 94)),
  (94, .inr (.inl (some k_bool)))]
theorem te_120 : ∀ q ∈ tb_120, ae_E am "TwinNetworkModel" "hasHead" prog_10_method_30_code 3 (Option.some Jvm.ClassFile.FieldType.boolean) [] q := by
  unfold tb_120
  refine List.forall_mem_cons.mpr ⟨ae_mk pu_al (fun X => ok_aload_n X (k := 0) rfl (by decide +kernel)), ?_⟩
  refine List.forall_mem_cons.mpr ⟨ae_mk pu_il (fun X => ok_iload_n X (k := 1) rfl (by decide +kernel)), ?_⟩
  refine List.forall_mem_cons.mpr ⟨ae_mk (pu_push (fun _ => trivial)) (fun X => ok_bipush X (n := 16) (by decide) (by decide +kernel)), ?_⟩
  refine List.forall_mem_cons.mpr ⟨ae_mkc (fun X => ok_callV X (mid := 107) (index := 154) (y := my_107) rfl (by decide) ⟨by decide, by decide⟩ (n := 2) (by decide +kernel) wd_945 wd_51 wd_942 wd_944 wd_27 (ci := 8) rfl (by decide +kernel)), ?_⟩
  refine List.forall_mem_cons.mpr ⟨ae_mk (pu_push (fun _ => trivial)) (fun X => ok_bipush X (n := 20) (by decide) (by decide +kernel)), ?_⟩
  refine List.forall_mem_cons.mpr ⟨ae_mk pu_bin (fun X => ok_isub X (by decide +kernel)), ?_⟩
  refine List.forall_mem_cons.mpr ⟨ae_mk pu_is (fun X => ok_istore_n X (k := 2) rfl (by decide +kernel)), ?_⟩
  refine List.forall_mem_cons.mpr ⟨ae_mk pu_al (fun X => ok_aload_n X (k := 0) rfl (by decide +kernel)), ?_⟩
  refine List.forall_mem_cons.mpr ⟨ae_mk pu_il (fun X => ok_iload_n X (k := 1) rfl (by decide +kernel)), ?_⟩
  refine List.forall_mem_cons.mpr ⟨ae_mk (pu_push (fun _ => trivial)) (fun X => ok_bipush X (n := 12) (by decide) (by decide +kernel)), ?_⟩
  refine List.forall_mem_cons.mpr ⟨ae_mkc (fun X => ok_callV X (mid := 108) (index := 150) (y := my_108) rfl (by decide) ⟨by decide, by decide⟩ (n := 2) (by decide +kernel) wd_949 wd_51 wd_946 wd_948 wd_28 (ci := 8) rfl (by decide +kernel)), ?_⟩
  refine List.forall_mem_cons.mpr ⟨ae_mk (pu_push (fun _ => trivial)) (fun X => ok_bipush X (n := 8) (by decide) (by decide +kernel)), ?_⟩
  refine List.forall_mem_cons.mpr ⟨ae_mk pu_ic (fun X => ok_ic_ne X (off := 73) (by decide) (by decide +kernel)), ?_⟩
  refine List.forall_mem_cons.mpr ⟨ae_mk pu_al (fun X => ok_aload_n X (k := 0) rfl (by decide +kernel)), ?_⟩
  refine List.forall_mem_cons.mpr ⟨ae_mk pu_il (fun X => ok_iload_n X (k := 1) rfl (by decide +kernel)), ?_⟩
  refine List.forall_mem_cons.mpr ⟨ae_mk (pu_push (fun _ => trivial)) (fun X => ok_bipush X (n := 13) (by decide) (by decide +kernel)), ?_⟩
  refine List.forall_mem_cons.mpr ⟨ae_mkc (fun X => ok_callV X (mid := 108) (index := 150) (y := my_108) rfl (by decide) ⟨by decide, by decide⟩ (n := 2) (by decide +kernel) wd_949 wd_51 wd_946 wd_948 wd_28 (ci := 8) rfl (by decide +kernel)), ?_⟩
  refine List.forall_mem_cons.mpr ⟨ae_mk pu_if (fun X => ok_if_ne X (off := 63) (by decide) (by decide +kernel)), ?_⟩
  refine List.forall_mem_cons.mpr ⟨ae_mk pu_al (fun X => ok_aload_n X (k := 0) rfl (by decide +kernel)), ?_⟩
  refine List.forall_mem_cons.mpr ⟨ae_mk pu_il (fun X => ok_iload_n X (k := 1) rfl (by decide +kernel)), ?_⟩
  refine List.forall_mem_cons.mpr ⟨ae_mk (pu_push (fun _ => trivial)) (fun X => ok_bipush X (n := 14) (by decide) (by decide +kernel)), ?_⟩
  refine List.forall_mem_cons.mpr ⟨ae_mkc (fun X => ok_callV X (mid := 108) (index := 150) (y := my_108) rfl (by decide) ⟨by decide, by decide⟩ (n := 2) (by decide +kernel) wd_949 wd_51 wd_946 wd_948 wd_28 (ci := 8) rfl (by decide +kernel)), ?_⟩
  refine List.forall_mem_cons.mpr ⟨ae_mk (pu_push (fun _ => trivial)) (fun X => ok_bipush X (n := 69) (by decide) (by decide +kernel)), ?_⟩
  refine List.forall_mem_cons.mpr ⟨ae_mk pu_ic (fun X => ok_ic_ne X (off := 51) (by decide) (by decide +kernel)), ?_⟩
  refine List.forall_mem_cons.mpr ⟨ae_mk pu_al (fun X => ok_aload_n X (k := 0) rfl (by decide +kernel)), ?_⟩
  refine List.forall_mem_cons.mpr ⟨ae_mk pu_il (fun X => ok_iload_n X (k := 1) rfl (by decide +kernel)), ?_⟩
  refine List.forall_mem_cons.mpr ⟨ae_mk (pu_push (fun _ => trivial)) (fun X => ok_bipush X (n := 23) (by decide) (by decide +kernel)), ?_⟩
  refine List.forall_mem_cons.mpr ⟨ae_mkc (fun X => ok_callV X (mid := 108) (index := 150) (y := my_108) rfl (by decide) ⟨by decide, by decide⟩ (n := 2) (by decide +kernel) wd_949 wd_51 wd_946 wd_948 wd_28 (ci := 8) rfl (by decide +kernel)), ?_⟩
  refine List.forall_mem_cons.mpr ⟨ae_mk (pu_push (fun _ => trivial)) (fun X => ok_bipush X (n := 17) (by decide) (by decide +kernel)), ?_⟩
  refine List.forall_mem_cons.mpr ⟨ae_mk pu_ic (fun X => ok_ic_ne X (off := 39) (by decide) (by decide +kernel)), ?_⟩
  refine List.forall_mem_cons.mpr ⟨ae_mk pu_al (fun X => ok_aload_n X (k := 0) rfl (by decide +kernel)), ?_⟩
  refine List.forall_mem_cons.mpr ⟨ae_mk pu_il (fun X => ok_iload_n X (k := 1) rfl (by decide +kernel)), ?_⟩
  refine List.forall_mem_cons.mpr ⟨ae_mkc (fun X => ok_callV X (mid := 106) (index := 170) (y := my_106) rfl (by decide) ⟨by decide, by decide⟩ (n := 1) (by decide +kernel) wd_941 wd_51 wd_938 wd_940 wd_26 (ci := 8) rfl (by decide +kernel)), ?_⟩
  refine List.forall_mem_cons.mpr ⟨ae_mk pu_al (fun X => ok_aload_n X (k := 0) rfl (by decide +kernel)), ?_⟩
  refine List.forall_mem_cons.mpr ⟨ae_mk pu_il (fun X => ok_iload_n X (k := 1) rfl (by decide +kernel)), ?_⟩
  refine List.forall_mem_cons.mpr ⟨ae_mk (pu_push (fun _ => trivial)) (fun X => ok_bipush X (n := 24) (by decide) (by decide +kernel)), ?_⟩
  refine List.forall_mem_cons.mpr ⟨ae_mkc (fun X => ok_callV X (mid := 107) (index := 154) (y := my_107) rfl (by decide) ⟨by decide, by decide⟩ (n := 2) (by decide +kernel) wd_945 wd_51 wd_942 wd_944 wd_27 (ci := 8) rfl (by decide +kernel)), ?_⟩
  refine List.forall_mem_cons.mpr ⟨ae_mk pu_ic (fun X => ok_ic_ne X (off := 24) (by decide) (by decide +kernel)), ?_⟩
  refine List.forall_mem_cons.mpr ⟨ae_mk pu_il (fun X => ok_iload_n X (k := 2) rfl (by decide +kernel)), ?_⟩
  refine List.forall_mem_cons.mpr ⟨ae_mk pu_if (fun X => ok_if_lt X (off := 20) (by decide) (by decide +kernel)), ?_⟩
  refine List.forall_mem_cons.mpr ⟨ae_mk pu_il (fun X => ok_iload_n X (k := 2) rfl (by decide +kernel)), ?_⟩
  refine List.forall_mem_cons.mpr ⟨ae_mk pu_al (fun X => ok_aload_n X (k := 0) rfl (by decide +kernel)), ?_⟩
  refine List.forall_mem_cons.mpr ⟨ae_mk pu_get (fun X => ok_get X (ci := 8) (kk := 20) (index := 66) rfl aw_c_Model (by decide) wd_796 (by decide +kernel)), ?_⟩
  refine List.forall_mem_cons.mpr ⟨ae_mk pu_il (fun X => ok_iload_n X (k := 1) rfl (by decide +kernel)), ?_⟩
  refine List.forall_mem_cons.mpr ⟨ae_mk pu_ia (fun X => ok_ia X (by decide +kernel)), ?_⟩
  refine List.forall_mem_cons.mpr ⟨ae_mk (pu_push (fun _ => trivial)) (fun X => ok_bipush X (n := 39) (by decide) (by decide +kernel)), ?_⟩
  refine List.forall_mem_cons.mpr ⟨ae_mk pu_bin (fun X => ok_isub X (by decide +kernel)), ?_⟩
  refine List.forall_mem_cons.mpr ⟨ae_mk pu_ic (fun X => ok_ic_gt X (off := 7) (by decide) (by decide +kernel)), ?_⟩
  refine List.forall_mem_cons.mpr ⟨ae_mk (pu_push (fun _ => trivial)) (fun X => ok_iconst X (n := 1) (by decide) (by decide +kernel)), ?_⟩
  refine List.forall_mem_cons.mpr ⟨ae_mk pu_goto (fun X => ok_goto X (off := 4) (by decide) (by decide +kernel)), ?_⟩
  refine List.forall_mem_cons.mpr ⟨ae_mk (pu_push (fun _ => trivial)) (fun X => ok_iconst X (n := 0) (by decide) (by decide +kernel)), ?_⟩
  refine List.forall_mem_cons.mpr ⟨Or.inr (Or.inl ⟨rfl, (by decide +kernel), rt_bool⟩), ?_⟩
  exact fun _ h => absurd h List.not_mem_nil
def tb_121 : List (Nat × ae_I) := [(0, .inl (o_al 0 1)),
  (1, .inl (o_get 8 28 4)),
  (4, .inl (o_push (.int 32) 6)),
  (6, .inl (o_il 2 7)),
  (7, .inl (o_bin (fun x y => x * y) 8)),
  (8, .inl (o_il 3 9)),
  (9, .inl (o_bin (fun x y => x + y) 10)),
  (10, .inl (o_ia 11)),
  (11, .inl (o_is 5 13)),
  (13, .inl (o_al 0 14)),
  (14, .inl (o_get 8 28 17)),
  (17, .inl (o_push (.int 32) 19)),
  (19, .inl (o_il 2 20)),
  (20, .inl (o_bin (fun x y => x * y) 21)),
  (21, .inl (o_il 3 22)),
  (22, .inl (o_bin (fun x y => x + y) 23)),
  (23, .inl (o_il 4 25)),
  (25, .inl (o_ias 26)),
  (26, .inl (o_il 5 28)),
  (28, .inl (o_push (.int (-1)) 29)),
  (29, .inl (o_ic (fun x y => decide (x = y)) 63 32)),
  (32, .inl (o_il 4 34)),
  (34, .inl (o_if (fun x => decide (x = 0)) 63 37)),
  (37, .inl (o_il 4 39)),
  (39, .inl (o_il 5 41)),
  (41, .inr (.inr (.inl (96, 1, 44, none, [])))),
  (44, .inl (o_ic (fun x y => decide (x = y)) 63 47)),
  (47, .inl (o_il 4 49)),
  (49, .inl (o_il 5 51)),
  (51, .inr (.inr (.inl (96, 1, 54, none, [])))),
  (54, .inr (.inr (.inl (96, 1, 57, none, [])))),
  (57, .inl (o_ic (fun x y => decide (x = y)) 63 60)),
  (60, .inl (o_push (.int 8) 62)),
  (62, .inr (.inl (some k_int))),
  (63, .inl (o_al 0 64)),
  (64, .inl (o_get 8 29 67)),
  (67, .inl (o_il 3 68)),
  (68, .inl (o_ia 69)),
  (69, .inl (o_is 6 71)),
  (71, .inl (o_il 6 73)),
  (73, .inl (o_push (.int (-1)) 74)),
  (74, .inl (o_ic (fun x y => decide (x = y)) 100 77)),
  (77, .inl (o_al 0 78)),
  (78, .inl (o_get 8 1 81)),
  (81, .inl (o_al 0 82)),
  (82, .inl (o_get 8 30 85)),
  (85, .inl (o_il 3 86)),
  (86, .inl (o_ia 87)),
  (87, .inl (o_bin (fun x y => x - y) 88)),
  (88, .inl (o_al 0 89)),
  (89, .inl (o_get 8 9 92)),
  (92, .inl (o_il 3 93)),
  (93, .inl (o_push (.int 8) 95)),
  (95, .inl (o_dv (fun x y => x - x / y * y) 96)),
  (96, .inl (o_ia 97)),
  (97, .inl (o_ic (fun x y => decide (x ≤ y)) 104 100)),
  (100, .inl (o_push (.int 1) 101)),
  (101, .inl (o_goto 105)),
  (104, .inl (o_push (.int 0) 105)),
  (105, .inl (o_is 7 107)),
  (107, .inl (o_push (.int 0) 108)),
  (108, .inl (o_is 8 110)),
  (110, .inl (o_il 6 112)),
  (112, .inl (o_is 9 114)),
  (114, .inl (o_il 6 116)),
  (116, .inl (o_if (fun x => decide (x ≤ 0)) 144 119)),
  (119, .inl (o_il 4 121)),
  (121, .inl (o_if (fun x => decide (x ≤ 0)) 144 124)),
  (124, .inl (o_il 9 126)),
  (126, .inl (o_il 4 128)),
  (128, .inl (o_ic (fun x y => decide (x = y)) 144 131)),
  (131, .inl (o_inc 8 1 134)),
  (134, .inl (o_il 9 136)),
  (136, .inr (.inr (.inl (96, 1, 139, none, [])))),
  (139, .inl (o_is 9 141)),
  (141, .inl (o_goto 114)),
  (144, .inl (o_il 4 146)),
  (146, .inl (o_il 6 148)),
  (148, .inl (o_ic (fun x y => decide (x = y)) 173 151)),
  (151, .inl (o_il 4 153)),
  (153, .inl (o_if (fun x => decide (x = 0)) 169 156)),
  (156, .inl (o_il 6 158)),
  (158, .inl (o_if (fun x => decide (x = 0)) 169 161)),
  (161, .inl (o_il 8 163)),
  (163, .inl (o_push (.int 128) 166)),
  (166, .inl (o_ic (fun x y => decide (y ≤ x)) 173 169)),
  (169, .inl (o_push (.int 1) 170)),
  (170, .inl (o_goto 174)),
  (173, .inl (o_push (.int 0) 174)),
  (174, .inl (o_is 9 176)),
  (176, .inl (o_il 7 178)),
  (178, .inl (o_if (fun x => decide (¬ x = 0)) 189 181)),
  (181, .inl (o_il 9 183)),
  (183, .inl (o_if (fun x => decide (¬ x = 0)) 189 186)),
  (186, .inl (o_push (.int 9) 188)),
  (188, .inr (.inl (some k_int))),
  (189, .inl (o_al 0 190)),
  (190, .inl (o_get 8 29 193)),
  (193, .inl (o_il 3 194)),
  (194, .inl (o_il 4 196)),
  (196, .inl (o_ias 197)),
  (197, .inl (o_al 0 198)),
  (198, .inl (o_get 8 30 201)),
  (201, .inl (o_il 3 202)),
  (202, .inl (o_al 0 203)),
  (203, .inl (o_get 8 1 206)),
  (206, .inl (o_ias 207)),
  (207, .inl (o_al 0 208)),
  (208, .inl (o_il 1 209)),
  (209, .inl (o_il 3 210)),
  (210, .inr (.inr (.inl (123, 3, 213, some 8, [])))),
  (213, .inr (.inl (some k_int)))]
theorem te_121 : ∀ q ∈ tb_121, ae_E am "TwinNetworkModel" "arrive" prog_10_method_33_code 10 (Option.some Jvm.ClassFile.FieldType.int) [] q := by
  unfold tb_121
  refine List.forall_mem_cons.mpr ⟨ae_mk pu_al (fun X => ok_aload_n X (k := 0) rfl (by decide +kernel)), ?_⟩
  refine List.forall_mem_cons.mpr ⟨ae_mk pu_get (fun X => ok_get X (ci := 8) (kk := 28) (index := 90) rfl aw_c_Model (by decide) wd_804 (by decide +kernel)), ?_⟩
  refine List.forall_mem_cons.mpr ⟨ae_mk (pu_push (fun _ => trivial)) (fun X => ok_bipush X (n := 32) (by decide) (by decide +kernel)), ?_⟩
  refine List.forall_mem_cons.mpr ⟨ae_mk pu_il (fun X => ok_iload_n X (k := 2) rfl (by decide +kernel)), ?_⟩
  refine List.forall_mem_cons.mpr ⟨ae_mk pu_bin (fun X => ok_imul X (by decide +kernel)), ?_⟩
  refine List.forall_mem_cons.mpr ⟨ae_mk pu_il (fun X => ok_iload_n X (k := 3) rfl (by decide +kernel)), ?_⟩
  refine List.forall_mem_cons.mpr ⟨ae_mk pu_bin (fun X => ok_iadd X (by decide +kernel)), ?_⟩
  refine List.forall_mem_cons.mpr ⟨ae_mk pu_ia (fun X => ok_ia X (by decide +kernel)), ?_⟩
  refine List.forall_mem_cons.mpr ⟨ae_mk pu_is (fun X => ok_istore X (by decide +kernel)), ?_⟩
  refine List.forall_mem_cons.mpr ⟨ae_mk pu_al (fun X => ok_aload_n X (k := 0) rfl (by decide +kernel)), ?_⟩
  refine List.forall_mem_cons.mpr ⟨ae_mk pu_get (fun X => ok_get X (ci := 8) (kk := 28) (index := 90) rfl aw_c_Model (by decide) wd_804 (by decide +kernel)), ?_⟩
  refine List.forall_mem_cons.mpr ⟨ae_mk (pu_push (fun _ => trivial)) (fun X => ok_bipush X (n := 32) (by decide) (by decide +kernel)), ?_⟩
  refine List.forall_mem_cons.mpr ⟨ae_mk pu_il (fun X => ok_iload_n X (k := 2) rfl (by decide +kernel)), ?_⟩
  refine List.forall_mem_cons.mpr ⟨ae_mk pu_bin (fun X => ok_imul X (by decide +kernel)), ?_⟩
  refine List.forall_mem_cons.mpr ⟨ae_mk pu_il (fun X => ok_iload_n X (k := 3) rfl (by decide +kernel)), ?_⟩
  refine List.forall_mem_cons.mpr ⟨ae_mk pu_bin (fun X => ok_iadd X (by decide +kernel)), ?_⟩
  refine List.forall_mem_cons.mpr ⟨ae_mk pu_il (fun X => ok_iload X (by decide +kernel)), ?_⟩
  refine List.forall_mem_cons.mpr ⟨ae_mk pu_ias (fun X => ok_ias X (by decide +kernel)), ?_⟩
  refine List.forall_mem_cons.mpr ⟨ae_mk pu_il (fun X => ok_iload X (by decide +kernel)), ?_⟩
  refine List.forall_mem_cons.mpr ⟨ae_mk (pu_push (fun _ => trivial)) (fun X => ok_iconst X (n := (-1)) (by decide) (by decide +kernel)), ?_⟩
  refine List.forall_mem_cons.mpr ⟨ae_mk pu_ic (fun X => ok_ic_eq X (off := 34) (by decide) (by decide +kernel)), ?_⟩
  refine List.forall_mem_cons.mpr ⟨ae_mk pu_il (fun X => ok_iload X (by decide +kernel)), ?_⟩
  refine List.forall_mem_cons.mpr ⟨ae_mk pu_if (fun X => ok_if_eq X (off := 29) (by decide) (by decide +kernel)), ?_⟩
  refine List.forall_mem_cons.mpr ⟨ae_mk pu_il (fun X => ok_iload X (by decide +kernel)), ?_⟩
  refine List.forall_mem_cons.mpr ⟨ae_mk pu_il (fun X => ok_iload X (by decide +kernel)), ?_⟩
  refine List.forall_mem_cons.mpr ⟨ae_mkc (fun X => ok_callS X (mid := 96) (index := 223) (y := my_96) rfl (by decide) ⟨by decide, by decide⟩ (n := 1) (by decide +kernel) wd_1004 wd_51 wd_1002 wd_1003 (by decide +kernel)), ?_⟩
  refine List.forall_mem_cons.mpr ⟨ae_mk pu_ic (fun X => ok_ic_eq X (off := 19) (by decide) (by decide +kernel)), ?_⟩
  refine List.forall_mem_cons.mpr ⟨ae_mk pu_il (fun X => ok_iload X (by decide +kernel)), ?_⟩
  refine List.forall_mem_cons.mpr ⟨ae_mk pu_il (fun X => ok_iload X (by decide +kernel)), ?_⟩
  refine List.forall_mem_cons.mpr ⟨ae_mkc (fun X => ok_callS X (mid := 96) (index := 223) (y := my_96) rfl (by decide) ⟨by decide, by decide⟩ (n := 1) (by decide +kernel) wd_1004 wd_51 wd_1002 wd_1003 (by decide +kernel)), ?_⟩
  refine List.forall_mem_cons.mpr ⟨ae_mkc (fun X => ok_callS X (mid := 96) (index := 223) (y := my_96) rfl (by decide) ⟨by decide, by decide⟩ (n := 1) (by decide +kernel) wd_1004 wd_51 wd_1002 wd_1003 (by decide +kernel)), ?_⟩
  refine List.forall_mem_cons.mpr ⟨ae_mk pu_ic (fun X => ok_ic_eq X (off := 6) (by decide) (by decide +kernel)), ?_⟩
  refine List.forall_mem_cons.mpr ⟨ae_mk (pu_push (fun _ => trivial)) (fun X => ok_bipush X (n := 8) (by decide) (by decide +kernel)), ?_⟩
  refine List.forall_mem_cons.mpr ⟨Or.inl ⟨rfl, (by decide +kernel), rt_int⟩, ?_⟩
  refine List.forall_mem_cons.mpr ⟨ae_mk pu_al (fun X => ok_aload_n X (k := 0) rfl (by decide +kernel)), ?_⟩
  refine List.forall_mem_cons.mpr ⟨ae_mk pu_get (fun X => ok_get X (ci := 8) (kk := 29) (index := 93) rfl aw_c_Model (by decide) wd_805 (by decide +kernel)), ?_⟩
  refine List.forall_mem_cons.mpr ⟨ae_mk pu_il (fun X => ok_iload_n X (k := 3) rfl (by decide +kernel)), ?_⟩
  refine List.forall_mem_cons.mpr ⟨ae_mk pu_ia (fun X => ok_ia X (by decide +kernel)), ?_⟩
  refine List.forall_mem_cons.mpr ⟨ae_mk pu_is (fun X => ok_istore X (by decide +kernel)), ?_⟩
  refine List.forall_mem_cons.mpr ⟨ae_mk pu_il (fun X => ok_iload X (by decide +kernel)), ?_⟩
  refine List.forall_mem_cons.mpr ⟨ae_mk (pu_push (fun _ => trivial)) (fun X => ok_iconst X (n := (-1)) (by decide) (by decide +kernel)), ?_⟩
  refine List.forall_mem_cons.mpr ⟨ae_mk pu_ic (fun X => ok_ic_eq X (off := 26) (by decide) (by decide +kernel)), ?_⟩
  refine List.forall_mem_cons.mpr ⟨ae_mk pu_al (fun X => ok_aload_n X (k := 0) rfl (by decide +kernel)), ?_⟩
  refine List.forall_mem_cons.mpr ⟨ae_mk pu_get (fun X => ok_get X (ci := 8) (kk := 1) (index := 177) rfl aw_c_Model (by decide) wd_777 (by decide +kernel)), ?_⟩
  refine List.forall_mem_cons.mpr ⟨ae_mk pu_al (fun X => ok_aload_n X (k := 0) rfl (by decide +kernel)), ?_⟩
  refine List.forall_mem_cons.mpr ⟨ae_mk pu_get (fun X => ok_get X (ci := 8) (kk := 30) (index := 96) rfl aw_c_Model (by decide) wd_806 (by decide +kernel)), ?_⟩
  refine List.forall_mem_cons.mpr ⟨ae_mk pu_il (fun X => ok_iload_n X (k := 3) rfl (by decide +kernel)), ?_⟩
  refine List.forall_mem_cons.mpr ⟨ae_mk pu_ia (fun X => ok_ia X (by decide +kernel)), ?_⟩
  refine List.forall_mem_cons.mpr ⟨ae_mk pu_bin (fun X => ok_isub X (by decide +kernel)), ?_⟩
  refine List.forall_mem_cons.mpr ⟨ae_mk pu_al (fun X => ok_aload_n X (k := 0) rfl (by decide +kernel)), ?_⟩
  refine List.forall_mem_cons.mpr ⟨ae_mk pu_get (fun X => ok_get X (ci := 8) (kk := 9) (index := 32) rfl aw_c_Model (by decide) wd_785 (by decide +kernel)), ?_⟩
  refine List.forall_mem_cons.mpr ⟨ae_mk pu_il (fun X => ok_iload_n X (k := 3) rfl (by decide +kernel)), ?_⟩
  refine List.forall_mem_cons.mpr ⟨ae_mk (pu_push (fun _ => trivial)) (fun X => ok_bipush X (n := 8) (by decide) (by decide +kernel)), ?_⟩
  refine List.forall_mem_cons.mpr ⟨ae_mk pu_dv (fun X => ok_irem X (by decide +kernel)), ?_⟩
  refine List.forall_mem_cons.mpr ⟨ae_mk pu_ia (fun X => ok_ia X (by decide +kernel)), ?_⟩
  refine List.forall_mem_cons.mpr ⟨ae_mk pu_ic (fun X => ok_ic_le X (off := 7) (by decide) (by decide +kernel)), ?_⟩
  refine List.forall_mem_cons.mpr ⟨ae_mk (pu_push (fun _ => trivial)) (fun X => ok_iconst X (n := 1) (by decide) (by decide +kernel)), ?_⟩
  refine List.forall_mem_cons.mpr ⟨ae_mk pu_goto (fun X => ok_goto X (off := 4) (by decide) (by decide +kernel)), ?_⟩
  refine List.forall_mem_cons.mpr ⟨ae_mk (pu_push (fun _ => trivial)) (fun X => ok_iconst X (n := 0) (by decide) (by decide +kernel)), ?_⟩
  refine List.forall_mem_cons.mpr ⟨ae_mk pu_is (fun X => ok_istore X (by decide +kernel)), ?_⟩
  refine List.forall_mem_cons.mpr ⟨ae_mk (pu_push (fun _ => trivial)) (fun X => ok_iconst X (n := 0) (by decide) (by decide +kernel)), ?_⟩
  refine List.forall_mem_cons.mpr ⟨ae_mk pu_is (fun X => ok_istore X (by decide +kernel)), ?_⟩
  refine List.forall_mem_cons.mpr ⟨ae_mk pu_il (fun X => ok_iload X (by decide +kernel)), ?_⟩
  refine List.forall_mem_cons.mpr ⟨ae_mk pu_is (fun X => ok_istore X (by decide +kernel)), ?_⟩
  refine List.forall_mem_cons.mpr ⟨ae_mk pu_il (fun X => ok_iload X (by decide +kernel)), ?_⟩
  refine List.forall_mem_cons.mpr ⟨ae_mk pu_if (fun X => ok_if_le X (off := 28) (by decide) (by decide +kernel)), ?_⟩
  refine List.forall_mem_cons.mpr ⟨ae_mk pu_il (fun X => ok_iload X (by decide +kernel)), ?_⟩
  refine List.forall_mem_cons.mpr ⟨ae_mk pu_if (fun X => ok_if_le X (off := 23) (by decide) (by decide +kernel)), ?_⟩
  refine List.forall_mem_cons.mpr ⟨ae_mk pu_il (fun X => ok_iload X (by decide +kernel)), ?_⟩
  refine List.forall_mem_cons.mpr ⟨ae_mk pu_il (fun X => ok_iload X (by decide +kernel)), ?_⟩
  refine List.forall_mem_cons.mpr ⟨ae_mk pu_ic (fun X => ok_ic_eq X (off := 16) (by decide) (by decide +kernel)), ?_⟩
  refine List.forall_mem_cons.mpr ⟨ae_mk pu_inc (fun X => ok_iinc X (n := 1) (by decide) (by decide +kernel)), ?_⟩
  refine List.forall_mem_cons.mpr ⟨ae_mk pu_il (fun X => ok_iload X (by decide +kernel)), ?_⟩
  refine List.forall_mem_cons.mpr ⟨ae_mkc (fun X => ok_callS X (mid := 96) (index := 223) (y := my_96) rfl (by decide) ⟨by decide, by decide⟩ (n := 1) (by decide +kernel) wd_1004 wd_51 wd_1002 wd_1003 (by decide +kernel)), ?_⟩
  refine List.forall_mem_cons.mpr ⟨ae_mk pu_is (fun X => ok_istore X (by decide +kernel)), ?_⟩
  refine List.forall_mem_cons.mpr ⟨ae_mk pu_goto (fun X => ok_goto X (off := (-27)) (by decide) (by decide +kernel)), ?_⟩
  refine List.forall_mem_cons.mpr ⟨ae_mk pu_il (fun X => ok_iload X (by decide +kernel)), ?_⟩
  refine List.forall_mem_cons.mpr ⟨ae_mk pu_il (fun X => ok_iload X (by decide +kernel)), ?_⟩
  refine List.forall_mem_cons.mpr ⟨ae_mk pu_ic (fun X => ok_ic_eq X (off := 25) (by decide) (by decide +kernel)), ?_⟩
  refine List.forall_mem_cons.mpr ⟨ae_mk pu_il (fun X => ok_iload X (by decide +kernel)), ?_⟩
  refine List.forall_mem_cons.mpr ⟨ae_mk pu_if (fun X => ok_if_eq X (off := 16) (by decide) (by decide +kernel)), ?_⟩
  refine List.forall_mem_cons.mpr ⟨ae_mk pu_il (fun X => ok_iload X (by decide +kernel)), ?_⟩
  refine List.forall_mem_cons.mpr ⟨ae_mk pu_if (fun X => ok_if_eq X (off := 11) (by decide) (by decide +kernel)), ?_⟩
  refine List.forall_mem_cons.mpr ⟨ae_mk pu_il (fun X => ok_iload X (by decide +kernel)), ?_⟩
  refine List.forall_mem_cons.mpr ⟨ae_mk (pu_push (fun _ => trivial)) (fun X => ok_sipush X (n := 128) (by decide) (by decide +kernel)), ?_⟩
  refine List.forall_mem_cons.mpr ⟨ae_mk pu_ic (fun X => ok_ic_ge X (off := 7) (by decide) (by decide +kernel)), ?_⟩
  refine List.forall_mem_cons.mpr ⟨ae_mk (pu_push (fun _ => trivial)) (fun X => ok_iconst X (n := 1) (by decide) (by decide +kernel)), ?_⟩
  refine List.forall_mem_cons.mpr ⟨ae_mk pu_goto (fun X => ok_goto X (off := 4) (by decide) (by decide +kernel)), ?_⟩
  refine List.forall_mem_cons.mpr ⟨ae_mk (pu_push (fun _ => trivial)) (fun X => ok_iconst X (n := 0) (by decide) (by decide +kernel)), ?_⟩
  refine List.forall_mem_cons.mpr ⟨ae_mk pu_is (fun X => ok_istore X (by decide +kernel)), ?_⟩
  refine List.forall_mem_cons.mpr ⟨ae_mk pu_il (fun X => ok_iload X (by decide +kernel)), ?_⟩
  refine List.forall_mem_cons.mpr ⟨ae_mk pu_if (fun X => ok_if_ne X (off := 11) (by decide) (by decide +kernel)), ?_⟩
  refine List.forall_mem_cons.mpr ⟨ae_mk pu_il (fun X => ok_iload X (by decide +kernel)), ?_⟩
  refine List.forall_mem_cons.mpr ⟨ae_mk pu_if (fun X => ok_if_ne X (off := 6) (by decide) (by decide +kernel)), ?_⟩
  refine List.forall_mem_cons.mpr ⟨ae_mk (pu_push (fun _ => trivial)) (fun X => ok_bipush X (n := 9) (by decide) (by decide +kernel)), ?_⟩
  refine List.forall_mem_cons.mpr ⟨Or.inl ⟨rfl, (by decide +kernel), rt_int⟩, ?_⟩
  refine List.forall_mem_cons.mpr ⟨ae_mk pu_al (fun X => ok_aload_n X (k := 0) rfl (by decide +kernel)), ?_⟩
  refine List.forall_mem_cons.mpr ⟨ae_mk pu_get (fun X => ok_get X (ci := 8) (kk := 29) (index := 93) rfl aw_c_Model (by decide) wd_805 (by decide +kernel)), ?_⟩
  refine List.forall_mem_cons.mpr ⟨ae_mk pu_il (fun X => ok_iload_n X (k := 3) rfl (by decide +kernel)), ?_⟩
  refine List.forall_mem_cons.mpr ⟨ae_mk pu_il (fun X => ok_iload X (by decide +kernel)), ?_⟩
  refine List.forall_mem_cons.mpr ⟨ae_mk pu_ias (fun X => ok_ias X (by decide +kernel)), ?_⟩
  refine List.forall_mem_cons.mpr ⟨ae_mk pu_al (fun X => ok_aload_n X (k := 0) rfl (by decide +kernel)), ?_⟩
  refine List.forall_mem_cons.mpr ⟨ae_mk pu_get (fun X => ok_get X (ci := 8) (kk := 30) (index := 96) rfl aw_c_Model (by decide) wd_806 (by decide +kernel)), ?_⟩
  refine List.forall_mem_cons.mpr ⟨ae_mk pu_il (fun X => ok_iload_n X (k := 3) rfl (by decide +kernel)), ?_⟩
  refine List.forall_mem_cons.mpr ⟨ae_mk pu_al (fun X => ok_aload_n X (k := 0) rfl (by decide +kernel)), ?_⟩
  refine List.forall_mem_cons.mpr ⟨ae_mk pu_get (fun X => ok_get X (ci := 8) (kk := 1) (index := 177) rfl aw_c_Model (by decide) wd_777 (by decide +kernel)), ?_⟩
  refine List.forall_mem_cons.mpr ⟨ae_mk pu_ias (fun X => ok_ias X (by decide +kernel)), ?_⟩
  refine List.forall_mem_cons.mpr ⟨ae_mk pu_al (fun X => ok_aload_n X (k := 0) rfl (by decide +kernel)), ?_⟩
  refine List.forall_mem_cons.mpr ⟨ae_mk pu_il (fun X => ok_iload_n X (k := 1) rfl (by decide +kernel)), ?_⟩
  refine List.forall_mem_cons.mpr ⟨ae_mk pu_il (fun X => ok_iload_n X (k := 3) rfl (by decide +kernel)), ?_⟩
  refine List.forall_mem_cons.mpr ⟨ae_mkc (fun X => ok_callV X (mid := 123) (index := 226) (y := my_123) rfl (by decide) ⟨by decide, by decide⟩ (n := 2) (by decide +kernel) wd_1008 wd_51 wd_1005 wd_1007 wd_40 (ci := 8) rfl (by decide +kernel)), ?_⟩
  refine List.forall_mem_cons.mpr ⟨Or.inl ⟨rfl, (by decide +kernel), rt_int⟩, ?_⟩
  exact fun _ h => absurd h List.not_mem_nil
def tb_122 : List (Nat × ae_I) := [(0, .inl (o_il 0 1)),
  (1, .inl (o_push (.int 255) 4)),
  (4, .inl (o_dv (fun x y => x - x / y * y) 5)),
  (5, .inl (o_push (.int 1) 6)),
  (6, .inl (o_bin (fun x y => x + y) 7)),
  (7, .inr (.inl (some k_int)))]
theorem te_122 : ∀ q ∈ tb_122, ae_E am "TwinNetworkModel" "next" prog_10_method_31_code 1 (Option.some Jvm.ClassFile.FieldType.int) [] q := by
  unfold tb_122
  refine List.forall_mem_cons.mpr ⟨ae_mk pu_il (fun X => ok_iload_n X (k := 0) rfl (by decide +kernel)), ?_⟩
  refine List.forall_mem_cons.mpr ⟨ae_mk (pu_push (fun _ => trivial)) (fun X => ok_sipush X (n := 255) (by decide) (by decide +kernel)), ?_⟩
  refine List.forall_mem_cons.mpr ⟨ae_mk pu_dv (fun X => ok_irem X (by decide +kernel)), ?_⟩
  refine List.forall_mem_cons.mpr ⟨ae_mk (pu_push (fun _ => trivial)) (fun X => ok_iconst X (n := 1) (by decide) (by decide +kernel)), ?_⟩
  refine List.forall_mem_cons.mpr ⟨ae_mk pu_bin (fun X => ok_iadd X (by decide +kernel)), ?_⟩
  refine List.forall_mem_cons.mpr ⟨Or.inl ⟨rfl, (by decide +kernel), rt_int⟩, ?_⟩
  exact fun _ h => absurd h List.not_mem_nil
