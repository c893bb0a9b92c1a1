def tb_78 : List (Nat × ae_I) := [(0, .inl (o_push (.int 0) 1)),
  (1, .inl (o_is 2 2)),
  (2, .inl (o_al 0 3)),
  (3, .inl (o_get 7 0 6)),
  (6, .inl (o_as 3 7)),
  (7, .inl (o_al 3 8)),
  (8, .inl (o_len 9)),
  (9, .inl (o_is 4 11)),
  (11, .inl (o_push (.int 0) 12)),
  (12, .inl (o_is 5 14)),
  (14, .inl (o_il 5 16)),
  (16, .inl (o_il 4 18)),
  (18, .inl (o_ic (fun x y => decide (y ≤ x)) 63 21)),
  (21, .inl (o_al 3 22)),
  (22, .inl (o_il 5 24)),
  (24, .inl (o_aa 25)),
  (25, .inl (o_as 6 27)),
  (27, .inl (o_al 6 29)),
  (29, .inl (o_nul 57 32)),
  (32, .inl (o_al 6 34)),
  (34, .inl (o_il 1 35)),
  (35, .inr (.inr (.inl (56, 2, 38, some 4, [])))),
  (38, .inl (o_if (fun x => decide (x = 0)) 57 41)),
  (41, .inl (o_il 2 42)),
  (42, .inl (o_al 6 44)),
  (44, .inl (o_get 4 3 47)),
  (47, .inl (o_push (.int 8) 49)),
  (49, .inl (o_bin (fun x y => x + y) 50)),
  (50, .inl (o_push (.int 1) 51)),
  (51, .inl (o_bin (fun x y => x - y) 52)),
  (52, .inl (o_push (.int 8) 54)),
  (54, .inl (o_dv (fun x y => x / y) 55)),
  (55, .inl (o_bin (fun x y => x + y) 56)),
  (56, .inl (o_is 2 57)),
  (57, .inl (o_inc 5 1 60)),
  (60, .inl (o_goto 14)),
  (63, .inl (o_il 2 64)),
  (64, .inr (.inl (some k_int)))]
theorem te_78 : ∀ q ∈ tb_78, ae_E am "TwinNetwork" "ticksOfAllLinks" prog_1_method_26_code 7 (Option.some Jvm.ClassFile.FieldType.int) [] q := by
  unfold tb_78
  refine List.forall_mem_cons.mpr ⟨ae_mk (pu_push (fun _ => trivial)) (fun X => ok_iconst X (n := 0) (by decide) (by decide +kernel)), ?_⟩
  refine List.forall_mem_cons.mpr ⟨ae_mk pu_is (fun X => ok_istore_n X (k := 2) rfl (by decide +kernel)), ?_⟩
  refine List.forall_mem_cons.mpr ⟨ae_mk pu_al (fun X => ok_aload_n X (k := 0) rfl (by decide +kernel)), ?_⟩
  refine List.forall_mem_cons.mpr ⟨ae_mk pu_get (fun X => ok_get X (ci := 7) (kk := 0) (index := 11) rfl aw_c_Net (by decide) wd_164 (by decide +kernel)), ?_⟩
  refine List.forall_mem_cons.mpr ⟨ae_mk pu_as (fun X => ok_astore_n X (k := 3) rfl (by decide +kernel)), ?_⟩
  refine List.forall_mem_cons.mpr ⟨ae_mk pu_al (fun X => ok_aload_n X (k := 3) rfl (by decide +kernel)), ?_⟩
  refine List.forall_mem_cons.mpr ⟨ae_mk pu_len (fun X => ok_len X (by decide +kernel)), ?_⟩
  refine List.forall_mem_cons.mpr ⟨ae_mk pu_is (fun X => ok_istore X (by decide +kernel)), ?_⟩
  refine List.forall_mem_cons.mpr ⟨ae_mk (pu_push (fun _ => trivial)) (fun X => ok_iconst X (n := 0) (by decide) (by decide +kernel)), ?_⟩
  refine List.forall_mem_cons.mpr ⟨ae_mk pu_is (fun X => ok_istore X (by decide +kernel)), ?_⟩
  refine List.forall_mem_cons.mpr ⟨ae_mk pu_il (fun X => ok_iload X (by decide +kernel)), ?_⟩
  refine List.forall_mem_cons.mpr ⟨ae_mk pu_il (fun X => ok_iload X (by decide +kernel)), ?_⟩
  refine List.forall_mem_cons.mpr ⟨ae_mk pu_ic (fun X => ok_ic_ge X (off := 45) (by decide) (by decide +kernel)), ?_⟩
  refine List.forall_mem_cons.mpr ⟨ae_mk pu_al (fun X => ok_aload_n X (k := 3) rfl (by decide +kernel)), ?_⟩
  refine List.forall_mem_cons.mpr ⟨ae_mk pu_il (fun X => ok_iload X (by decide +kernel)), ?_⟩
  refine List.forall_mem_cons.mpr ⟨ae_mk pu_aa (fun X => ok_aa X (by decide +kernel)), ?_⟩
  refine List.forall_mem_cons.mpr ⟨ae_mk pu_as (fun X => ok_astore X (by decide +kernel)), ?_⟩
  refine List.forall_mem_cons.mpr ⟨ae_mk pu_al (fun X => ok_aload X (by decide +kernel)), ?_⟩
  refine List.forall_mem_cons.mpr ⟨ae_mk pu_nul (fun X => ok_ifnull X (off := 28) (by decide) (by decide +kernel)), ?_⟩
  refine List.forall_mem_cons.mpr ⟨ae_mk pu_al (fun X => ok_aload X (by decide +kernel)), ?_⟩
  refine List.forall_mem_cons.mpr ⟨ae_mk pu_il (fun X => ok_iload_n X (k := 1) rfl (by decide +kernel)), ?_⟩
  refine List.forall_mem_cons.mpr ⟨ae_mkc (fun X => ok_callV X (mid := 56) (index := 194) (y := my_56) rfl (by decide) ⟨by decide, by decide⟩ (n := 1) (by decide +kernel) wd_404 wd_57 wd_401 wd_402 wd_403 (ci := 4) rfl (by decide +kernel)), ?_⟩
  refine List.forall_mem_cons.mpr ⟨ae_mk pu_if (fun X => ok_if_eq X (off := 19) (by decide) (by decide +kernel)), ?_⟩
  refine List.forall_mem_cons.mpr ⟨ae_mk pu_il (fun X => ok_iload_n X (k := 2) rfl (by decide +kernel)), ?_⟩
  refine List.forall_mem_cons.mpr ⟨ae_mk pu_al (fun X => ok_aload X (by decide +kernel)), ?_⟩
  refine List.forall_mem_cons.mpr ⟨ae_mk pu_get (fun X => ok_getN X (ci := 4) (kk := 3) (index := 197) rfl aw_c_Link (by decide) wd_684 (by decide +kernel)), ?_⟩
  refine List.forall_mem_cons.mpr ⟨ae_mk (pu_push (fun _ => trivial)) (fun X => ok_bipush X (n := 8) (by decide) (by decide +kernel)), ?_⟩
  refine List.forall_mem_cons.mpr ⟨ae_mk pu_bin (fun X => ok_iadd X (by decide +kernel)), ?_⟩
  refine List.forall_mem_cons.mpr ⟨ae_mk (pu_push (fun _ => trivial)) (fun X => ok_iconst X (n := 1) (by decide) (by decide +kernel)), ?_⟩
  refine List.forall_mem_cons.mpr ⟨ae_mk pu_bin (fun X => ok_isub X (by decide +kernel)), ?_⟩
  refine List.forall_mem_cons.mpr ⟨ae_mk (pu_push (fun _ => trivial)) (fun X => ok_bipush X (n := 8) (by decide) (by decide +kernel)), ?_⟩
  refine List.forall_mem_cons.mpr ⟨ae_mk pu_dv (fun X => ok_idiv X (by decide +kernel)), ?_⟩
  refine List.forall_mem_cons.mpr ⟨ae_mk pu_bin (fun X => ok_iadd X (by decide +kernel)), ?_⟩
  refine List.forall_mem_cons.mpr ⟨ae_mk pu_is (fun X => ok_istore_n X (k := 2) rfl (by decide +kernel)), ?_⟩
  refine List.forall_mem_cons.mpr ⟨ae_mk pu_inc (fun X => ok_iinc X (n := 1) (by decide) (by decide +kernel)), ?_⟩
  refine List.forall_mem_cons.mpr ⟨ae_mk pu_goto (fun X => ok_goto X (off := (-46)) (by decide) (by decide +kernel)), ?_⟩
  refine List.forall_mem_cons.mpr ⟨ae_mk pu_il (fun X => ok_iload_n X (k := 2) rfl (by decide +kernel)), ?_⟩
  refine List.forall_mem_cons.mpr ⟨Or.inl ⟨rfl, (by decide +kernel), rt_int⟩, ?_⟩
  exact fun _ h => absurd h List.not_mem_nil
def tb_79 : List (Nat × ae_I) := [(0, .inl (o_al 0 1)),
  (1, .inl (o_il 1 2)),
  (2, .inl (o_il 2 3)),
  (3, .inl (o_il 3 4)),
  (4, .inl (o_il 4 6)),
  (6, .inl (o_il 5 8)),
  (8, .inl (o_il 6 10)),
  (10, .inr (.inr (.inl (80, 7, 13, some 7, [(0, 18, 7), (1, 22, 7)])))),
  (13, .inl (o_goto 24)),
  (18, .inl (o_push (.int 1) 19)),
  (19, .inr (.inl (some k_int))),
  (22, .inl (o_push (.int 2) 23)),
  (23, .inr (.inl (some k_int))),
  (24, .inl (o_push (.int 0) 25)),
  (25, .inr (.inl (some k_int)))]
theorem te_79 : ∀ q ∈ tb_79, ae_E am "TwinNetworkLaw" "link" method_3_code 8 (Option.some Jvm.ClassFile.FieldType.int) [(0, 13, 16, 13), (0, 13, 20, 15)] q := by
  unfold tb_79
  refine List.forall_mem_cons.mpr ⟨ae_mk pu_al (fun X => ok_aload_n X (k := 0) rfl (by decide +kernel)), ?_⟩
  refine List.forall_mem_cons.mpr ⟨ae_mk pu_il (fun X => ok_iload_n X (k := 1) rfl (by decide +kernel)), ?_⟩
  refine List.forall_mem_cons.mpr ⟨ae_mk pu_il (fun X => ok_iload_n X (k := 2) rfl (by decide +kernel)), ?_⟩
  refine List.forall_mem_cons.mpr ⟨ae_mk pu_il (fun X => ok_iload_n X (k := 3) rfl (by decide +kernel)), ?_⟩
  refine List.forall_mem_cons.mpr ⟨ae_mk pu_il (fun X => ok_iload X (by decide +kernel)), ?_⟩
  refine List.forall_mem_cons.mpr ⟨ae_mk pu_il (fun X => ok_iload X (by decide +kernel)), ?_⟩
  refine List.forall_mem_cons.mpr ⟨ae_mk pu_il (fun X => ok_iload X (by decide +kernel)), ?_⟩
  refine List.forall_mem_cons.mpr ⟨ae_mkx (fun X => ok_callV X (mid := 80) (index := 7) (y := my_80) rfl (by decide) ⟨by decide, by decide⟩ (n := 6) (by decide +kernel) wd_507 wd_46 wd_504 wd_505 wd_506 (ci := 7) rfl (by decide +kernel)) (List.forall_mem_cons.mpr ⟨fun X => ok_catchV X (mid := 80) (index := 7) (y := my_80) rfl (by decide) ⟨by decide, by decide⟩ (n := 6) (by decide +kernel) wd_507 wd_46 wd_504 wd_505 wd_506 (ci := 7) rfl (by decide +kernel) (x := 0) (pre := []) (suf := [(0, 13, 20, 15)]) rfl ⟨by decide, by decide⟩ (by decide) wd_502 wd_516 (Or.inl rfl) (by decide) (by decide +kernel), List.forall_mem_cons.mpr ⟨fun X => ok_catchV X (mid := 80) (index := 7) (y := my_80) rfl (by decide) ⟨by decide, by decide⟩ (n := 6) (by decide +kernel) wd_507 wd_46 wd_504 wd_505 wd_506 (ci := 7) rfl (by decide +kernel) (x := 1) (pre := [(0, 13, 16, 13)]) (suf := []) rfl ⟨by decide, by decide⟩ (by decide) wd_503 wd_578 (Or.inr ⟨rfl, _, _, _, _, rfl, by decide, by decide, by decide, wd_502⟩) (by decide) (by decide +kernel), fun _ h => absurd h List.not_mem_nil⟩⟩), ?_⟩
  refine List.forall_mem_cons.mpr ⟨ae_mk pu_goto (fun X => ok_goto X (off := 11) (by decide) (by decide +kernel)), ?_⟩
  refine List.forall_mem_cons.mpr ⟨ae_mk (pu_push (fun _ => trivial)) (fun X => ok_iconst X (n := 1) (by decide) (by decide +kernel)), ?_⟩
  refine List.forall_mem_cons.mpr ⟨Or.inl ⟨rfl, (by decide +kernel), rt_int⟩, ?_⟩
  refine List.forall_mem_cons.mpr ⟨ae_mk (pu_push (fun _ => trivial)) (fun X => ok_iconst X (n := 2) (by decide) (by decide +kernel)), ?_⟩
  refine List.forall_mem_cons.mpr ⟨Or.inl ⟨rfl, (by decide +kernel), rt_int⟩, ?_⟩
  refine List.forall_mem_cons.mpr ⟨ae_mk (pu_push (fun _ => trivial)) (fun X => ok_iconst X (n := 0) (by decide) (by decide +kernel)), ?_⟩
  refine List.forall_mem_cons.mpr ⟨Or.inl ⟨rfl, (by decide +kernel), rt_int⟩, ?_⟩
  exact fun _ h => absurd h List.not_mem_nil
def tb_80 : List (Nat × ae_I) := [(0, .inl (o_il 1 1)),
  (1, .inr (.inr (.inl (38, 1, 4, none, [])))),
  (4, .inl (o_if (fun x => decide (x = 0)) 57 7)),
  (7, .inl (o_il 2 8)),
  (8, .inr (.inr (.inl (40, 1, 11, none, [])))),
  (11, .inl (o_if (fun x => decide (x = 0)) 57 14)),
  (14, .inl (o_il 3 15)),
  (15, .inl (o_push (.int 4) 16)),
  (16, .inl (o_ic (fun x y => decide (x < y)) 57 19)),
  (19, .inl (o_il 3 20)),
  (20, .inl (o_push (.int 9) 22)),
  (22, .inl (o_ic (fun x y => decide (y < x)) 57 25)),
  (25, .inl (o_il 4 27)),
  (27, .inl (o_push (.int 64) 29)),
  (29, .inl (o_ic (fun x y => decide (x < y)) 57 32)),
  (32, .inl (o_il 4 34)),
  (34, .inl (o_push (.int 128) 37)),
  (37, .inl (o_ic (fun x y => decide (y < x)) 57 40)),
  (40, .inl (o_il 5 42)),
  (42, .inl (o_il 2 43)),
  (43, .inr (.inr (.inl (81, 2, 46, none, [])))),
  (46, .inl (o_if (fun x => decide (x = 0)) 57 49)),
  (49, .inl (o_il 6 51)),
  (51, .inr (.inr (.inl (82, 1, 54, none, [])))),
  (54, .inl (o_if (fun x => decide (¬ x = 0)) 65 57)),
  (57, .inr (.inr (.inr (0, 1, 6)))),
  (65, .inl (o_al 0 66)),
  (66, .inl (o_get 7 0 69)),
  (69, .inl (o_il 1 70)),
  (70, .inl (o_aa 71)),
  (71, .inl (o_nul 82 74)),
  (74, .inr (.inr (.inr (1, 1, 6)))),
  (82, .inl (o_al 0 83)),
  (83, .inl (o_get 7 0 86)),
  (86, .inl (o_il 1 87)),
  (87, .inl (o_new 4 15 cd_Link 90)),
  (90, .inl (o_dup 91)),
  (91, .inl (o_il 1 92)),
  (92, .inl (o_il 2 93)),
  (93, .inl (o_push (.int 1) 94)),
  (94, .inl (o_il 3 95)),
  (95, .inl (o_bin (fun x y => x <<< (y &&& 31)) 96)),
  (96, .inl (o_il 4 98)),
  (98, .inl (o_il 5 100)),
  (100, .inl (o_il 6 102)),
  (102, .inr (.inr (.inl (83, 7, 105, some 4, [])))),
  (105, .inl (o_aas 106)),
  (106, .inr (.inl none))]
theorem te_80 : ∀ q ∈ tb_80, ae_E am "TwinNetwork" "link" prog_1_method_2_code 7 (Option.none : Option Jvm.ClassFile.FieldType) [] q := by
  unfold tb_80
  refine List.forall_mem_cons.mpr ⟨ae_mk pu_il (fun X => ok_iload_n X (k := 1) rfl (by decide +kernel)), ?_⟩
  refine List.forall_mem_cons.mpr ⟨ae_mkc (fun X => ok_callS X (mid := 38) (index := 46) (y := my_38) rfl (by decide) ⟨by decide, by decide⟩ (n := 1) (by decide +kernel) wd_328 wd_46 wd_326 wd_327 (by decide +kernel)), ?_⟩
  refine List.forall_mem_cons.mpr ⟨ae_mk pu_if (fun X => ok_if_eq X (off := 53) (by decide) (by decide +kernel)), ?_⟩
  refine List.forall_mem_cons.mpr ⟨ae_mk pu_il (fun X => ok_iload_n X (k := 2) rfl (by decide +kernel)), ?_⟩
  refine List.forall_mem_cons.mpr ⟨ae_mkc (fun X => ok_callS X (mid := 40) (index := 50) (y := my_40) rfl (by decide) ⟨by decide, by decide⟩ (n := 1) (by decide +kernel) wd_335 wd_46 wd_462 wd_334 (by decide +kernel)), ?_⟩
  refine List.forall_mem_cons.mpr ⟨ae_mk pu_if (fun X => ok_if_eq X (off := 46) (by decide) (by decide +kernel)), ?_⟩
  refine List.forall_mem_cons.mpr ⟨ae_mk pu_il (fun X => ok_iload_n X (k := 3) rfl (by decide +kernel)), ?_⟩
  refine List.forall_mem_cons.mpr ⟨ae_mk (pu_push (fun _ => trivial)) (fun X => ok_iconst X (n := 4) (by decide) (by decide +kernel)), ?_⟩
  refine List.forall_mem_cons.mpr ⟨ae_mk pu_ic (fun X => ok_ic_lt X (off := 41) (by decide) (by decide +kernel)), ?_⟩
  refine List.forall_mem_cons.mpr ⟨ae_mk pu_il (fun X => ok_iload_n X (k := 3) rfl (by decide +kernel)), ?_⟩
  refine List.forall_mem_cons.mpr ⟨ae_mk (pu_push (fun _ => trivial)) (fun X => ok_bipush X (n := 9) (by decide) (by decide +kernel)), ?_⟩
  refine List.forall_mem_cons.mpr ⟨ae_mk pu_ic (fun X => ok_ic_gt X (off := 35) (by decide) (by decide +kernel)), ?_⟩
  refine List.forall_mem_cons.mpr ⟨ae_mk pu_il (fun X => ok_iload X (by decide +kernel)), ?_⟩
  refine List.forall_mem_cons.mpr ⟨ae_mk (pu_push (fun _ => trivial)) (fun X => ok_bipush X (n := 64) (by decide) (by decide +kernel)), ?_⟩
  refine List.forall_mem_cons.mpr ⟨ae_mk pu_ic (fun X => ok_ic_lt X (off := 28) (by decide) (by decide +kernel)), ?_⟩
  refine List.forall_mem_cons.mpr ⟨ae_mk pu_il (fun X => ok_iload X (by decide +kernel)), ?_⟩
  refine List.forall_mem_cons.mpr ⟨ae_mk (pu_push (fun _ => trivial)) (fun X => ok_sipush X (n := 128) (by decide) (by decide +kernel)), ?_⟩
  refine List.forall_mem_cons.mpr ⟨ae_mk pu_ic (fun X => ok_ic_gt X (off := 20) (by decide) (by decide +kernel)), ?_⟩
  refine List.forall_mem_cons.mpr ⟨ae_mk pu_il (fun X => ok_iload X (by decide +kernel)), ?_⟩
  refine List.forall_mem_cons.mpr ⟨ae_mk pu_il (fun X => ok_iload_n X (k := 2) rfl (by decide +kernel)), ?_⟩
  refine List.forall_mem_cons.mpr ⟨ae_mkc (fun X => ok_callS X (mid := 81) (index := 53) (y := my_81) rfl (by decide) ⟨by decide, by decide⟩ (n := 2) (by decide +kernel) wd_510 wd_46 wd_508 wd_509 (by decide +kernel)), ?_⟩
  refine List.forall_mem_cons.mpr ⟨ae_mk pu_if (fun X => ok_if_eq X (off := 11) (by decide) (by decide +kernel)), ?_⟩
  refine List.forall_mem_cons.mpr ⟨ae_mk pu_il (fun X => ok_iload X (by decide +kernel)), ?_⟩
  refine List.forall_mem_cons.mpr ⟨ae_mkc (fun X => ok_callS X (mid := 82) (index := 57) (y := my_82) rfl (by decide) ⟨by decide, by decide⟩ (n := 1) (by decide +kernel) wd_513 wd_46 wd_511 wd_512 (by decide +kernel)), ?_⟩
  refine List.forall_mem_cons.mpr ⟨ae_mk pu_if (fun X => ok_if_ne X (off := 11) (by decide) (by decide +kernel)), ?_⟩
  refine List.forall_mem_cons.mpr ⟨⟨rfl, rfl, 60, 62, by decide +kernel, by decide +kernel, by decide +kernel, by decide +kernel, wd_514, wd_55, ae_tw (by decide +kernel), rfl, by decide +kernel⟩, ?_⟩
  refine List.forall_mem_cons.mpr ⟨ae_mk pu_al (fun X => ok_aload_n X (k := 0) rfl (by decide +kernel)), ?_⟩
  refine List.forall_mem_cons.mpr ⟨ae_mk pu_get (fun X => ok_get X (ci := 7) (kk := 0) (index := 11) rfl aw_c_Net (by decide) wd_164 (by decide +kernel)), ?_⟩
  refine List.forall_mem_cons.mpr ⟨ae_mk pu_il (fun X => ok_iload_n X (k := 1) rfl (by decide +kernel)), ?_⟩
  refine List.forall_mem_cons.mpr ⟨ae_mk pu_aa (fun X => ok_aa X (by decide +kernel)), ?_⟩
  refine List.forall_mem_cons.mpr ⟨ae_mk pu_nul (fun X => ok_ifnull X (off := 11) (by decide) (by decide +kernel)), ?_⟩
  refine List.forall_mem_cons.mpr ⟨⟨rfl, rfl, 63, 65, by decide +kernel, by decide +kernel, by decide +kernel, by decide +kernel, wd_576, wd_56, ae_tw (by decide +kernel), rfl, by decide +kernel⟩, ?_⟩
  refine List.forall_mem_cons.mpr ⟨ae_mk pu_al (fun X => ok_aload_n X (k := 0) rfl (by decide +kernel)), ?_⟩
  refine List.forall_mem_cons.mpr ⟨ae_mk pu_get (fun X => ok_get X (ci := 7) (kk := 0) (index := 11) rfl aw_c_Net (by decide) wd_164 (by decide +kernel)), ?_⟩
  refine List.forall_mem_cons.mpr ⟨ae_mk pu_il (fun X => ok_iload_n X (k := 1) rfl (by decide +kernel)), ?_⟩
  refine List.forall_mem_cons.mpr ⟨ae_mk (pu_new cd_Link_cv) (fun X => ok_new X (ci := 4) (index := 9) (fs := cd_Link) rfl aw_c_Link cy_Link cn_Link_ty wd_70 wd_591 wd_57 cd_Link_v (fun _ _ => rfl) cd_Link_cv (by decide +kernel)), ?_⟩
  refine List.forall_mem_cons.mpr ⟨ae_mk pu_dup (fun X => ok_dup X (by decide +kernel)), ?_⟩
  refine List.forall_mem_cons.mpr ⟨ae_mk pu_il (fun X => ok_iload_n X (k := 1) rfl (by decide +kernel)), ?_⟩
  refine List.forall_mem_cons.mpr ⟨ae_mk pu_il (fun X => ok_iload_n X (k := 2) rfl (by decide +kernel)), ?_⟩
  refine List.forall_mem_cons.mpr ⟨ae_mk (pu_push (fun _ => trivial)) (fun X => ok_iconst X (n := 1) (by decide) (by decide +kernel)), ?_⟩
  refine List.forall_mem_cons.mpr ⟨ae_mk pu_il (fun X => ok_iload_n X (k := 3) rfl (by decide +kernel)), ?_⟩
  refine List.forall_mem_cons.mpr ⟨ae_mk pu_bin (fun X => ok_ishl X (by decide +kernel)), ?_⟩
  refine List.forall_mem_cons.mpr ⟨ae_mk pu_il (fun X => ok_iload X (by decide +kernel)), ?_⟩
  refine List.forall_mem_cons.mpr ⟨ae_mk pu_il (fun X => ok_iload X (by decide +kernel)), ?_⟩
  refine List.forall_mem_cons.mpr ⟨ae_mk pu_il (fun X => ok_iload X (by decide +kernel)), ?_⟩
  refine List.forall_mem_cons.mpr ⟨ae_mkc (fun X => ok_callI X (mid := 83) (index := 66) (y := my_83) rfl (by decide) ⟨by decide, by decide⟩ (n := 6) (by decide +kernel) wd_594 wd_57 wd_592 wd_593 rfl rfl (ci := 4) (by decide +kernel)), ?_⟩
  refine List.forall_mem_cons.mpr ⟨ae_mk pu_aas (fun X => ok_aas X (by decide +kernel)), ?_⟩
  refine List.forall_mem_cons.mpr ⟨⟨rfl, (by decide +kernel)⟩, ?_⟩
  exact fun _ h => absurd h List.not_mem_nil
def tb_81 : List (Nat × ae_I) := [(0, .inl (o_il 0 1)),
  (1, .inl (o_if (fun x => decide (x ≤ 0)) 22 4)),
  (4, .inl (o_il 0 5)),
  (5, .inl (o_push (.int 16) 7)),
  (7, .inl (o_ic (fun x y => decide (y ≤ x)) 22 10)),
  (10, .inl (o_il 0 11)),
  (11, .inl (o_il 1 12)),
  (12, .inl (o_bin (fun x y => x >>> (y &&& 31)) 13)),
  (13, .inl (o_push (.int 1) 14)),
  (14, .inl (o_bin (fun x y => x &&& y) 15)),
  (15, .inl (o_if (fun x => decide (¬ x = 0)) 22 18)),
  (18, .inl (o_push (.int 1) 19)),
  (19, .inl (o_goto 23)),
  (22, .inl (o_push (.int 0) 23)),
  (23, .inr (.inl (some k_bool)))]
theorem te_81 : ∀ q ∈ tb_81, ae_E am "TwinNetwork" "areTargets" prog_1_method_19_code 2 (Option.some Jvm.ClassFile.FieldType.boolean) [] q := by
  unfold tb_81
  refine List.forall_mem_cons.mpr ⟨ae_mk pu_il (fun X => ok_iload_n X (k := 0) rfl (by decide +kernel)), ?_⟩
  refine List.forall_mem_cons.mpr ⟨ae_mk pu_if (fun X => ok_if_le X (off := 21) (by decide) (by decide +kernel)), ?_⟩
  refine List.forall_mem_cons.mpr ⟨ae_mk pu_il (fun X => ok_iload_n X (k := 0) rfl (by decide +kernel)), ?_⟩
  refine List.forall_mem_cons.mpr ⟨ae_mk (pu_push (fun _ => trivial)) (fun X => ok_bipush X (n := 16) (by decide) (by decide +kernel)), ?_⟩
  refine List.forall_mem_cons.mpr ⟨ae_mk pu_ic (fun X => ok_ic_ge X (off := 15) (by decide) (by decide +kernel)), ?_⟩
  refine List.forall_mem_cons.mpr ⟨ae_mk pu_il (fun X => ok_iload_n X (k := 0) rfl (by decide +kernel)), ?_⟩
  refine List.forall_mem_cons.mpr ⟨ae_mk pu_il (fun X => ok_iload_n X (k := 1) rfl (by decide +kernel)), ?_⟩
  refine List.forall_mem_cons.mpr ⟨ae_mk pu_bin (fun X => ok_ishr X (by decide +kernel)), ?_⟩
  refine List.forall_mem_cons.mpr ⟨ae_mk (pu_push (fun _ => trivial)) (fun X => ok_iconst X (n := 1) (by decide) (by decide +kernel)), ?_⟩
  refine List.forall_mem_cons.mpr ⟨ae_mk pu_bin (fun X => ok_iand X (by decide +kernel)), ?_⟩
  refine List.forall_mem_cons.mpr ⟨ae_mk pu_if (fun X => ok_if_ne X (off := 7) (by decide) (by decide +kernel)), ?_⟩
  refine List.forall_mem_cons.mpr ⟨ae_mk (pu_push (fun _ => trivial)) (fun X => ok_iconst X (n := 1) (by decide) (by decide +kernel)), ?_⟩
  refine List.forall_mem_cons.mpr ⟨ae_mk pu_goto (fun X => ok_goto X (off := 4) (by decide) (by decide +kernel)), ?_⟩
  refine List.forall_mem_cons.mpr ⟨ae_mk (pu_push (fun _ => trivial)) (fun X => ok_iconst X (n := 0) (by decide) (by decide +kernel)), ?_⟩
  refine List.forall_mem_cons.mpr ⟨Or.inr (Or.inl ⟨rfl, (by decide +kernel), rt_bool⟩), ?_⟩
  exact fun _ h => absurd h List.not_mem_nil
def tb_82 : List (Nat × ae_I) := [(0, .inl (o_il 0 1)),
  (1, .inl (o_push (.int 2) 2)),
  (2, .inl (o_bin (fun x y => x >>> (y &&& 31)) 3)),
  (3, .inl (o_push (.int 1) 4)),
  (4, .inl (o_ic (fun x y => decide (x < y)) 20 7)),
  (7, .inl (o_il 0 8)),
  (8, .inl (o_push (.int 2) 9)),
  (9, .inl (o_bin (fun x y => x >>> (y &&& 31)) 10)),
  (10, .inl (o_push (.int 1000) 13)),
  (13, .inl (o_ic (fun x y => decide (y < x)) 20 16)),
  (16, .inl (o_push (.int 1) 17)),
  (17, .inl (o_goto 21)),
  (20, .inl (o_push (.int 0) 21)),
  (21, .inr (.inl (some k_bool)))]
theorem te_82 : ∀ q ∈ tb_82, ae_E am "TwinNetwork" "areFlags" prog_1_method_20_code 1 (Option.some Jvm.ClassFile.FieldType.boolean) [] q := by
  unfold tb_82
  refine List.forall_mem_cons.mpr ⟨ae_mk pu_il (fun X => ok_iload_n X (k := 0) rfl (by decide +kernel)), ?_⟩
  refine List.forall_mem_cons.mpr ⟨ae_mk (pu_push (fun _ => trivial)) (fun X => ok_iconst X (n := 2) (by decide) (by decide +kernel)), ?_⟩
  refine List.forall_mem_cons.mpr ⟨ae_mk pu_bin (fun X => ok_ishr X (by decide +kernel)), ?_⟩
  refine List.forall_mem_cons.mpr ⟨ae_mk (pu_push (fun _ => trivial)) (fun X => ok_iconst X (n := 1) (by decide) (by decide +kernel)), ?_⟩
  refine List.forall_mem_cons.mpr ⟨ae_mk pu_ic (fun X => ok_ic_lt X (off := 16) (by decide) (by decide +kernel)), ?_⟩
  refine List.forall_mem_cons.mpr ⟨ae_mk pu_il (fun X => ok_iload_n X (k := 0) rfl (by decide +kernel)), ?_⟩
  refine List.forall_mem_cons.mpr ⟨ae_mk (pu_push (fun _ => trivial)) (fun X => ok_iconst X (n := 2) (by decide) (by decide +kernel)), ?_⟩
  refine List.forall_mem_cons.mpr ⟨ae_mk pu_bin (fun X => ok_ishr X (by decide +kernel)), ?_⟩
  refine List.forall_mem_cons.mpr ⟨ae_mk (pu_push (fun _ => trivial)) (fun X => ok_sipush X (n := 1000) (by decide) (by decide +kernel)), ?_⟩
  refine List.forall_mem_cons.mpr ⟨ae_mk pu_ic (fun X => ok_ic_gt X (off := 7) (by decide) (by decide +kernel)), ?_⟩
  refine List.forall_mem_cons.mpr ⟨ae_mk (pu_push (fun _ => trivial)) (fun X => ok_iconst X (n := 1) (by decide) (by decide +kernel)), ?_⟩
  refine List.forall_mem_cons.mpr ⟨ae_mk pu_goto (fun X => ok_goto X (off := 4) (by decide) (by decide +kernel)), ?_⟩
  refine List.forall_mem_cons.mpr ⟨ae_mk (pu_push (fun _ => trivial)) (fun X => ok_iconst X (n := 0) (by decide) (by decide +kernel)), ?_⟩
  refine List.forall_mem_cons.mpr ⟨Or.inr (Or.inl ⟨rfl, (by decide +kernel), rt_bool⟩), ?_⟩
  exact fun _ h => absurd h List.not_mem_nil
def tb_83 : List (Nat × ae_I) := [(0, .inl (o_al 0 1)),
  (1, .inl (o_oi 4)),
  (4, .inl (o_al 0 5)),
  (5, .inl (o_push (.int 4) 6)),
  (6, .inl (o_nq 7 9)),
  (9, .inl (o_put 4 7 k_ref 12)),
  (12, .inl (o_al 0 13)),
  (13, .inl (o_push (.int 2) 14)),
  (14, .inl (o_na 0 16)),
  (16, .inl (o_put 4 8 k_ref 19)),
  (19, .inl (o_al 0 20)),
  (20, .inl (o_push (.int 8) 22)),
  (22, .inl (o_nq 8 25)),
  (25, .inl (o_put 4 9 k_ref 28)),
  (28, .inl (o_al 0 29)),
  (29, .inl (o_push (.int 0) 30)),
  (30, .inl (o_put 4 10 k_int 33)),
  (33, .inl (o_al 0 34)),
  (34, .inl (o_push (.int 0) 35)),
  (35, .inl (o_put 4 11 k_int 38)),
  (38, .inl (o_al 0 39)),
  (39, .inl (o_push (.int 0) 40)),
  (40, .inl (o_put 4 12 k_int 43)),
  (43, .inl (o_al 0 44)),
  (44, .inl (o_push (.int (-1)) 45)),
  (45, .inl (o_put 4 13 k_int 48)),
  (48, .inl (o_al 0 49)),
  (49, .inl (o_push (.int 0) 50)),
  (50, .inl (o_put 4 14 k_int 53)),
  (53, .inl (o_al 0 54)),
  (54, .inl (o_il 1 55)),
  (55, .inl (o_put 4 0 k_int 58)),
  (58, .inl (o_al 0 59)),
  (59, .inl (o_il 2 60)),
  (60, .inl (o_put 4 1 k_int 63)),
  (63, .inl (o_al 0 64)),
  (64, .inl (o_il 3 65)),
  (65, .inl (o_put 4 2 k_int 68)),
  (68, .inl (o_al 0 69)),
  (69, .inl (o_il 4 71)),
  (71, .inl (o_put 4 3 k_int 74)),
  (74, .inl (o_al 0 75)),
  (75, .inl (o_il 6 77)),
  (77, .inl (o_push (.int 1) 78)),
  (78, .inl (o_bin (fun x y => x &&& y) 79)),
  (79, .inl (o_if (fun x => decide (x = 0)) 86 82)),
  (82, .inl (o_push (.int 1) 83)),
  (83, .inl (o_goto 87)),
  (86, .inl (o_push (.int 0) 87)),
  (87, .inl (o_put 4 4 k_bool 90)),
  (90, .inl (o_al 0 91)),
  (91, .inl (o_il 6 93)),
  (93, .inl (o_push (.int 2) 94)),
  (94, .inl (o_bin (fun x y => x &&& y) 95)),
  (95, .inl (o_if (fun x => decide (x = 0)) 102 98)),
  (98, .inl (o_push (.int 1) 99)),
  (99, .inl (o_goto 103)),
  (102, .inl (o_push (.int 0) 103)),
  (103, .inl (o_put 4 5 k_bool 106)),
  (106, .inl (o_push (.int 0) 107)),
  (107, .inl (o_is 7 109)),
  (109, .inl (o_push (.int 0) 110)),
  (110, .inl (o_is 8 112)),
  (112, .inl (o_il 8 114)),
  (114, .inl (o_push (.int 4) 115)),
  (115, .inl (o_ic (fun x y => decide (y ≤ x)) 167 118)),
  (118, .inl (o_il 5 120)),
  (120, .inl (o_il 8 122)),
  (122, .inl (o_bin (fun x y => x >>> (y &&& 31)) 123)),
  (123, .inl (o_push (.int 1) 124)),
  (124, .inl (o_bin (fun x y => x &&& y) 125)),
  (125, .inl (o_if (fun x => decide (x = 0)) 161 128)),
  (128, .inl (o_il 7 130)),
  (130, .inl (o_il 2 131)),
  (131, .inl (o_il 8 133)),
  (133, .inr (.inr (.inl (76, 2, 136, none, [])))),
  (136, .inl (o_bin (fun x y => x ||| y) 137)),
  (137, .inl (o_is 7 139)),
  (139, .inl (o_al 0 140)),
  (140, .inl (o_get 4 7 143)),
  (143, .inl (o_il 8 145)),
  (145, .inl (o_new 5 12 cd_Port 148)),
  (148, .inl (o_dup 149)),
  (149, .inl (o_al 0 150)),
  (150, .inl (o_get 4 5 153)),
  (153, .inl (o_il 6 155)),
  (155, .inl (o_push (.int 2) 156)),
  (156, .inl (o_bin (fun x y => x >>> (y &&& 31)) 157)),
  (157, .inr (.inr (.inl (84, 3, 160, some 5, [])))),
  (160, .inl (o_aas 161)),
  (161, .inl (o_inc 8 1 164)),
  (164, .inl (o_goto 112)),
  (167, .inl (o_al 0 168)),
  (168, .inl (o_il 7 170)),
  (170, .inl (o_put 4 6 k_int 173)),
  (173, .inl (o_push (.int 0) 174)),
  (174, .inl (o_is 8 176)),
  (176, .inl (o_il 8 178)),
  (178, .inl (o_push (.int 8) 180)),
  (180, .inl (o_ic (fun x y => decide (y ≤ x)) 203 183)),
  (183, .inl (o_al 0 184)),
  (184, .inl (o_get 4 9 187)),
  (187, .inl (o_il 8 189)),
  (189, .inl (o_new 1 6 cd_Fragment 192)),
  (192, .inl (o_dup 193)),
  (193, .inr (.inr (.inl (85, 1, 196, some 1, [])))),
  (196, .inl (o_aas 197)),
  (197, .inl (o_inc 8 1 200)),
  (200, .inl (o_goto 176)),
  (203, .inl (o_push (.int 0) 204)),
  (204, .inl (o_is 8 206)),
  (206, .inl (o_il 8 208)),
  (208, .inl (o_push (.int 2) 209)),
  (209, .inl (o_ic (fun x y => decide (y ≤ x)) 232 212)),
  (212, .inl (o_al 0 213)),
  (213, .inl (o_get 4 8 216)),
  (216, .inl (o_il 8 218)),
  (218, .inl (o_il 4 220)),
  (220, .inl (o_il 3 221)),
  (221, .inl (o_push (.int 64) 223)),
  (223, .inl (o_bin (fun x y => x + y) 224)),
  (224, .inl (o_bin (fun x y => x * y) 225)),
  (225, .inl (o_ias 226)),
  (226, .inl (o_inc 8 1 229)),
  (229, .inl (o_goto 206)),
  (232, .inr (.inl none))]
theorem te_83 : ∀ q ∈ tb_83, ae_E am "TwinNetwork$Link" "<init>" prog_6_method_1_code 9 (Option.none : Option Jvm.ClassFile.FieldType) [] q := by
  unfold tb_83
  refine List.forall_mem_cons.mpr ⟨ae_mk pu_al (fun X => ok_aload_n X (k := 0) rfl (by decide +kernel)), ?_⟩
  refine List.forall_mem_cons.mpr ⟨ae_mk pu_oi (fun X => ok_oi X (index := 3) wd_595 aw_oi2 aw_oi3 (by decide +kernel)), ?_⟩
  refine List.forall_mem_cons.mpr ⟨ae_mk pu_al (fun X => ok_aload_n X (k := 0) rfl (by decide +kernel)), ?_⟩
  refine List.forall_mem_cons.mpr ⟨ae_mk (pu_push (fun _ => trivial)) (fun X => ok_iconst X (n := 4) (by decide) (by decide +kernel)), ?_⟩
  refine List.forall_mem_cons.mpr ⟨ae_mk pu_nq (fun X => ok_nq X (t := 7) (index := 9) (fun _ => rfl) wd_596 wd_597 (by decide +kernel)), ?_⟩
  refine List.forall_mem_cons.mpr ⟨ae_mk pu_put (fun X => ok_putF X (ci := 4) (kk := 7) (index := 11) rfl aw_c_Link (by decide) wd_689 cy_Link cn_Link_ty cn_Link_nm rfl hk_arr rfl rfl rfl (by decide +kernel)), ?_⟩
  refine List.forall_mem_cons.mpr ⟨ae_mk pu_al (fun X => ok_aload_n X (k := 0) rfl (by decide +kernel)), ?_⟩
  refine List.forall_mem_cons.mpr ⟨ae_mk (pu_push (fun _ => trivial)) (fun X => ok_iconst X (n := 2) (by decide) (by decide +kernel)), ?_⟩
  refine List.forall_mem_cons.mpr ⟨ae_mk pu_na (fun X => ok_na X (atype := .int) (t := 0) rfl (fun _ => rfl) wd_89 (fun _ _ => rfl) (by decide) (fun _ _ => rfl) (by decide +kernel)), ?_⟩
  refine List.forall_mem_cons.mpr ⟨ae_mk pu_put (fun X => ok_putF X (ci := 4) (kk := 8) (index := 17) rfl aw_c_Link (by decide) wd_690 cy_Link cn_Link_ty cn_Link_nm rfl hk_arr rfl rfl rfl (by decide +kernel)), ?_⟩
  refine List.forall_mem_cons.mpr ⟨ae_mk pu_al (fun X => ok_aload_n X (k := 0) rfl (by decide +kernel)), ?_⟩
  refine List.forall_mem_cons.mpr ⟨ae_mk (pu_push (fun _ => trivial)) (fun X => ok_bipush X (n := 8) (by decide) (by decide +kernel)), ?_⟩
  refine List.forall_mem_cons.mpr ⟨ae_mk pu_nq (fun X => ok_nq X (t := 8) (index := 21) (fun _ => rfl) wd_598 wd_599 (by decide +kernel)), ?_⟩
  refine List.forall_mem_cons.mpr ⟨ae_mk pu_put (fun X => ok_putF X (ci := 4) (kk := 9) (index := 23) rfl aw_c_Link (by decide) wd_692 cy_Link cn_Link_ty cn_Link_nm rfl hk_arr rfl rfl rfl (by decide +kernel)), ?_⟩
  refine List.forall_mem_cons.mpr ⟨ae_mk pu_al (fun X => ok_aload_n X (k := 0) rfl (by decide +kernel)), ?_⟩
  refine List.forall_mem_cons.mpr ⟨ae_mk (pu_push (fun _ => trivial)) (fun X => ok_iconst X (n := 0) (by decide) (by decide +kernel)), ?_⟩
  refine List.forall_mem_cons.mpr ⟨ae_mk pu_put (fun X => ok_put X (ci := 4) (kk := 10) (index := 27) rfl aw_c_Link (by decide) wd_693 cy_Link cn_Link_ty cn_Link_nm rfl hk_int rfl (by decide +kernel)), ?_⟩
  refine List.forall_mem_cons.mpr ⟨ae_mk pu_al (fun X => ok_aload_n X (k := 0) rfl (by decide +kernel)), ?_⟩
  refine List.forall_mem_cons.mpr ⟨ae_mk (pu_push (fun _ => trivial)) (fun X => ok_iconst X (n := 0) (by decide) (by decide +kernel)), ?_⟩
  refine List.forall_mem_cons.mpr ⟨ae_mk pu_put (fun X => ok_put X (ci := 4) (kk := 11) (index := 31) rfl aw_c_Link (by decide) wd_694 cy_Link cn_Link_ty cn_Link_nm rfl hk_int rfl (by decide +kernel)), ?_⟩
  refine List.forall_mem_cons.mpr ⟨ae_mk pu_al (fun X => ok_aload_n X (k := 0) rfl (by decide +kernel)), ?_⟩
  refine List.forall_mem_cons.mpr ⟨ae_mk (pu_push (fun _ => trivial)) (fun X => ok_iconst X (n := 0) (by decide) (by decide +kernel)), ?_⟩
  refine List.forall_mem_cons.mpr ⟨ae_mk pu_put (fun X => ok_put X (ci := 4) (kk := 12) (index := 34) rfl aw_c_Link (by decide) wd_696 cy_Link cn_Link_ty cn_Link_nm rfl hk_int rfl (by decide +kernel)), ?_⟩
  refine List.forall_mem_cons.mpr ⟨ae_mk pu_al (fun X => ok_aload_n X (k := 0) rfl (by decide +kernel)), ?_⟩
  refine List.forall_mem_cons.mpr ⟨ae_mk (pu_push (fun _ => trivial)) (fun X => ok_iconst X (n := (-1)) (by decide) (by decide +kernel)), ?_⟩
  refine List.forall_mem_cons.mpr ⟨ae_mk pu_put (fun X => ok_put X (ci := 4) (kk := 13) (index := 37) rfl aw_c_Link (by decide) wd_697 cy_Link cn_Link_ty cn_Link_nm rfl hk_int rfl (by decide +kernel)), ?_⟩
  refine List.forall_mem_cons.mpr ⟨ae_mk pu_al (fun X => ok_aload_n X (k := 0) rfl (by decide +kernel)), ?_⟩
  refine List.forall_mem_cons.mpr ⟨ae_mk (pu_push (fun _ => trivial)) (fun X => ok_iconst X (n := 0) (by decide) (by decide +kernel)), ?_⟩
  refine List.forall_mem_cons.mpr ⟨ae_mk pu_put (fun X => ok_put X (ci := 4) (kk := 14) (index := 40) rfl aw_c_Link (by decide) wd_698 cy_Link cn_Link_ty cn_Link_nm rfl hk_int rfl (by decide +kernel)), ?_⟩
  refine List.forall_mem_cons.mpr ⟨ae_mk pu_al (fun X => ok_aload_n X (k := 0) rfl (by decide +kernel)), ?_⟩
  refine List.forall_mem_cons.mpr ⟨ae_mk pu_il (fun X => ok_iload_n X (k := 1) rfl (by decide +kernel)), ?_⟩
  refine List.forall_mem_cons.mpr ⟨ae_mk pu_put (fun X => ok_putF X (ci := 4) (kk := 0) (index := 43) rfl aw_c_Link (by decide) wd_677 cy_Link cn_Link_ty cn_Link_nm rfl hk_int rfl rfl rfl (by decide +kernel)), ?_⟩
  refine List.forall_mem_cons.mpr ⟨ae_mk pu_al (fun X => ok_aload_n X (k := 0) rfl (by decide +kernel)), ?_⟩
  refine List.forall_mem_cons.mpr ⟨ae_mk pu_il (fun X => ok_iload_n X (k := 2) rfl (by decide +kernel)), ?_⟩
  refine List.forall_mem_cons.mpr ⟨ae_mk pu_put (fun X => ok_putF X (ci := 4) (kk := 1) (index := 46) rfl aw_c_Link (by decide) wd_679 cy_Link cn_Link_ty cn_Link_nm rfl hk_int rfl rfl rfl (by decide +kernel)), ?_⟩
  refine List.forall_mem_cons.mpr ⟨ae_mk pu_al (fun X => ok_aload_n X (k := 0) rfl (by decide +kernel)), ?_⟩
  refine List.forall_mem_cons.mpr ⟨ae_mk pu_il (fun X => ok_iload_n X (k := 3) rfl (by decide +kernel)), ?_⟩
  refine List.forall_mem_cons.mpr ⟨ae_mk pu_put (fun X => ok_putF X (ci := 4) (kk := 2) (index := 49) rfl aw_c_Link (by decide) wd_681 cy_Link cn_Link_ty cn_Link_nm rfl hk_int rfl rfl rfl (by decide +kernel)), ?_⟩
  refine List.forall_mem_cons.mpr ⟨ae_mk pu_al (fun X => ok_aload_n X (k := 0) rfl (by decide +kernel)), ?_⟩
  refine List.forall_mem_cons.mpr ⟨ae_mk pu_il (fun X => ok_iload X (by decide +kernel)), ?_⟩
  refine List.forall_mem_cons.mpr ⟨ae_mk pu_put (fun X => ok_putF X (ci := 4) (kk := 3) (index := 52) rfl aw_c_Link (by decide) wd_683 cy_Link cn_Link_ty cn_Link_nm rfl hk_int rfl rfl rfl (by decide +kernel)), ?_⟩
  refine List.forall_mem_cons.mpr ⟨ae_mk pu_al (fun X => ok_aload_n X (k := 0) rfl (by decide +kernel)), ?_⟩
  refine List.forall_mem_cons.mpr ⟨ae_mk pu_il (fun X => ok_iload X (by decide +kernel)), ?_⟩
  refine List.forall_mem_cons.mpr ⟨ae_mk (pu_push (fun _ => trivial)) (fun X => ok_iconst X (n := 1) (by decide) (by decide +kernel)), ?_⟩
  refine List.forall_mem_cons.mpr ⟨ae_mk pu_bin (fun X => ok_iand X (by decide +kernel)), ?_⟩
  refine List.forall_mem_cons.mpr ⟨ae_mk pu_if (fun X => ok_if_eq X (off := 7) (by decide) (by decide +kernel)), ?_⟩
  refine List.forall_mem_cons.mpr ⟨ae_mk (pu_push (fun _ => trivial)) (fun X => ok_iconst X (n := 1) (by decide) (by decide +kernel)), ?_⟩
  refine List.forall_mem_cons.mpr ⟨ae_mk pu_goto (fun X => ok_goto X (off := 4) (by decide) (by decide +kernel)), ?_⟩
  refine List.forall_mem_cons.mpr ⟨ae_mk (pu_push (fun _ => trivial)) (fun X => ok_iconst X (n := 0) (by decide) (by decide +kernel)), ?_⟩
  refine List.forall_mem_cons.mpr ⟨ae_mk pu_put (fun X => ok_putF X (ci := 4) (kk := 4) (index := 55) rfl aw_c_Link (by decide) wd_685 cy_Link cn_Link_ty cn_Link_nm rfl hk_bool rfl rfl rfl (by decide +kernel)), ?_⟩
  refine List.forall_mem_cons.mpr ⟨ae_mk pu_al (fun X => ok_aload_n X (k := 0) rfl (by decide +kernel)), ?_⟩
  refine List.forall_mem_cons.mpr ⟨ae_mk pu_il (fun X => ok_iload X (by decide +kernel)), ?_⟩
  refine List.forall_mem_cons.mpr ⟨ae_mk (pu_push (fun _ => trivial)) (fun X => ok_iconst X (n := 2) (by decide) (by decide +kernel)), ?_⟩
  refine List.forall_mem_cons.mpr ⟨ae_mk pu_bin (fun X => ok_iand X (by decide +kernel)), ?_⟩
  refine List.forall_mem_cons.mpr ⟨ae_mk pu_if (fun X => ok_if_eq X (off := 7) (by decide) (by decide +kernel)), ?_⟩
  refine List.forall_mem_cons.mpr ⟨ae_mk (pu_push (fun _ => trivial)) (fun X => ok_iconst X (n := 1) (by decide) (by decide +kernel)), ?_⟩
  refine List.forall_mem_cons.mpr ⟨ae_mk pu_goto (fun X => ok_goto X (off := 4) (by decide) (by decide +kernel)), ?_⟩
  refine List.forall_mem_cons.mpr ⟨ae_mk (pu_push (fun _ => trivial)) (fun X => ok_iconst X (n := 0) (by decide) (by decide +kernel)), ?_⟩
  refine List.forall_mem_cons.mpr ⟨ae_mk pu_put (fun X => ok_putF X (ci := 4) (kk := 5) (index := 59) rfl aw_c_Link (by decide) wd_687 cy_Link cn_Link_ty cn_Link_nm rfl hk_bool rfl rfl rfl (by decide +kernel)), ?_⟩
  refine List.forall_mem_cons.mpr ⟨ae_mk (pu_push (fun _ => trivial)) (fun X => ok_iconst X (n := 0) (by decide) (by decide +kernel)), ?_⟩
  refine List.forall_mem_cons.mpr ⟨ae_mk pu_is (fun X => ok_istore X (by decide +kernel)), ?_⟩
  refine List.forall_mem_cons.mpr ⟨ae_mk (pu_push (fun _ => trivial)) (fun X => ok_iconst X (n := 0) (by decide) (by decide +kernel)), ?_⟩
  refine List.forall_mem_cons.mpr ⟨ae_mk pu_is (fun X => ok_istore X (by decide +kernel)), ?_⟩
  refine List.forall_mem_cons.mpr ⟨ae_mk pu_il (fun X => ok_iload X (by decide +kernel)), ?_⟩
  refine List.forall_mem_cons.mpr ⟨ae_mk (pu_push (fun _ => trivial)) (fun X => ok_iconst X (n := 4) (by decide) (by decide +kernel)), ?_⟩
  refine List.forall_mem_cons.mpr ⟨ae_mk pu_ic (fun X => ok_ic_ge X (off := 52) (by decide) (by decide +kernel)), ?_⟩
  refine List.forall_mem_cons.mpr ⟨ae_mk pu_il (fun X => ok_iload X (by decide +kernel)), ?_⟩
  refine List.forall_mem_cons.mpr ⟨ae_mk pu_il (fun X => ok_iload X (by decide +kernel)), ?_⟩
  refine List.forall_mem_cons.mpr ⟨ae_mk pu_bin (fun X => ok_ishr X (by decide +kernel)), ?_⟩
  refine List.forall_mem_cons.mpr ⟨ae_mk (pu_push (fun _ => trivial)) (fun X => ok_iconst X (n := 1) (by decide) (by decide +kernel)), ?_⟩
  refine List.forall_mem_cons.mpr ⟨ae_mk pu_bin (fun X => ok_iand X (by decide +kernel)), ?_⟩
  refine List.forall_mem_cons.mpr ⟨ae_mk pu_if (fun X => ok_if_eq X (off := 36) (by decide) (by decide +kernel)), ?_⟩
  refine List.forall_mem_cons.mpr ⟨ae_mk pu_il (fun X => ok_iload X (by decide +kernel)), ?_⟩
  refine List.forall_mem_cons.mpr ⟨ae_mk pu_il (fun X => ok_iload_n X (k := 2) rfl (by decide +kernel)), ?_⟩
  refine List.forall_mem_cons.mpr ⟨ae_mk pu_il (fun X => ok_iload X (by decide +kernel)), ?_⟩
  refine List.forall_mem_cons.mpr ⟨ae_mkc (fun X => ok_callSN X (mid := 76) (index := 62) (y := my_76) rfl (by decide) ⟨by decide, by decide⟩ (n := 2) (by decide +kernel) wd_491 wd_46 wd_600 wd_490 (by decide +kernel)), ?_⟩
  refine List.forall_mem_cons.mpr ⟨ae_mk pu_bin (fun X => ok_ior X (by decide +kernel)), ?_⟩
  refine List.forall_mem_cons.mpr ⟨ae_mk pu_is (fun X => ok_istore X (by decide +kernel)), ?_⟩
  refine List.forall_mem_cons.mpr ⟨ae_mk pu_al (fun X => ok_aload_n X (k := 0) rfl (by decide +kernel)), ?_⟩
  refine List.forall_mem_cons.mpr ⟨ae_mk pu_get (fun X => ok_get X (ci := 4) (kk := 7) (index := 11) rfl aw_c_Link (by decide) wd_689 (by decide +kernel)), ?_⟩
  refine List.forall_mem_cons.mpr ⟨ae_mk pu_il (fun X => ok_iload X (by decide +kernel)), ?_⟩
  refine List.forall_mem_cons.mpr ⟨ae_mk (pu_new cd_Port_cv) (fun X => ok_new X (ci := 5) (index := 9) (fs := cd_Port) rfl aw_c_Port cy_Port cn_Port_ty wd_596 wd_359 wd_58 cd_Port_v (fun _ _ => rfl) cd_Port_cv (by decide +kernel)), ?_⟩
  refine List.forall_mem_cons.mpr ⟨ae_mk pu_dup (fun X => ok_dup X (by decide +kernel)), ?_⟩
  refine List.forall_mem_cons.mpr ⟨ae_mk pu_al (fun X => ok_aload_n X (k := 0) rfl (by decide +kernel)), ?_⟩
  refine List.forall_mem_cons.mpr ⟨ae_mk pu_get (fun X => ok_get X (ci := 4) (kk := 5) (index := 59) rfl aw_c_Link (by decide) wd_687 (by decide +kernel)), ?_⟩
  refine List.forall_mem_cons.mpr ⟨ae_mk pu_il (fun X => ok_iload X (by decide +kernel)), ?_⟩
  refine List.forall_mem_cons.mpr ⟨ae_mk (pu_push (fun _ => trivial)) (fun X => ok_iconst X (n := 2) (by decide) (by decide +kernel)), ?_⟩
  refine List.forall_mem_cons.mpr ⟨ae_mk pu_bin (fun X => ok_ishr X (by decide +kernel)), ?_⟩
  refine List.forall_mem_cons.mpr ⟨ae_mkc (fun X => ok_callI X (mid := 84) (index := 66) (y := my_84) rfl (by decide) ⟨by decide, by decide⟩ (n := 2) (by decide +kernel) wd_603 wd_58 wd_601 wd_602 rfl rfl (ci := 5) (by decide +kernel)), ?_⟩
  refine List.forall_mem_cons.mpr ⟨ae_mk pu_aas (fun X => ok_aas X (by decide +kernel)), ?_⟩
  refine List.forall_mem_cons.mpr ⟨ae_mk pu_inc (fun X => ok_iinc X (n := 1) (by decide) (by decide +kernel)), ?_⟩
  refine List.forall_mem_cons.mpr ⟨ae_mk pu_goto (fun X => ok_goto X (off := (-52)) (by decide) (by decide +kernel)), ?_⟩
  refine List.forall_mem_cons.mpr ⟨ae_mk pu_al (fun X => ok_aload_n X (k := 0) rfl (by decide +kernel)), ?_⟩
  refine List.forall_mem_cons.mpr ⟨ae_mk pu_il (fun X => ok_iload X (by decide +kernel)), ?_⟩
  refine List.forall_mem_cons.mpr ⟨ae_mk pu_put (fun X => ok_putF X (ci := 4) (kk := 6) (index := 69) rfl aw_c_Link (by decide) wd_688 cy_Link cn_Link_ty cn_Link_nm rfl hk_int rfl rfl rfl (by decide +kernel)), ?_⟩
  refine List.forall_mem_cons.mpr ⟨ae_mk (pu_push (fun _ => trivial)) (fun X => ok_iconst X (n := 0) (by decide) (by decide +kernel)), ?_⟩
  refine List.forall_mem_cons.mpr ⟨ae_mk pu_is (fun X => ok_istore X (by decide +kernel)), ?_⟩
  refine List.forall_mem_cons.mpr ⟨ae_mk pu_il (fun X => ok_iload X (by decide +kernel)), ?_⟩
  refine List.forall_mem_cons.mpr ⟨ae_mk (pu_push (fun _ => trivial)) (fun X => ok_bipush X (n := 8) (by decide) (by decide +kernel)), ?_⟩
  refine List.forall_mem_cons.mpr ⟨ae_mk pu_ic (fun X => ok_ic_ge X (off := 23) (by decide) (by decide +kernel)), ?_⟩
  refine List.forall_mem_cons.mpr ⟨ae_mk pu_al (fun X => ok_aload_n X (k := 0) rfl (by decide +kernel)), ?_⟩
  refine List.forall_mem_cons.mpr ⟨ae_mk pu_get (fun X => ok_get X (ci := 4) (kk := 9) (index := 23) rfl aw_c_Link (by decide) wd_692 (by decide +kernel)), ?_⟩
  refine List.forall_mem_cons.mpr ⟨ae_mk pu_il (fun X => ok_iload X (by decide +kernel)), ?_⟩
  refine List.forall_mem_cons.mpr ⟨ae_mk (pu_new cd_Fragment_cv) (fun X => ok_new X (ci := 1) (index := 21) (fs := cd_Fragment) rfl aw_c_Fragment cy_Fragment cn_Fragment_ty wd_598 wd_643 wd_59 cd_Fragment_v (fun _ _ => rfl) cd_Fragment_cv (by decide +kernel)), ?_⟩
  refine List.forall_mem_cons.mpr ⟨ae_mk pu_dup (fun X => ok_dup X (by decide +kernel)), ?_⟩
  refine List.forall_mem_cons.mpr ⟨ae_mkc (fun X => ok_callIN X (mid := 85) (index := 72) (y := my_85) rfl (by decide) ⟨by decide, by decide⟩ (n := 0) (by decide +kernel) wd_646 wd_59 wd_644 wd_645 rfl rfl (ci := 1) (by decide +kernel)), ?_⟩
  refine List.forall_mem_cons.mpr ⟨ae_mk pu_aas (fun X => ok_aas X (by decide +kernel)), ?_⟩
  refine List.forall_mem_cons.mpr ⟨ae_mk pu_inc (fun X => ok_iinc X (n := 1) (by decide) (by decide +kernel)), ?_⟩
  refine List.forall_mem_cons.mpr ⟨ae_mk pu_goto (fun X => ok_goto X (off := (-24)) (by decide) (by decide +kernel)), ?_⟩
  refine List.forall_mem_cons.mpr ⟨ae_mk (pu_push (fun _ => trivial)) (fun X => ok_iconst X (n := 0) (by decide) (by decide +kernel)), ?_⟩
  refine List.forall_mem_cons.mpr ⟨ae_mk pu_is (fun X => ok_istore X (by decide +kernel)), ?_⟩
  refine List.forall_mem_cons.mpr ⟨ae_mk pu_il (fun X => ok_iload X (by decide +kernel)), ?_⟩
  refine List.forall_mem_cons.mpr ⟨ae_mk (pu_push (fun _ => trivial)) (fun X => ok_iconst X (n := 2) (by decide) (by decide +kernel)), ?_⟩
  refine List.forall_mem_cons.mpr ⟨ae_mk pu_ic (fun X => ok_ic_ge X (off := 23) (by decide) (by decide +kernel)), ?_⟩
  refine List.forall_mem_cons.mpr ⟨ae_mk pu_al (fun X => ok_aload_n X (k := 0) rfl (by decide +kernel)), ?_⟩
  refine List.forall_mem_cons.mpr ⟨ae_mk pu_get (fun X => ok_get X (ci := 4) (kk := 8) (index := 17) rfl aw_c_Link (by decide) wd_690 (by decide +kernel)), ?_⟩
  refine List.forall_mem_cons.mpr ⟨ae_mk pu_il (fun X => ok_iload X (by decide +kernel)), ?_⟩
  refine List.forall_mem_cons.mpr ⟨ae_mk pu_il (fun X => ok_iload X (by decide +kernel)), ?_⟩
  refine List.forall_mem_cons.mpr ⟨ae_mk pu_il (fun X => ok_iload_n X (k := 3) rfl (by decide +kernel)), ?_⟩
  refine List.forall_mem_cons.mpr ⟨ae_mk (pu_push (fun _ => trivial)) (fun X => ok_bipush X (n := 64) (by decide) (by decide +kernel)), ?_⟩
  refine List.forall_mem_cons.mpr ⟨ae_mk pu_bin (fun X => ok_iadd X (by decide +kernel)), ?_⟩
  refine List.forall_mem_cons.mpr ⟨ae_mk pu_bin (fun X => ok_imul X (by decide +kernel)), ?_⟩
  refine List.forall_mem_cons.mpr ⟨ae_mk pu_ias (fun X => ok_ias X (by decide +kernel)), ?_⟩
  refine List.forall_mem_cons.mpr ⟨ae_mk pu_inc (fun X => ok_iinc X (n := 1) (by decide) (by decide +kernel)), ?_⟩
  refine List.forall_mem_cons.mpr ⟨ae_mk pu_goto (fun X => ok_goto X (off := (-23)) (by decide) (by decide +kernel)), ?_⟩
  refine List.forall_mem_cons.mpr ⟨⟨rfl, (by decide +kernel)⟩, ?_⟩
  exact fun _ h => absurd h List.not_mem_nil
def tb_84 : List (Nat × ae_I) := [(0, .inl (o_al 0 1)),
  (1, .inl (o_oi 4)),
  (4, .inl (o_al 0 5)),
  (5, .inl (o_push (.int 2) 6)),
  (6, .inl (o_na 0 8)),
  (8, .inl (o_dup 9)),
  (9, .inl (o_push (.int 0) 10)),
  (10, .inl (o_push (.int (-1)) 11)),
  (11, .inl (o_ias 12)),
  (12, .inl (o_dup 13)),
  (13, .inl (o_push (.int 1) 14)),
  (14, .inl (o_push (.int (-1)) 15)),
  (15, .inl (o_ias 16)),
  (16, .inl (o_put 5 2 k_ref 19)),
  (19, .inl (o_al 0 20)),
  (20, .inl (o_push (.int (-1)) 21)),
  (21, .inl (o_put 5 3 k_int 24)),
  (24, .inl (o_al 0 25)),
  (25, .inl (o_push (.int 0) 26)),
  (26, .inl (o_put 5 4 k_int 29)),
  (29, .inl (o_al 0 30)),
  (30, .inl (o_push (.int 0) 31)),
  (31, .inl (o_put 5 5 k_bool 34)),
  (34, .inl (o_al 0 35)),
  (35, .inl (o_push (.int 0) 36)),
  (36, .inl (o_put 5 6 k_int 39)),
  (39, .inl (o_al 0 40)),
  (40, .inl (o_new 0 2 cd_Datagram 43)),
  (43, .inl (o_dup 44)),
  (44, .inr (.inr (.inl (3, 1, 47, some 0, [])))),
  (47, .inl (o_put 5 7 k_ref 50)),
  (50, .inl (o_al 0 51)),
  (51, .inl (o_push (.int 0) 52)),
  (52, .inl (o_put 5 9 k_int 55)),
  (55, .inl (o_al 0 56)),
  (56, .inl (o_push (.int 0) 57)),
  (57, .inl (o_put 5 10 k_int 60)),
  (60, .inl (o_al 0 61)),
  (61, .inl (o_push (.int 0) 62)),
  (62, .inl (o_put 5 11 k_int 65)),
  (65, .inl (o_al 0 66)),
  (66, .inl (o_il 1 67)),
  (67, .inl (o_put 5 0 k_bool 70)),
  (70, .inl (o_al 0 71)),
  (71, .inl (o_il 2 72)),
  (72, .inl (o_put 5 1 k_int 75)),
  (75, .inl (o_al 0 76)),
  (76, .inl (o_il 1 77)),
  (77, .inl (o_if (fun x => decide (x = 0)) 84 80)),
  (80, .inl (o_push (.int 4) 81)),
  (81, .inl (o_goto 85)),
  (84, .inl (o_push (.int 1) 85)),
  (85, .inl (o_nq 9 88)),
  (88, .inl (o_put 5 8 k_ref 91)),
  (91, .inr (.inl none))]
theorem te_84 : ∀ q ∈ tb_84, ae_E am "TwinNetwork$Port" "<init>" prog_7_method_1_code 3 (Option.none : Option Jvm.ClassFile.FieldType) [] q := by
  unfold tb_84
  refine List.forall_mem_cons.mpr ⟨ae_mk pu_al (fun X => ok_aload_n X (k := 0) rfl (by decide +kernel)), ?_⟩
  refine List.forall_mem_cons.mpr ⟨ae_mk pu_oi (fun X => ok_oi X (index := 3) wd_604 aw_oi2 aw_oi3 (by decide +kernel)), ?_⟩
  refine List.forall_mem_cons.mpr ⟨ae_mk pu_al (fun X => ok_aload_n X (k := 0) rfl (by decide +kernel)), ?_⟩
  refine List.forall_mem_cons.mpr ⟨ae_mk (pu_push (fun _ => trivial)) (fun X => ok_iconst X (n := 2) (by decide) (by decide +kernel)), ?_⟩
  refine List.forall_mem_cons.mpr ⟨ae_mk pu_na (fun X => ok_na X (atype := .int) (t := 0) rfl (fun _ => rfl) wd_89 (fun _ _ => rfl) (by decide) (fun _ _ => rfl) (by decide +kernel)), ?_⟩
  refine List.forall_mem_cons.mpr ⟨ae_mk pu_dup (fun X => ok_dup X (by decide +kernel)), ?_⟩
  refine List.forall_mem_cons.mpr ⟨ae_mk (pu_push (fun _ => trivial)) (fun X => ok_iconst X (n := 0) (by decide) (by decide +kernel)), ?_⟩
  refine List.forall_mem_cons.mpr ⟨ae_mk (pu_push (fun _ => trivial)) (fun X => ok_iconst X (n := (-1)) (by decide) (by decide +kernel)), ?_⟩
  refine List.forall_mem_cons.mpr ⟨ae_mk pu_ias (fun X => ok_ias X (by decide +kernel)), ?_⟩
  refine List.forall_mem_cons.mpr ⟨ae_mk pu_dup (fun X => ok_dup X (by decide +kernel)), ?_⟩
  refine List.forall_mem_cons.mpr ⟨ae_mk (pu_push (fun _ => trivial)) (fun X => ok_iconst X (n := 1) (by decide) (by decide +kernel)), ?_⟩
  refine List.forall_mem_cons.mpr ⟨ae_mk (pu_push (fun _ => trivial)) (fun X => ok_iconst X (n := (-1)) (by decide) (by decide +kernel)), ?_⟩
  refine List.forall_mem_cons.mpr ⟨ae_mk pu_ias (fun X => ok_ias X (by decide +kernel)), ?_⟩
  refine List.forall_mem_cons.mpr ⟨ae_mk pu_put (fun X => ok_putF X (ci := 5) (kk := 2) (index := 9) rfl aw_c_Port (by decide) wd_608 cy_Port cn_Port_ty cn_Port_nm rfl hk_arr rfl rfl rfl (by decide +kernel)), ?_⟩
  refine List.forall_mem_cons.mpr ⟨ae_mk pu_al (fun X => ok_aload_n X (k := 0) rfl (by decide +kernel)), ?_⟩
  refine List.forall_mem_cons.mpr ⟨ae_mk (pu_push (fun _ => trivial)) (fun X => ok_iconst X (n := (-1)) (by decide) (by decide +kernel)), ?_⟩
  refine List.forall_mem_cons.mpr ⟨ae_mk pu_put (fun X => ok_put X (ci := 5) (kk := 3) (index := 15) rfl aw_c_Port (by decide) wd_609 cy_Port cn_Port_ty cn_Port_nm rfl hk_int rfl (by decide +kernel)), ?_⟩
  refine List.forall_mem_cons.mpr ⟨ae_mk pu_al (fun X => ok_aload_n X (k := 0) rfl (by decide +kernel)), ?_⟩
  refine List.forall_mem_cons.mpr ⟨ae_mk (pu_push (fun _ => trivial)) (fun X => ok_iconst X (n := 0) (by decide) (by decide +kernel)), ?_⟩
  refine List.forall_mem_cons.mpr ⟨ae_mk pu_put (fun X => ok_put X (ci := 5) (kk := 4) (index := 19) rfl aw_c_Port (by decide) wd_610 cy_Port cn_Port_ty cn_Port_nm rfl hk_int rfl (by decide +kernel)), ?_⟩
  refine List.forall_mem_cons.mpr ⟨ae_mk pu_al (fun X => ok_aload_n X (k := 0) rfl (by decide +kernel)), ?_⟩
  refine List.forall_mem_cons.mpr ⟨ae_mk (pu_push (fun _ => trivial)) (fun X => ok_iconst X (n := 0) (by decide) (by decide +kernel)), ?_⟩
  refine List.forall_mem_cons.mpr ⟨ae_mk pu_put (fun X => ok_put X (ci := 5) (kk := 5) (index := 22) rfl aw_c_Port (by decide) wd_611 cy_Port cn_Port_ty cn_Port_nm rfl hk_bool rfl (by decide +kernel)), ?_⟩
  refine List.forall_mem_cons.mpr ⟨ae_mk pu_al (fun X => ok_aload_n X (k := 0) rfl (by decide +kernel)), ?_⟩
  refine List.forall_mem_cons.mpr ⟨ae_mk (pu_push (fun _ => trivial)) (fun X => ok_iconst X (n := 0) (by decide) (by decide +kernel)), ?_⟩
  refine List.forall_mem_cons.mpr ⟨ae_mk pu_put (fun X => ok_put X (ci := 5) (kk := 6) (index := 26) rfl aw_c_Port (by decide) wd_612 cy_Port cn_Port_ty cn_Port_nm rfl hk_int rfl (by decide +kernel)), ?_⟩
  refine List.forall_mem_cons.mpr ⟨ae_mk pu_al (fun X => ok_aload_n X (k := 0) rfl (by decide +kernel)), ?_⟩
  refine List.forall_mem_cons.mpr ⟨ae_mk (pu_new cd_Datagram_cv) (fun X => ok_new X (ci := 0) (index := 29) (fs := cd_Datagram) rfl aw_c_Datagram cy_Datagram cn_Datagram_ty wd_395 wd_92 wd_48 cd_Datagram_v (fun _ _ => rfl) cd_Datagram_cv (by decide +kernel)), ?_⟩
  refine List.forall_mem_cons.mpr ⟨ae_mk pu_dup (fun X => ok_dup X (by decide +kernel)), ?_⟩
  refine List.forall_mem_cons.mpr ⟨ae_mkc (fun X => ok_callIN X (mid := 3) (index := 31) (y := my_3) rfl (by decide) ⟨by decide, by decide⟩ (n := 0) (by decide +kernel) wd_95 wd_48 wd_396 wd_94 rfl rfl (ci := 0) (by decide +kernel)), ?_⟩
  refine List.forall_mem_cons.mpr ⟨ae_mk pu_put (fun X => ok_put X (ci := 5) (kk := 7) (index := 32) rfl aw_c_Port (by decide) wd_613 cy_Port cn_Port_ty cn_Port_nm rfl hk_obj rfl (by decide +kernel)), ?_⟩
  refine List.forall_mem_cons.mpr ⟨ae_mk pu_al (fun X => ok_aload_n X (k := 0) rfl (by decide +kernel)), ?_⟩
  refine List.forall_mem_cons.mpr ⟨ae_mk (pu_push (fun _ => trivial)) (fun X => ok_iconst X (n := 0) (by decide) (by decide +kernel)), ?_⟩
  refine List.forall_mem_cons.mpr ⟨ae_mk pu_put (fun X => ok_put X (ci := 5) (kk := 9) (index := 36) rfl aw_c_Port (by decide) wd_615 cy_Port cn_Port_ty cn_Port_nm rfl hk_int rfl (by decide +kernel)), ?_⟩
  refine List.forall_mem_cons.mpr ⟨ae_mk pu_al (fun X => ok_aload_n X (k := 0) rfl (by decide +kernel)), ?_⟩
  refine List.forall_mem_cons.mpr ⟨ae_mk (pu_push (fun _ => trivial)) (fun X => ok_iconst X (n := 0) (by decide) (by decide +kernel)), ?_⟩
  refine List.forall_mem_cons.mpr ⟨ae_mk pu_put (fun X => ok_put X (ci := 5) (kk := 10) (index := 39) rfl aw_c_Port (by decide) wd_616 cy_Port cn_Port_ty cn_Port_nm rfl hk_int rfl (by decide +kernel)), ?_⟩
  refine List.forall_mem_cons.mpr ⟨ae_mk pu_al (fun X => ok_aload_n X (k := 0) rfl (by decide +kernel)), ?_⟩
  refine List.forall_mem_cons.mpr ⟨ae_mk (pu_push (fun _ => trivial)) (fun X => ok_iconst X (n := 0) (by decide) (by decide +kernel)), ?_⟩
  refine List.forall_mem_cons.mpr ⟨ae_mk pu_put (fun X => ok_put X (ci := 5) (kk := 11) (index := 42) rfl aw_c_Port (by decide) wd_617 cy_Port cn_Port_ty cn_Port_nm rfl hk_int rfl (by decide +kernel)), ?_⟩
  refine List.forall_mem_cons.mpr ⟨ae_mk pu_al (fun X => ok_aload_n X (k := 0) rfl (by decide +kernel)), ?_⟩
  refine List.forall_mem_cons.mpr ⟨ae_mk pu_il (fun X => ok_iload_n X (k := 1) rfl (by decide +kernel)), ?_⟩
  refine List.forall_mem_cons.mpr ⟨ae_mk pu_put (fun X => ok_putF X (ci := 5) (kk := 0) (index := 45) rfl aw_c_Port (by decide) wd_606 cy_Port cn_Port_ty cn_Port_nm rfl hk_bool rfl rfl rfl (by decide +kernel)), ?_⟩
  refine List.forall_mem_cons.mpr ⟨ae_mk pu_al (fun X => ok_aload_n X (k := 0) rfl (by decide +kernel)), ?_⟩
  refine List.forall_mem_cons.mpr ⟨ae_mk pu_il (fun X => ok_iload_n X (k := 2) rfl (by decide +kernel)), ?_⟩
  refine List.forall_mem_cons.mpr ⟨ae_mk pu_put (fun X => ok_putF X (ci := 5) (kk := 1) (index := 48) rfl aw_c_Port (by decide) wd_607 cy_Port cn_Port_ty cn_Port_nm rfl hk_int rfl rfl rfl (by decide +kernel)), ?_⟩
  refine List.forall_mem_cons.mpr ⟨ae_mk pu_al (fun X => ok_aload_n X (k := 0) rfl (by decide +kernel)), ?_⟩
  refine List.forall_mem_cons.mpr ⟨ae_mk pu_il (fun X => ok_iload_n X (k := 1) rfl (by decide +kernel)), ?_⟩
  refine List.forall_mem_cons.mpr ⟨ae_mk pu_if (fun X => ok_if_eq X (off := 7) (by decide) (by decide +kernel)), ?_⟩
  refine List.forall_mem_cons.mpr ⟨ae_mk (pu_push (fun _ => trivial)) (fun X => ok_iconst X (n := 4) (by decide) (by decide +kernel)), ?_⟩
  refine List.forall_mem_cons.mpr ⟨ae_mk pu_goto (fun X => ok_goto X (off := 4) (by decide) (by decide +kernel)), ?_⟩
  refine List.forall_mem_cons.mpr ⟨ae_mk (pu_push (fun _ => trivial)) (fun X => ok_iconst X (n := 1) (by decide) (by decide +kernel)), ?_⟩
  refine List.forall_mem_cons.mpr ⟨ae_mk pu_nq (fun X => ok_nq X (t := 9) (index := 29) (fun _ => rfl) wd_395 wd_605 (by decide +kernel)), ?_⟩
  refine List.forall_mem_cons.mpr ⟨ae_mk pu_put (fun X => ok_putF X (ci := 5) (kk := 8) (index := 51) rfl aw_c_Port (by decide) wd_614 cy_Port cn_Port_ty cn_Port_nm rfl hk_arr rfl rfl rfl (by decide +kernel)), ?_⟩
  refine List.forall_mem_cons.mpr ⟨⟨rfl, (by decide +kernel)⟩, ?_⟩
  exact fun _ h => absurd h List.not_mem_nil
def tb_85 : List (Nat × ae_I) := [(0, .inl (o_al 0 1)),
  (1, .inl (o_oi 4)),
  (4, .inl (o_al 0 5)),
  (5, .inl (o_push (.int 0) 6)),
  (6, .inl (o_put 1 0 k_int 9)),
  (9, .inl (o_al 0 10)),
  (10, .inl (o_push (.int 0) 11)),
  (11, .inl (o_put 1 1 k_int 14)),
  (14, .inl (o_al 0 15)),
  (15, .inl (o_push (.int 0) 16)),
  (16, .inl (o_put 1 2 k_int 19)),
  (19, .inl (o_al 0 20)),
  (20, .inl (o_push (.int 0) 21)),
  (21, .inl (o_put 1 3 k_int 24)),
  (24, .inl (o_al 0 25)),
  (25, .inl (o_push (.int 0) 26)),
  (26, .inl (o_put 1 4 k_int 29)),
  (29, .inl (o_al 0 30)),
  (30, .inl (o_push (.int 0) 31)),
  (31, .inl (o_put 1 5 k_bool 34)),
  (34, .inr (.inl none))]
theorem te_85 : ∀ q ∈ tb_85, ae_E am "TwinNetwork$Fragment" "<init>" prog_3_method_1_code 1 (Option.none : Option Jvm.ClassFile.FieldType) [] q := by
  unfold tb_85
  refine List.forall_mem_cons.mpr ⟨ae_mk pu_al (fun X => ok_aload_n X (k := 0) rfl (by decide +kernel)), ?_⟩
  refine List.forall_mem_cons.mpr ⟨ae_mk pu_oi (fun X => ok_oi X (index := 3) wd_647 aw_oi2 aw_oi3 (by decide +kernel)), ?_⟩
  refine List.forall_mem_cons.mpr ⟨ae_mk pu_al (fun X => ok_aload_n X (k := 0) rfl (by decide +kernel)), ?_⟩
  refine List.forall_mem_cons.mpr ⟨ae_mk (pu_push (fun _ => trivial)) (fun X => ok_iconst X (n := 0) (by decide) (by decide +kernel)), ?_⟩
  refine List.forall_mem_cons.mpr ⟨ae_mk pu_put (fun X => ok_put X (ci := 1) (kk := 0) (index := 9) rfl aw_c_Fragment (by decide) wd_648 cy_Fragment cn_Fragment_ty cn_Fragment_nm rfl hk_int rfl (by decide +kernel)), ?_⟩
  refine List.forall_mem_cons.mpr ⟨ae_mk pu_al (fun X => ok_aload_n X (k := 0) rfl (by decide +kernel)), ?_⟩
  refine List.forall_mem_cons.mpr ⟨ae_mk (pu_push (fun _ => trivial)) (fun X => ok_iconst X (n := 0) (by decide) (by decide +kernel)), ?_⟩
  refine List.forall_mem_cons.mpr ⟨ae_mk pu_put (fun X => ok_put X (ci := 1) (kk := 1) (index := 15) rfl aw_c_Fragment (by decide) wd_651 cy_Fragment cn_Fragment_ty cn_Fragment_nm rfl hk_int rfl (by decide +kernel)), ?_⟩
  refine List.forall_mem_cons.mpr ⟨ae_mk pu_al (fun X => ok_aload_n X (k := 0) rfl (by decide +kernel)), ?_⟩
  refine List.forall_mem_cons.mpr ⟨ae_mk (pu_push (fun _ => trivial)) (fun X => ok_iconst X (n := 0) (by decide) (by decide +kernel)), ?_⟩
  refine List.forall_mem_cons.mpr ⟨ae_mk pu_put (fun X => ok_put X (ci := 1) (kk := 2) (index := 18) rfl aw_c_Fragment (by decide) wd_653 cy_Fragment cn_Fragment_ty cn_Fragment_nm rfl hk_int rfl (by decide +kernel)), ?_⟩
  refine List.forall_mem_cons.mpr ⟨ae_mk pu_al (fun X => ok_aload_n X (k := 0) rfl (by decide +kernel)), ?_⟩
  refine List.forall_mem_cons.mpr ⟨ae_mk (pu_push (fun _ => trivial)) (fun X => ok_iconst X (n := 0) (by decide) (by decide +kernel)), ?_⟩
  refine List.forall_mem_cons.mpr ⟨ae_mk pu_put (fun X => ok_put X (ci := 1) (kk := 3) (index := 21) rfl aw_c_Fragment (by decide) wd_655 cy_Fragment cn_Fragment_ty cn_Fragment_nm rfl hk_int rfl (by decide +kernel)), ?_⟩
  refine List.forall_mem_cons.mpr ⟨ae_mk pu_al (fun X => ok_aload_n X (k := 0) rfl (by decide +kernel)), ?_⟩
  refine List.forall_mem_cons.mpr ⟨ae_mk (pu_push (fun _ => trivial)) (fun X => ok_iconst X (n := 0) (by decide) (by decide +kernel)), ?_⟩
  refine List.forall_mem_cons.mpr ⟨ae_mk pu_put (fun X => ok_put X (ci := 1) (kk := 4) (index := 24) rfl aw_c_Fragment (by decide) wd_658 cy_Fragment cn_Fragment_ty cn_Fragment_nm rfl hk_int rfl (by decide +kernel)), ?_⟩
  refine List.forall_mem_cons.mpr ⟨ae_mk pu_al (fun X => ok_aload_n X (k := 0) rfl (by decide +kernel)), ?_⟩
  refine List.forall_mem_cons.mpr ⟨ae_mk (pu_push (fun _ => trivial)) (fun X => ok_iconst X (n := 0) (by decide) (by decide +kernel)), ?_⟩
  refine List.forall_mem_cons.mpr ⟨ae_mk pu_put (fun X => ok_put X (ci := 1) (kk := 5) (index := 27) rfl aw_c_Fragment (by decide) wd_661 cy_Fragment cn_Fragment_ty cn_Fragment_nm rfl hk_bool rfl (by decide +kernel)), ?_⟩
  refine List.forall_mem_cons.mpr ⟨⟨rfl, (by decide +kernel)⟩, ?_⟩
  exact fun _ h => absurd h List.not_mem_nil
def tb_86 : List (Nat × ae_I) := [(0, .inl (o_al 4 2)),
  (2, .inl (o_push (.int 0) 3)),
  (3, .inl (o_al 0 4)),
  (4, .inl (o_il 1 5)),
  (5, .inl (o_il 2 6)),
  (6, .inl (o_il 3 7)),
  (7, .inr (.inr (.inl (87, 4, 10, some 7, [(0, 17, 5), (1, 21, 5)])))),
  (10, .inl (o_i2l 11)),
  (11, .inl (o_las 12)),
  (12, .inl (o_goto 23)),
  (17, .inl (o_push (.int 1) 18)),
  (18, .inr (.inl (some k_int))),
  (21, .inl (o_push (.int 2) 22)),
  (22, .inr (.inl (some k_int))),
  (23, .inl (o_push (.int 0) 24)),
  (24, .inr (.inl (some k_int)))]
theorem te_86 : ∀ q ∈ tb_86, ae_E am "TwinNetworkLaw" "write" method_4_code 6 (Option.some Jvm.ClassFile.FieldType.int) [(0, 12, 15, 13), (0, 12, 19, 15)] q := by
  unfold tb_86
  refine List.forall_mem_cons.mpr ⟨ae_mk pu_al (fun X => ok_aload X (by decide +kernel)), ?_⟩
  refine List.forall_mem_cons.mpr ⟨ae_mk (pu_push (fun _ => trivial)) (fun X => ok_iconst X (n := 0) (by decide) (by decide +kernel)), ?_⟩
  refine List.forall_mem_cons.mpr ⟨ae_mk pu_al (fun X => ok_aload_n X (k := 0) rfl (by decide +kernel)), ?_⟩
  refine List.forall_mem_cons.mpr ⟨ae_mk pu_il (fun X => ok_iload_n X (k := 1) rfl (by decide +kernel)), ?_⟩
  refine List.forall_mem_cons.mpr ⟨ae_mk pu_il (fun X => ok_iload_n X (k := 2) rfl (by decide +kernel)), ?_⟩
  refine List.forall_mem_cons.mpr ⟨ae_mk pu_il (fun X => ok_iload_n X (k := 3) rfl (by decide +kernel)), ?_⟩
  refine List.forall_mem_cons.mpr ⟨ae_mkx (fun X => ok_callV X (mid := 87) (index := 17) (y := my_87) rfl (by decide) ⟨by decide, by decide⟩ (n := 3) (by decide +kernel) wd_737 wd_46 wd_734 wd_735 wd_736 (ci := 7) rfl (by decide +kernel)) (List.forall_mem_cons.mpr ⟨fun X => ok_catchV X (mid := 87) (index := 17) (y := my_87) rfl (by decide) ⟨by decide, by decide⟩ (n := 3) (by decide +kernel) wd_737 wd_46 wd_734 wd_735 wd_736 (ci := 7) rfl (by decide +kernel) (x := 0) (pre := []) (suf := [(0, 12, 19, 15)]) rfl ⟨by decide, by decide⟩ (by decide) wd_502 wd_516 (Or.inl rfl) (by decide) (by decide +kernel), List.forall_mem_cons.mpr ⟨fun X => ok_catchV X (mid := 87) (index := 17) (y := my_87) rfl (by decide) ⟨by decide, by decide⟩ (n := 3) (by decide +kernel) wd_737 wd_46 wd_734 wd_735 wd_736 (ci := 7) rfl (by decide +kernel) (x := 1) (pre := [(0, 12, 15, 13)]) (suf := []) rfl ⟨by decide, by decide⟩ (by decide) wd_503 wd_578 (Or.inr ⟨rfl, _, _, _, _, rfl, by decide, by decide, by decide, wd_502⟩) (by decide) (by decide +kernel), fun _ h => absurd h List.not_mem_nil⟩⟩), ?_⟩
  refine List.forall_mem_cons.mpr ⟨ae_mk pu_i2l (fun X => ok_i2l X (by decide +kernel)), ?_⟩
  refine List.forall_mem_cons.mpr ⟨ae_mk pu_las (fun X => ok_las X (by decide +kernel)), ?_⟩
  refine List.forall_mem_cons.mpr ⟨ae_mk pu_goto (fun X => ok_goto X (off := 11) (by decide) (by decide +kernel)), ?_⟩
  refine List.forall_mem_cons.mpr ⟨ae_mk (pu_push (fun _ => trivial)) (fun X => ok_iconst X (n := 1) (by decide) (by decide +kernel)), ?_⟩
  refine List.forall_mem_cons.mpr ⟨Or.inl ⟨rfl, (by decide +kernel), rt_int⟩, ?_⟩
  refine List.forall_mem_cons.mpr ⟨ae_mk (pu_push (fun _ => trivial)) (fun X => ok_iconst X (n := 2) (by decide) (by decide +kernel)), ?_⟩
  refine List.forall_mem_cons.mpr ⟨Or.inl ⟨rfl, (by decide +kernel), rt_int⟩, ?_⟩
  refine List.forall_mem_cons.mpr ⟨ae_mk (pu_push (fun _ => trivial)) (fun X => ok_iconst X (n := 0) (by decide) (by decide +kernel)), ?_⟩
  refine List.forall_mem_cons.mpr ⟨Or.inl ⟨rfl, (by decide +kernel), rt_int⟩, ?_⟩
  exact fun _ h => absurd h List.not_mem_nil
def tb_87 : List (Nat × ae_I) := [(0, .inl (o_al 0 1)),
  (1, .inl (o_il 1 2)),
  (2, .inr (.inr (.inl (37, 2, 5, some 7, [])))),
  (5, .inl (o_as 4 7)),
  (7, .inl (o_al 4 9)),
  (9, .inl (o_nul 12 20)),
  (12, .inr (.inr (.inr (0, 1, 6)))),
  (20, .inl (o_al 4 22)),
  (22, .inl (o_il 2 23)),
  (23, .inr (.inr (.inl (88, 2, 26, some 4, [])))),
  (26, .inl (o_is 5 28)),
  (28, .inl (o_il 5 30)),
  (30, .inl (o_if (fun x => decide (¬ x = 0)) 41 33)),
  (33, .inr (.inr (.inr (0, 1, 6)))),
  (41, .inl (o_al 4 43)),
  (43, .inl (o_get 4 11 46)),
  (46, .inl (o_il 5 48)),
  (48, .inl (o_bin (fun x y => x + y) 49)),
  (49, .inl (o_push (.int 8) 51)),
  (51, .inl (o_ic (fun x y => decide (x ≤ y)) 62 54)),
  (54, .inr (.inr (.inr (1, 1, 6)))),
  (62, .inl (o_al 4 64)),
  (64, .inl (o_il 2 65)),
  (65, .inl (o_il 3 66)),
  (66, .inr (.inr (.inl (90, 3, 69, some 4, [])))),
  (69, .inl (o_il 5 71)),
  (71, .inr (.inl (some k_int)))]
theorem te_87 : ∀ q ∈ tb_87, ae_E am "TwinNetwork" "write" prog_1_method_3_code 6 (Option.some Jvm.ClassFile.FieldType.int) [] q := by
  unfold tb_87
  refine List.forall_mem_cons.mpr ⟨ae_mk pu_al (fun X => ok_aload_n X (k := 0) rfl (by decide +kernel)), ?_⟩
  refine List.forall_mem_cons.mpr ⟨ae_mk pu_il (fun X => ok_iload_n X (k := 1) rfl (by decide +kernel)), ?_⟩
  refine List.forall_mem_cons.mpr ⟨ae_mkc (fun X => ok_callV X (mid := 37) (index := 69) (y := my_37) rfl (by decide) ⟨by decide, by decide⟩ (n := 1) (by decide +kernel) wd_325 wd_46 wd_322 wd_324 wd_10 (ci := 7) rfl (by decide +kernel)), ?_⟩
  refine List.forall_mem_cons.mpr ⟨ae_mk pu_as (fun X => ok_astore X (by decide +kernel)), ?_⟩
  refine List.forall_mem_cons.mpr ⟨ae_mk pu_al (fun X => ok_aload X (by decide +kernel)), ?_⟩
  refine List.forall_mem_cons.mpr ⟨ae_mk pu_nul (fun X => ok_ifnonnull X (off := 11) (by decide) (by decide +kernel)), ?_⟩
  refine List.forall_mem_cons.mpr ⟨⟨rfl, rfl, 60, 62, by decide +kernel, by decide +kernel, by decide +kernel, by decide +kernel, wd_514, wd_55, ae_tw (by decide +kernel), rfl, by decide +kernel⟩, ?_⟩
  refine List.forall_mem_cons.mpr ⟨ae_mk pu_al (fun X => ok_aload X (by decide +kernel)), ?_⟩
  refine List.forall_mem_cons.mpr ⟨ae_mk pu_il (fun X => ok_iload_n X (k := 2) rfl (by decide +kernel)), ?_⟩
  refine List.forall_mem_cons.mpr ⟨ae_mkc (fun X => ok_callV X (mid := 88) (index := 73) (y := my_88) rfl (by decide) ⟨by decide, by decide⟩ (n := 1) (by decide +kernel) wd_741 wd_57 wd_738 wd_739 wd_740 (ci := 4) rfl (by decide +kernel)), ?_⟩
  refine List.forall_mem_cons.mpr ⟨ae_mk pu_is (fun X => ok_istore X (by decide +kernel)), ?_⟩
  refine List.forall_mem_cons.mpr ⟨ae_mk pu_il (fun X => ok_iload X (by decide +kernel)), ?_⟩
  refine List.forall_mem_cons.mpr ⟨ae_mk pu_if (fun X => ok_if_ne X (off := 11) (by decide) (by decide +kernel)), ?_⟩
  refine List.forall_mem_cons.mpr ⟨⟨rfl, rfl, 60, 62, by decide +kernel, by decide +kernel, by decide +kernel, by decide +kernel, wd_514, wd_55, ae_tw (by decide +kernel), rfl, by decide +kernel⟩, ?_⟩
  refine List.forall_mem_cons.mpr ⟨ae_mk pu_al (fun X => ok_aload X (by decide +kernel)), ?_⟩
  refine List.forall_mem_cons.mpr ⟨ae_mk pu_get (fun X => ok_getN X (ci := 4) (kk := 11) (index := 77) rfl aw_c_Link (by decide) wd_695 (by decide +kernel)), ?_⟩
  refine List.forall_mem_cons.mpr ⟨ae_mk pu_il (fun X => ok_iload X (by decide +kernel)), ?_⟩
  refine List.forall_mem_cons.mpr ⟨ae_mk pu_bin (fun X => ok_iadd X (by decide +kernel)), ?_⟩
  refine List.forall_mem_cons.mpr ⟨ae_mk (pu_push (fun _ => trivial)) (fun X => ok_bipush X (n := 8) (by decide) (by decide +kernel)), ?_⟩
  refine List.forall_mem_cons.mpr ⟨ae_mk pu_ic (fun X => ok_ic_le X (off := 11) (by decide) (by decide +kernel)), ?_⟩
  refine List.forall_mem_cons.mpr ⟨⟨rfl, rfl, 63, 65, by decide +kernel, by decide +kernel, by decide +kernel, by decide +kernel, wd_576, wd_56, ae_tw (by decide +kernel), rfl, by decide +kernel⟩, ?_⟩
  refine List.forall_mem_cons.mpr ⟨ae_mk pu_al (fun X => ok_aload X (by decide +kernel)), ?_⟩
  refine List.forall_mem_cons.mpr ⟨ae_mk pu_il (fun X => ok_iload_n X (k := 2) rfl (by decide +kernel)), ?_⟩
  refine List.forall_mem_cons.mpr ⟨ae_mk pu_il (fun X => ok_iload_n X (k := 3) rfl (by decide +kernel)), ?_⟩
  refine List.forall_mem_cons.mpr ⟨ae_mkc (fun X => ok_callV X (mid := 90) (index := 80) (y := my_90) rfl (by decide) ⟨by decide, by decide⟩ (n := 2) (by decide +kernel) wd_749 wd_57 wd_746 wd_747 wd_748 (ci := 4) rfl (by decide +kernel)), ?_⟩
  refine List.forall_mem_cons.mpr ⟨ae_mk pu_il (fun X => ok_iload X (by decide +kernel)), ?_⟩
  refine List.forall_mem_cons.mpr ⟨Or.inl ⟨rfl, (by decide +kernel), rt_int⟩, ?_⟩
  exact fun _ h => absurd h List.not_mem_nil
def tb_88 : List (Nat × ae_I) := [(0, .inl (o_al 0 1)),
  (1, .inr (.inr (.inl (89, 1, 4, some 4, [])))),
  (4, .inl (o_is 2 5)),
  (5, .inl (o_il 1 6)),
  (6, .inl (o_push (.int 1) 7)),
  (7, .inl (o_ic (fun x y => decide (x < y)) 22 10)),
  (10, .inl (o_il 1 11)),
  (11, .inl (o_push (.int 400) 14)),
  (14, .inl (o_ic (fun x y => decide (y < x)) 22 17)),
  (17, .inl (o_il 2 18)),
  (18, .inl (o_push (.int 1) 19)),
  (19, .inl (o_ic (fun x y => decide (y ≤ x)) 24 22)),
  (22, .inl (o_push (.int 0) 23)),
  (23, .inr (.inl (some k_int))),
  (24, .inl (o_push (.int 8) 26)),
  (26, .inl (o_il 1 27)),
  (27, .inl (o_bin (fun x y => x + y) 28)),
  (28, .inl (o_il 2 29)),
  (29, .inl (o_bin (fun x y => x + y) 30)),
  (30, .inl (o_push (.int 1) 31)),
  (31, .inl (o_bin (fun x y => x - y) 32)),
  (32, .inl (o_il 2 33)),
  (33, .inl (o_dv (fun x y => x / y) 34)),
  (34, .inl (o_is 3 35)),
  (35, .inl (o_il 3 36)),
  (36, .inl (o_al 0 37)),
  (37, .inl (o_get 4 5 40)),
  (40, .inl (o_if (fun x => decide (x = 0)) 48 43)),
  (43, .inl (o_push (.int 8) 45)),
  (45, .inl (o_goto 49)),
  (48, .inl (o_push (.int 1) 49)),
  (49, .inl (o_ic (fun x y => decide (y < x)) 56 52)),
  (52, .inl (o_il 3 53)),
  (53, .inl (o_goto 57)),
  (56, .inl (o_push (.int 0) 57)),
  (57, .inr (.inl (some k_int)))]
theorem te_88 : ∀ q ∈ tb_88, ae_E am "TwinNetwork$Link" "fragmentsNeeded" prog_6_method_5_code 4 (Option.some Jvm.ClassFile.FieldType.int) [] q := by
  unfold tb_88
  refine List.forall_mem_cons.mpr ⟨ae_mk pu_al (fun X => ok_aload_n X (k := 0) rfl (by decide +kernel)), ?_⟩
  refine List.forall_mem_cons.mpr ⟨ae_mkc (fun X => ok_callV X (mid := 89) (index := 77) (y := my_89) rfl (by decide) ⟨by decide, by decide⟩ (n := 0) (by decide +kernel) wd_745 wd_57 wd_742 wd_744 wd_19 (ci := 4) rfl (by decide +kernel)), ?_⟩
  refine List.forall_mem_cons.mpr ⟨ae_mk pu_is (fun X => ok_istore_n X (k := 2) rfl (by decide +kernel)), ?_⟩
  refine List.forall_mem_cons.mpr ⟨ae_mk pu_il (fun X => ok_iload_n X (k := 1) rfl (by decide +kernel)), ?_⟩
  refine List.forall_mem_cons.mpr ⟨ae_mk (pu_push (fun _ => trivial)) (fun X => ok_iconst X (n := 1) (by decide) (by decide +kernel)), ?_⟩
  refine List.forall_mem_cons.mpr ⟨ae_mk pu_ic (fun X => ok_ic_lt X (off := 15) (by decide) (by decide +kernel)), ?_⟩
  refine List.forall_mem_cons.mpr ⟨ae_mk pu_il (fun X => ok_iload_n X (k := 1) rfl (by decide +kernel)), ?_⟩
  refine List.forall_mem_cons.mpr ⟨ae_mk (pu_push (fun _ => trivial)) (fun X => ok_sipush X (n := 400) (by decide) (by decide +kernel)), ?_⟩
  refine List.forall_mem_cons.mpr ⟨ae_mk pu_ic (fun X => ok_ic_gt X (off := 8) (by decide) (by decide +kernel)), ?_⟩
  refine List.forall_mem_cons.mpr ⟨ae_mk pu_il (fun X => ok_iload_n X (k := 2) rfl (by decide +kernel)), ?_⟩
  refine List.forall_mem_cons.mpr ⟨ae_mk (pu_push (fun _ => trivial)) (fun X => ok_iconst X (n := 1) (by decide) (by decide +kernel)), ?_⟩
  refine List.forall_mem_cons.mpr ⟨ae_mk pu_ic (fun X => ok_ic_ge X (off := 5) (by decide) (by decide +kernel)), ?_⟩
  refine List.forall_mem_cons.mpr ⟨ae_mk (pu_push (fun _ => trivial)) (fun X => ok_iconst X (n := 0) (by decide) (by decide +kernel)), ?_⟩
  refine List.forall_mem_cons.mpr ⟨Or.inl ⟨rfl, (by decide +kernel), rt_int⟩, ?_⟩
  refine List.forall_mem_cons.mpr ⟨ae_mk (pu_push (fun _ => trivial)) (fun X => ok_bipush X (n := 8) (by decide) (by decide +kernel)), ?_⟩
  refine List.forall_mem_cons.mpr ⟨ae_mk pu_il (fun X => ok_iload_n X (k := 1) rfl (by decide +kernel)), ?_⟩
  refine List.forall_mem_cons.mpr ⟨ae_mk pu_bin (fun X => ok_iadd X (by decide +kernel)), ?_⟩
  refine List.forall_mem_cons.mpr ⟨ae_mk pu_il (fun X => ok_iload_n X (k := 2) rfl (by decide +kernel)), ?_⟩
  refine List.forall_mem_cons.mpr ⟨ae_mk pu_bin (fun X => ok_iadd X (by decide +kernel)), ?_⟩
  refine List.forall_mem_cons.mpr ⟨ae_mk (pu_push (fun _ => trivial)) (fun X => ok_iconst X (n := 1) (by decide) (by decide +kernel)), ?_⟩
  refine List.forall_mem_cons.mpr ⟨ae_mk pu_bin (fun X => ok_isub X (by decide +kernel)), ?_⟩
  refine List.forall_mem_cons.mpr ⟨ae_mk pu_il (fun X => ok_iload_n X (k := 2) rfl (by decide +kernel)), ?_⟩
  refine List.forall_mem_cons.mpr ⟨ae_mk pu_dv (fun X => ok_idiv X (by decide +kernel)), ?_⟩
  refine List.forall_mem_cons.mpr ⟨ae_mk pu_is (fun X => ok_istore_n X (k := 3) rfl (by decide +kernel)), ?_⟩
  refine List.forall_mem_cons.mpr ⟨ae_mk pu_il (fun X => ok_iload_n X (k := 3) rfl (by decide +kernel)), ?_⟩
  refine List.forall_mem_cons.mpr ⟨ae_mk pu_al (fun X => ok_aload_n X (k := 0) rfl (by decide +kernel)), ?_⟩
  refine List.forall_mem_cons.mpr ⟨ae_mk pu_get (fun X => ok_get X (ci := 4) (kk := 5) (index := 59) rfl aw_c_Link (by decide) wd_687 (by decide +kernel)), ?_⟩
  refine List.forall_mem_cons.mpr ⟨ae_mk pu_if (fun X => ok_if_eq X (off := 8) (by decide) (by decide +kernel)), ?_⟩
  refine List.forall_mem_cons.mpr ⟨ae_mk (pu_push (fun _ => trivial)) (fun X => ok_bipush X (n := 8) (by decide) (by decide +kernel)), ?_⟩
  refine List.forall_mem_cons.mpr ⟨ae_mk pu_goto (fun X => ok_goto X (off := 4) (by decide) (by decide +kernel)), ?_⟩
  refine List.forall_mem_cons.mpr ⟨ae_mk (pu_push (fun _ => trivial)) (fun X => ok_iconst X (n := 1) (by decide) (by decide +kernel)), ?_⟩
  refine List.forall_mem_cons.mpr ⟨ae_mk pu_ic (fun X => ok_ic_gt X (off := 7) (by decide) (by decide +kernel)), ?_⟩
  refine List.forall_mem_cons.mpr ⟨ae_mk pu_il (fun X => ok_iload_n X (k := 3) rfl (by decide +kernel)), ?_⟩
  refine List.forall_mem_cons.mpr ⟨ae_mk pu_goto (fun X => ok_goto X (off := 4) (by decide) (by decide +kernel)), ?_⟩
  refine List.forall_mem_cons.mpr ⟨ae_mk (pu_push (fun _ => trivial)) (fun X => ok_iconst X (n := 0) (by decide) (by decide +kernel)), ?_⟩
  refine List.forall_mem_cons.mpr ⟨Or.inl ⟨rfl, (by decide +kernel), rt_int⟩, ?_⟩
  exact fun _ h => absurd h List.not_mem_nil
def tb_89 : List (Nat × ae_I) := [(0, .inl (o_al 0 1)),
  (1, .inl (o_get 4 3 4)),
  (4, .inl (o_push (.int 39) 6)),
  (6, .inl (o_bin (fun x y => x - y) 7)),
  (7, .inl (o_is 1 8)),
  (8, .inl (o_al 0 9)),
  (9, .inl (o_get 4 5 12)),
  (12, .inl (o_if (fun x => decide (x = 0)) 25 15)),
  (15, .inl (o_il 1 16)),
  (16, .inl (o_push (.int 8) 18)),
  (18, .inl (o_dv (fun x y => x / y) 19)),
  (19, .inl (o_push (.int 8) 21)),
  (21, .inl (o_bin (fun x y => x * y) 22)),
  (22, .inl (o_goto 26)),
  (25, .inl (o_il 1 26)),
  (26, .inr (.inl (some k_int)))]
theorem te_89 : ∀ q ∈ tb_89, ae_E am "TwinNetwork$Link" "fragmentRoom" prog_6_method_4_code 2 (Option.some Jvm.ClassFile.FieldType.int) [] q := by
  unfold tb_89
  refine List.forall_mem_cons.mpr ⟨ae_mk pu_al (fun X => ok_aload_n X (k := 0) rfl (by decide +kernel)), ?_⟩
  refine List.forall_mem_cons.mpr ⟨ae_mk pu_get (fun X => ok_get X (ci := 4) (kk := 3) (index := 52) rfl aw_c_Link (by decide) wd_683 (by decide +kernel)), ?_⟩
  refine List.forall_mem_cons.mpr ⟨ae_mk (pu_push (fun _ => trivial)) (fun X => ok_bipush X (n := 39) (by decide) (by decide +kernel)), ?_⟩
  refine List.forall_mem_cons.mpr ⟨ae_mk pu_bin (fun X => ok_isub X (by decide +kernel)), ?_⟩
  refine List.forall_mem_cons.mpr ⟨ae_mk pu_is (fun X => ok_istore_n X (k := 1) rfl (by decide +kernel)), ?_⟩
  refine List.forall_mem_cons.mpr ⟨ae_mk pu_al (fun X => ok_aload_n X (k := 0) rfl (by decide +kernel)), ?_⟩
  refine List.forall_mem_cons.mpr ⟨ae_mk pu_get (fun X => ok_get X (ci := 4) (kk := 5) (index := 59) rfl aw_c_Link (by decide) wd_687 (by decide +kernel)), ?_⟩
  refine List.forall_mem_cons.mpr ⟨ae_mk pu_if (fun X => ok_if_eq X (off := 13) (by decide) (by decide +kernel)), ?_⟩
  refine List.forall_mem_cons.mpr ⟨ae_mk pu_il (fun X => ok_iload_n X (k := 1) rfl (by decide +kernel)), ?_⟩
  refine List.forall_mem_cons.mpr ⟨ae_mk (pu_push (fun _ => trivial)) (fun X => ok_bipush X (n := 8) (by decide) (by decide +kernel)), ?_⟩
  refine List.forall_mem_cons.mpr ⟨ae_mk pu_dv (fun X => ok_idiv X (by decide +kernel)), ?_⟩
  refine List.forall_mem_cons.mpr ⟨ae_mk (pu_push (fun _ => trivial)) (fun X => ok_bipush X (n := 8) (by decide) (by decide +kernel)), ?_⟩
  refine List.forall_mem_cons.mpr ⟨ae_mk pu_bin (fun X => ok_imul X (by decide +kernel)), ?_⟩
  refine List.forall_mem_cons.mpr ⟨ae_mk pu_goto (fun X => ok_goto X (off := 4) (by decide) (by decide +kernel)), ?_⟩
  refine List.forall_mem_cons.mpr ⟨ae_mk pu_il (fun X => ok_iload_n X (k := 1) rfl (by decide +kernel)), ?_⟩
  refine List.forall_mem_cons.mpr ⟨Or.inl ⟨rfl, (by decide +kernel), rt_int⟩, ?_⟩
  exact fun _ h => absurd h List.not_mem_nil
