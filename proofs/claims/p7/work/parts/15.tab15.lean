def tb_60 : List (Nat × ae_I) := [(0, .inl (o_al 0 1)),
  (1, .inl (o_get 3 1 4)),
  (4, .inr (.inr (.inl (8, 1, 7, some 6, [])))),
  (7, .inl (o_if (fun x => decide (x = 0)) 17 10)),
  (10, .inl (o_al 0 11)),
  (11, .inl (o_get 3 0 14)),
  (14, .inl (o_goto 21)),
  (17, .inl (o_al 0 18)),
  (18, .inl (o_get 3 1 21)),
  (21, .inl (o_as 1 22)),
  (22, .inl (o_al 0 23)),
  (23, .inl (o_al 1 24)),
  (24, .inr (.inr (.inl (8, 1, 27, some 6, [])))),
  (27, .inl (o_if (fun x => decide (¬ x = 0)) 34 30)),
  (30, .inl (o_push (.int 1) 31)),
  (31, .inl (o_goto 35)),
  (34, .inl (o_push (.int 0) 35)),
  (35, .inl (o_put 3 4 k_bool 38)),
  (38, .inl (o_al 0 39)),
  (39, .inl (o_al 1 40)),
  (40, .inl (o_al 0 41)),
  (41, .inl (o_get 3 3 44)),
  (44, .inr (.inr (.inl (61, 2, 47, some 6, [])))),
  (47, .inl (o_put 3 3 k_ref 50)),
  (50, .inl (o_al 0 51)),
  (51, .inl (o_push (.int 0) 52)),
  (52, .inl (o_put 3 5 k_int 55)),
  (55, .inr (.inl none))]
theorem te_60 : ∀ q ∈ tb_60, ae_E am "TwinNetwork$Line" "takeFirst" prog_5_method_6_code 2 (Option.none : Option Jvm.ClassFile.FieldType) [] q := by
  unfold tb_60
  refine List.forall_mem_cons.mpr ⟨ae_mk pu_al (fun X => ok_aload_n X (k := 0) rfl (by decide +kernel)), ?_⟩
  refine List.forall_mem_cons.mpr ⟨ae_mk pu_get (fun X => ok_get X (ci := 3) (kk := 1) (index := 47) rfl aw_c_Line (by decide) wd_134 (by decide +kernel)), ?_⟩
  refine List.forall_mem_cons.mpr ⟨ae_mkc (fun X => ok_callV X (mid := 8) (index := 60) (y := my_8) rfl (by decide) ⟨by decide, by decide⟩ (n := 0) (by decide +kernel) wd_194 wd_50 wd_423 wd_192 wd_193 (ci := 6) rfl (by decide +kernel)), ?_⟩
  refine List.forall_mem_cons.mpr ⟨ae_mk pu_if (fun X => ok_if_eq X (off := 10) (by decide) (by decide +kernel)), ?_⟩
  refine List.forall_mem_cons.mpr ⟨ae_mk pu_al (fun X => ok_aload_n X (k := 0) rfl (by decide +kernel)), ?_⟩
  refine List.forall_mem_cons.mpr ⟨ae_mk pu_get (fun X => ok_get X (ci := 3) (kk := 0) (index := 43) rfl aw_c_Line (by decide) wd_132 (by decide +kernel)), ?_⟩
  refine List.forall_mem_cons.mpr ⟨ae_mk pu_goto (fun X => ok_goto X (off := 7) (by decide) (by decide +kernel)), ?_⟩
  refine List.forall_mem_cons.mpr ⟨ae_mk pu_al (fun X => ok_aload_n X (k := 0) rfl (by decide +kernel)), ?_⟩
  refine List.forall_mem_cons.mpr ⟨ae_mk pu_get (fun X => ok_get X (ci := 3) (kk := 1) (index := 47) rfl aw_c_Line (by decide) wd_134 (by decide +kernel)), ?_⟩
  refine List.forall_mem_cons.mpr ⟨ae_mk pu_as (fun X => ok_astore_n X (k := 1) rfl (by decide +kernel)), ?_⟩
  refine List.forall_mem_cons.mpr ⟨ae_mk pu_al (fun X => ok_aload_n X (k := 0) rfl (by decide +kernel)), ?_⟩
  refine List.forall_mem_cons.mpr ⟨ae_mk pu_al (fun X => ok_aload_n X (k := 1) rfl (by decide +kernel)), ?_⟩
  refine List.forall_mem_cons.mpr ⟨ae_mkc (fun X => ok_callV X (mid := 8) (index := 60) (y := my_8) rfl (by decide) ⟨by decide, by decide⟩ (n := 0) (by decide +kernel) wd_194 wd_50 wd_423 wd_192 wd_193 (ci := 6) rfl (by decide +kernel)), ?_⟩
  refine List.forall_mem_cons.mpr ⟨ae_mk pu_if (fun X => ok_if_ne X (off := 7) (by decide) (by decide +kernel)), ?_⟩
  refine List.forall_mem_cons.mpr ⟨ae_mk (pu_push (fun _ => trivial)) (fun X => ok_iconst X (n := 1) (by decide) (by decide +kernel)), ?_⟩
  refine List.forall_mem_cons.mpr ⟨ae_mk pu_goto (fun X => ok_goto X (off := 4) (by decide) (by decide +kernel)), ?_⟩
  refine List.forall_mem_cons.mpr ⟨ae_mk (pu_push (fun _ => trivial)) (fun X => ok_iconst X (n := 0) (by decide) (by decide +kernel)), ?_⟩
  refine List.forall_mem_cons.mpr ⟨ae_mk pu_put (fun X => ok_put X (ci := 3) (kk := 4) (index := 18) rfl aw_c_Line (by decide) wd_139 cy_Line cn_Line_ty cn_Line_nm rfl hk_bool rfl (by decide +kernel)), ?_⟩
  refine List.forall_mem_cons.mpr ⟨ae_mk pu_al (fun X => ok_aload_n X (k := 0) rfl (by decide +kernel)), ?_⟩
  refine List.forall_mem_cons.mpr ⟨ae_mk pu_al (fun X => ok_aload_n X (k := 1) rfl (by decide +kernel)), ?_⟩
  refine List.forall_mem_cons.mpr ⟨ae_mk pu_al (fun X => ok_aload_n X (k := 0) rfl (by decide +kernel)), ?_⟩
  refine List.forall_mem_cons.mpr ⟨ae_mk pu_get (fun X => ok_get X (ci := 3) (kk := 3) (index := 12) rfl aw_c_Line (by decide) wd_137 (by decide +kernel)), ?_⟩
  refine List.forall_mem_cons.mpr ⟨ae_mkc (fun X => ok_callV X (mid := 61) (index := 64) (y := my_61) rfl (by decide) ⟨by decide, by decide⟩ (n := 1) (by decide +kernel) wd_427 wd_50 wd_424 wd_425 wd_426 (ci := 6) rfl (by decide +kernel)), ?_⟩
  refine List.forall_mem_cons.mpr ⟨ae_mk pu_put (fun X => ok_put X (ci := 3) (kk := 3) (index := 12) rfl aw_c_Line (by decide) wd_137 cy_Line cn_Line_ty cn_Line_nm rfl hk_obj rfl (by decide +kernel)), ?_⟩
  refine List.forall_mem_cons.mpr ⟨ae_mk pu_al (fun X => ok_aload_n X (k := 0) rfl (by decide +kernel)), ?_⟩
  refine List.forall_mem_cons.mpr ⟨ae_mk (pu_push (fun _ => trivial)) (fun X => ok_iconst X (n := 0) (by decide) (by decide +kernel)), ?_⟩
  refine List.forall_mem_cons.mpr ⟨ae_mk pu_put (fun X => ok_put X (ci := 3) (kk := 5) (index := 22) rfl aw_c_Line (by decide) wd_141 cy_Line cn_Line_ty cn_Line_nm rfl hk_int rfl (by decide +kernel)), ?_⟩
  refine List.forall_mem_cons.mpr ⟨⟨rfl, (by decide +kernel)⟩, ?_⟩
  exact fun _ h => absurd h List.not_mem_nil
def tb_61 : List (Nat × ae_I) := [(0, .inl (o_al 0 1)),
  (1, .inl (o_get 6 2 4)),
  (4, .inl (o_if (fun x => decide (x = 0)) 19 7)),
  (7, .inl (o_al 0 8)),
  (8, .inl (o_get 6 0 11)),
  (11, .inl (o_al 0 12)),
  (12, .inl (o_get 6 1 15)),
  (15, .inl (o_aa 16)),
  (16, .inl (o_nul 19 21)),
  (19, .inl (o_al 1 20)),
  (20, .inr (.inl (some k_ref))),
  (21, .inl (o_al 0 22)),
  (22, .inl (o_get 6 0 25)),
  (25, .inl (o_al 0 26)),
  (26, .inl (o_get 6 1 29)),
  (29, .inl (o_aa 30)),
  (30, .inl (o_as 2 31)),
  (31, .inl (o_al 0 32)),
  (32, .inl (o_get 6 0 35)),
  (35, .inl (o_al 0 36)),
  (36, .inl (o_get 6 1 39)),
  (39, .inl (o_al 1 40)),
  (40, .inl (o_aas 41)),
  (41, .inl (o_al 0 42)),
  (42, .inl (o_dup 43)),
  (43, .inl (o_get 6 2 46)),
  (46, .inl (o_push (.int 1) 47)),
  (47, .inl (o_bin (fun x y => x - y) 48)),
  (48, .inl (o_put 6 2 k_int 51)),
  (51, .inl (o_al 0 52)),
  (52, .inl (o_al 0 53)),
  (53, .inl (o_get 6 2 56)),
  (56, .inl (o_if (fun x => decide (x = 0)) 73 59)),
  (59, .inl (o_al 0 60)),
  (60, .inl (o_get 6 1 63)),
  (63, .inl (o_push (.int 1) 64)),
  (64, .inl (o_bin (fun x y => x + y) 65)),
  (65, .inl (o_al 0 66)),
  (66, .inl (o_get 6 0 69)),
  (69, .inl (o_len 70)),
  (70, .inl (o_ic (fun x y => decide (x < y)) 77 73)),
  (73, .inl (o_push (.int 0) 74)),
  (74, .inl (o_goto 83)),
  (77, .inl (o_al 0 78)),
  (78, .inl (o_get 6 1 81)),
  (81, .inl (o_push (.int 1) 82)),
  (82, .inl (o_bin (fun x y => x + y) 83)),
  (83, .inl (o_put 6 1 k_int 86)),
  (86, .inl (o_al 2 87)),
  (87, .inr (.inl (some k_ref)))]
theorem te_61 : ∀ q ∈ tb_61, ae_E am "TwinNetwork$Row" "exchangeFirst" prog_8_method_4_code 3 (Option.some (Jvm.ClassFile.FieldType.object "TwinNetwork$Frame")) [] q := by
  unfold tb_61
  refine List.forall_mem_cons.mpr ⟨ae_mk pu_al (fun X => ok_aload_n X (k := 0) rfl (by decide +kernel)), ?_⟩
  refine List.forall_mem_cons.mpr ⟨ae_mk pu_get (fun X => ok_get X (ci := 6) (kk := 2) (index := 13) rfl aw_c_Row (by decide) wd_123 (by decide +kernel)), ?_⟩
  refine List.forall_mem_cons.mpr ⟨ae_mk pu_if (fun X => ok_if_eq X (off := 15) (by decide) (by decide +kernel)), ?_⟩
  refine List.forall_mem_cons.mpr ⟨ae_mk pu_al (fun X => ok_aload_n X (k := 0) rfl (by decide +kernel)), ?_⟩
  refine List.forall_mem_cons.mpr ⟨ae_mk pu_get (fun X => ok_get X (ci := 6) (kk := 0) (index := 18) rfl aw_c_Row (by decide) wd_121 (by decide +kernel)), ?_⟩
  refine List.forall_mem_cons.mpr ⟨ae_mk pu_al (fun X => ok_aload_n X (k := 0) rfl (by decide +kernel)), ?_⟩
  refine List.forall_mem_cons.mpr ⟨ae_mk pu_get (fun X => ok_get X (ci := 6) (kk := 1) (index := 7) rfl aw_c_Row (by decide) wd_122 (by decide +kernel)), ?_⟩
  refine List.forall_mem_cons.mpr ⟨ae_mk pu_aa (fun X => ok_aa X (by decide +kernel)), ?_⟩
  refine List.forall_mem_cons.mpr ⟨ae_mk pu_nul (fun X => ok_ifnonnull X (off := 5) (by decide) (by decide +kernel)), ?_⟩
  refine List.forall_mem_cons.mpr ⟨ae_mk pu_al (fun X => ok_aload_n X (k := 1) rfl (by decide +kernel)), ?_⟩
  refine List.forall_mem_cons.mpr ⟨Or.inr (Or.inr ⟨Or.inl ⟨_, rfl⟩, (by decide +kernel), rt_ref⟩), ?_⟩
  refine List.forall_mem_cons.mpr ⟨ae_mk pu_al (fun X => ok_aload_n X (k := 0) rfl (by decide +kernel)), ?_⟩
  refine List.forall_mem_cons.mpr ⟨ae_mk pu_get (fun X => ok_get X (ci := 6) (kk := 0) (index := 18) rfl aw_c_Row (by decide) wd_121 (by decide +kernel)), ?_⟩
  refine List.forall_mem_cons.mpr ⟨ae_mk pu_al (fun X => ok_aload_n X (k := 0) rfl (by decide +kernel)), ?_⟩
  refine List.forall_mem_cons.mpr ⟨ae_mk pu_get (fun X => ok_get X (ci := 6) (kk := 1) (index := 7) rfl aw_c_Row (by decide) wd_122 (by decide +kernel)), ?_⟩
  refine List.forall_mem_cons.mpr ⟨ae_mk pu_aa (fun X => ok_aa X (by decide +kernel)), ?_⟩
  refine List.forall_mem_cons.mpr ⟨ae_mk pu_as (fun X => ok_astore_n X (k := 2) rfl (by decide +kernel)), ?_⟩
  refine List.forall_mem_cons.mpr ⟨ae_mk pu_al (fun X => ok_aload_n X (k := 0) rfl (by decide +kernel)), ?_⟩
  refine List.forall_mem_cons.mpr ⟨ae_mk pu_get (fun X => ok_get X (ci := 6) (kk := 0) (index := 18) rfl aw_c_Row (by decide) wd_121 (by decide +kernel)), ?_⟩
  refine List.forall_mem_cons.mpr ⟨ae_mk pu_al (fun X => ok_aload_n X (k := 0) rfl (by decide +kernel)), ?_⟩
  refine List.forall_mem_cons.mpr ⟨ae_mk pu_get (fun X => ok_get X (ci := 6) (kk := 1) (index := 7) rfl aw_c_Row (by decide) wd_122 (by decide +kernel)), ?_⟩
  refine List.forall_mem_cons.mpr ⟨ae_mk pu_al (fun X => ok_aload_n X (k := 1) rfl (by decide +kernel)), ?_⟩
  refine List.forall_mem_cons.mpr ⟨ae_mk pu_aas (fun X => ok_aas X (by decide +kernel)), ?_⟩
  refine List.forall_mem_cons.mpr ⟨ae_mk pu_al (fun X => ok_aload_n X (k := 0) rfl (by decide +kernel)), ?_⟩
  refine List.forall_mem_cons.mpr ⟨ae_mk pu_dup (fun X => ok_dup X (by decide +kernel)), ?_⟩
  refine List.forall_mem_cons.mpr ⟨ae_mk pu_get (fun X => ok_get X (ci := 6) (kk := 2) (index := 13) rfl aw_c_Row (by decide) wd_123 (by decide +kernel)), ?_⟩
  refine List.forall_mem_cons.mpr ⟨ae_mk (pu_push (fun _ => trivial)) (fun X => ok_iconst X (n := 1) (by decide) (by decide +kernel)), ?_⟩
  refine List.forall_mem_cons.mpr ⟨ae_mk pu_bin (fun X => ok_isub X (by decide +kernel)), ?_⟩
  refine List.forall_mem_cons.mpr ⟨ae_mk pu_put (fun X => ok_put X (ci := 6) (kk := 2) (index := 13) rfl aw_c_Row (by decide) wd_123 cy_Row cn_Row_ty cn_Row_nm rfl hk_int rfl (by decide +kernel)), ?_⟩
  refine List.forall_mem_cons.mpr ⟨ae_mk pu_al (fun X => ok_aload_n X (k := 0) rfl (by decide +kernel)), ?_⟩
  refine List.forall_mem_cons.mpr ⟨ae_mk pu_al (fun X => ok_aload_n X (k := 0) rfl (by decide +kernel)), ?_⟩
  refine List.forall_mem_cons.mpr ⟨ae_mk pu_get (fun X => ok_get X (ci := 6) (kk := 2) (index := 13) rfl aw_c_Row (by decide) wd_123 (by decide +kernel)), ?_⟩
  refine List.forall_mem_cons.mpr ⟨ae_mk pu_if (fun X => ok_if_eq X (off := 17) (by decide) (by decide +kernel)), ?_⟩
  refine List.forall_mem_cons.mpr ⟨ae_mk pu_al (fun X => ok_aload_n X (k := 0) rfl (by decide +kernel)), ?_⟩
  refine List.forall_mem_cons.mpr ⟨ae_mk pu_get (fun X => ok_get X (ci := 6) (kk := 1) (index := 7) rfl aw_c_Row (by decide) wd_122 (by decide +kernel)), ?_⟩
  refine List.forall_mem_cons.mpr ⟨ae_mk (pu_push (fun _ => trivial)) (fun X => ok_iconst X (n := 1) (by decide) (by decide +kernel)), ?_⟩
  refine List.forall_mem_cons.mpr ⟨ae_mk pu_bin (fun X => ok_iadd X (by decide +kernel)), ?_⟩
  refine List.forall_mem_cons.mpr ⟨ae_mk pu_al (fun X => ok_aload_n X (k := 0) rfl (by decide +kernel)), ?_⟩
  refine List.forall_mem_cons.mpr ⟨ae_mk pu_get (fun X => ok_get X (ci := 6) (kk := 0) (index := 18) rfl aw_c_Row (by decide) wd_121 (by decide +kernel)), ?_⟩
  refine List.forall_mem_cons.mpr ⟨ae_mk pu_len (fun X => ok_len X (by decide +kernel)), ?_⟩
  refine List.forall_mem_cons.mpr ⟨ae_mk pu_ic (fun X => ok_ic_lt X (off := 7) (by decide) (by decide +kernel)), ?_⟩
  refine List.forall_mem_cons.mpr ⟨ae_mk (pu_push (fun _ => trivial)) (fun X => ok_iconst X (n := 0) (by decide) (by decide +kernel)), ?_⟩
  refine List.forall_mem_cons.mpr ⟨ae_mk pu_goto (fun X => ok_goto X (off := 9) (by decide) (by decide +kernel)), ?_⟩
  refine List.forall_mem_cons.mpr ⟨ae_mk pu_al (fun X => ok_aload_n X (k := 0) rfl (by decide +kernel)), ?_⟩
  refine List.forall_mem_cons.mpr ⟨ae_mk pu_get (fun X => ok_get X (ci := 6) (kk := 1) (index := 7) rfl aw_c_Row (by decide) wd_122 (by decide +kernel)), ?_⟩
  refine List.forall_mem_cons.mpr ⟨ae_mk (pu_push (fun _ => trivial)) (fun X => ok_iconst X (n := 1) (by decide) (by decide +kernel)), ?_⟩
  refine List.forall_mem_cons.mpr ⟨ae_mk pu_bin (fun X => ok_iadd X (by decide +kernel)), ?_⟩
  refine List.forall_mem_cons.mpr ⟨ae_mk pu_put (fun X => ok_put X (ci := 6) (kk := 1) (index := 7) rfl aw_c_Row (by decide) wd_122 cy_Row cn_Row_ty cn_Row_nm rfl hk_int rfl (by decide +kernel)), ?_⟩
  refine List.forall_mem_cons.mpr ⟨ae_mk pu_al (fun X => ok_aload_n X (k := 2) rfl (by decide +kernel)), ?_⟩
  refine List.forall_mem_cons.mpr ⟨Or.inr (Or.inr ⟨Or.inl ⟨_, rfl⟩, (by decide +kernel), rt_ref⟩), ?_⟩
  exact fun _ h => absurd h List.not_mem_nil
def tb_62 : List (Nat × ae_I) := [(0, .inl (o_al 0 1)),
  (1, .inl (o_get 2 1 4)),
  (4, .inl (o_if (fun x => decide (x ≤ 0)) 26 7)),
  (7, .inl (o_il 1 8)),
  (8, .inl (o_al 0 9)),
  (9, .inl (o_get 2 1 12)),
  (12, .inl (o_dv (fun x y => x - x / y * y) 13)),
  (13, .inl (o_is 3 14)),
  (14, .inl (o_al 0 15)),
  (15, .inl (o_il 3 16)),
  (16, .inl (o_al 0 17)),
  (17, .inl (o_il 3 18)),
  (18, .inr (.inr (.inl (35, 2, 21, some 2, [])))),
  (21, .inl (o_il 2 22)),
  (22, .inl (o_bin (fun x y => x ^^^ y) 23)),
  (23, .inr (.inr (.inl (17, 3, 26, some 2, [])))),
  (26, .inr (.inl none))]
theorem te_62 : ∀ q ∈ tb_62, ae_E am "TwinNetwork$Frame" "spoil" prog_4_method_10_code 4 (Option.none : Option Jvm.ClassFile.FieldType) [] q := by
  unfold tb_62
  refine List.forall_mem_cons.mpr ⟨ae_mk pu_al (fun X => ok_aload_n X (k := 0) rfl (by decide +kernel)), ?_⟩
  refine List.forall_mem_cons.mpr ⟨ae_mk pu_get (fun X => ok_get X (ci := 2) (kk := 1) (index := 15) rfl aw_c_Frame (by decide) wd_81 (by decide +kernel)), ?_⟩
  refine List.forall_mem_cons.mpr ⟨ae_mk pu_if (fun X => ok_if_le X (off := 22) (by decide) (by decide +kernel)), ?_⟩
  refine List.forall_mem_cons.mpr ⟨ae_mk pu_il (fun X => ok_iload_n X (k := 1) rfl (by decide +kernel)), ?_⟩
  refine List.forall_mem_cons.mpr ⟨ae_mk pu_al (fun X => ok_aload_n X (k := 0) rfl (by decide +kernel)), ?_⟩
  refine List.forall_mem_cons.mpr ⟨ae_mk pu_get (fun X => ok_get X (ci := 2) (kk := 1) (index := 15) rfl aw_c_Frame (by decide) wd_81 (by decide +kernel)), ?_⟩
  refine List.forall_mem_cons.mpr ⟨ae_mk pu_dv (fun X => ok_irem X (by decide +kernel)), ?_⟩
  refine List.forall_mem_cons.mpr ⟨ae_mk pu_is (fun X => ok_istore_n X (k := 3) rfl (by decide +kernel)), ?_⟩
  refine List.forall_mem_cons.mpr ⟨ae_mk pu_al (fun X => ok_aload_n X (k := 0) rfl (by decide +kernel)), ?_⟩
  refine List.forall_mem_cons.mpr ⟨ae_mk pu_il (fun X => ok_iload_n X (k := 3) rfl (by decide +kernel)), ?_⟩
  refine List.forall_mem_cons.mpr ⟨ae_mk pu_al (fun X => ok_aload_n X (k := 0) rfl (by decide +kernel)), ?_⟩
  refine List.forall_mem_cons.mpr ⟨ae_mk pu_il (fun X => ok_iload_n X (k := 3) rfl (by decide +kernel)), ?_⟩
  refine List.forall_mem_cons.mpr ⟨ae_mkc (fun X => ok_callV X (mid := 35) (index := 48) (y := my_35) rfl (by decide) ⟨by decide, by decide⟩ (n := 1) (by decide +kernel) wd_317 wd_47 wd_314 wd_315 wd_316 (ci := 2) rfl (by decide +kernel)), ?_⟩
  refine List.forall_mem_cons.mpr ⟨ae_mk pu_il (fun X => ok_iload_n X (k := 2) rfl (by decide +kernel)), ?_⟩
  refine List.forall_mem_cons.mpr ⟨ae_mk pu_bin (fun X => ok_ixor X (by decide +kernel)), ?_⟩
  refine List.forall_mem_cons.mpr ⟨ae_mkc (fun X => ok_callV X (mid := 17) (index := 19) (y := my_17) rfl (by decide) ⟨by decide, by decide⟩ (n := 2) (by decide +kernel) wd_236 wd_47 wd_233 wd_234 wd_235 (ci := 2) rfl (by decide +kernel)), ?_⟩
  refine List.forall_mem_cons.mpr ⟨⟨rfl, (by decide +kernel)⟩, ?_⟩
  exact fun _ h => absurd h List.not_mem_nil
def tb_63 : List (Nat × ae_I) := [(0, .inl (o_il 1 1)),
  (1, .inl (o_if (fun x => decide (x < 0)) 18 4)),
  (4, .inl (o_il 1 5)),
  (5, .inl (o_al 0 6)),
  (6, .inl (o_get 7 4 9)),
  (9, .inl (o_get 0 1 12)),
  (12, .inl (o_push (.int 8) 14)),
  (14, .inl (o_bin (fun x y => x - y) 15)),
  (15, .inl (o_ic (fun x y => decide (x < y)) 20 18)),
  (18, .inl (o_push (.int (-1)) 19)),
  (19, .inr (.inl (some k_int))),
  (20, .inl (o_al 0 21)),
  (21, .inl (o_get 7 4 24)),
  (24, .inl (o_push (.int 8) 26)),
  (26, .inl (o_il 1 27)),
  (27, .inl (o_bin (fun x y => x + y) 28)),
  (28, .inr (.inr (.inl (53, 2, 31, some 0, [])))),
  (31, .inr (.inl (some k_int)))]
theorem te_63 : ∀ q ∈ tb_63, ae_E am "TwinNetwork" "byteOf" prog_1_method_6_code 2 (Option.some Jvm.ClassFile.FieldType.int) [] q := by
  unfold tb_63
  refine List.forall_mem_cons.mpr ⟨ae_mk pu_il (fun X => ok_iload_n X (k := 1) rfl (by decide +kernel)), ?_⟩
  refine List.forall_mem_cons.mpr ⟨ae_mk pu_if (fun X => ok_if_lt X (off := 17) (by decide) (by decide +kernel)), ?_⟩
  refine List.forall_mem_cons.mpr ⟨ae_mk pu_il (fun X => ok_iload_n X (k := 1) rfl (by decide +kernel)), ?_⟩
  refine List.forall_mem_cons.mpr ⟨ae_mk pu_al (fun X => ok_aload_n X (k := 0) rfl (by decide +kernel)), ?_⟩
  refine List.forall_mem_cons.mpr ⟨ae_mk pu_get (fun X => ok_get X (ci := 7) (kk := 4) (index := 35) rfl aw_c_Net (by decide) wd_168 (by decide +kernel)), ?_⟩
  refine List.forall_mem_cons.mpr ⟨ae_mk pu_get (fun X => ok_getN X (ci := 0) (kk := 1) (index := 115) rfl aw_c_Datagram (by decide) wd_99 (by decide +kernel)), ?_⟩
  refine List.forall_mem_cons.mpr ⟨ae_mk (pu_push (fun _ => trivial)) (fun X => ok_bipush X (n := 8) (by decide) (by decide +kernel)), ?_⟩
  refine List.forall_mem_cons.mpr ⟨ae_mk pu_bin (fun X => ok_isub X (by decide +kernel)), ?_⟩
  refine List.forall_mem_cons.mpr ⟨ae_mk pu_ic (fun X => ok_ic_lt X (off := 5) (by decide) (by decide +kernel)), ?_⟩
  refine List.forall_mem_cons.mpr ⟨ae_mk (pu_push (fun _ => trivial)) (fun X => ok_iconst X (n := (-1)) (by decide) (by decide +kernel)), ?_⟩
  refine List.forall_mem_cons.mpr ⟨Or.inl ⟨rfl, (by decide +kernel), rt_int⟩, ?_⟩
  refine List.forall_mem_cons.mpr ⟨ae_mk pu_al (fun X => ok_aload_n X (k := 0) rfl (by decide +kernel)), ?_⟩
  refine List.forall_mem_cons.mpr ⟨ae_mk pu_get (fun X => ok_get X (ci := 7) (kk := 4) (index := 35) rfl aw_c_Net (by decide) wd_168 (by decide +kernel)), ?_⟩
  refine List.forall_mem_cons.mpr ⟨ae_mk (pu_push (fun _ => trivial)) (fun X => ok_bipush X (n := 8) (by decide) (by decide +kernel)), ?_⟩
  refine List.forall_mem_cons.mpr ⟨ae_mk pu_il (fun X => ok_iload_n X (k := 1) rfl (by decide +kernel)), ?_⟩
  refine List.forall_mem_cons.mpr ⟨ae_mk pu_bin (fun X => ok_iadd X (by decide +kernel)), ?_⟩
  refine List.forall_mem_cons.mpr ⟨ae_mkc (fun X => ok_callV X (mid := 53) (index := 118) (y := my_53) rfl (by decide) ⟨by decide, by decide⟩ (n := 1) (by decide +kernel) wd_390 wd_48 wd_436 wd_388 wd_389 (ci := 0) rfl (by decide +kernel)), ?_⟩
  refine List.forall_mem_cons.mpr ⟨Or.inl ⟨rfl, (by decide +kernel), rt_int⟩, ?_⟩
  exact fun _ h => absurd h List.not_mem_nil
def tb_64 : List (Nat × ae_I) := [(0, .inl (o_al 0 1)),
  (1, .inl (o_il 1 2)),
  (2, .inl (o_il 2 3)),
  (3, .inr (.inr (.inl (65, 3, 6, some 7, [])))),
  (6, .inl (o_as 3 7)),
  (7, .inl (o_al 3 8)),
  (8, .inl (o_nul 11 15)),
  (11, .inl (o_push (.int (-1)) 12)),
  (12, .inl (o_goto 23)),
  (15, .inl (o_al 3 16)),
  (16, .inl (o_al 0 17)),
  (17, .inl (o_get 7 5 20)),
  (20, .inr (.inr (.inl (66, 2, 23, some 5, [])))),
  (23, .inr (.inl (some k_int)))]
theorem te_64 : ∀ q ∈ tb_64, ae_E am "TwinNetwork" "port" prog_1_method_7_code 4 (Option.some Jvm.ClassFile.FieldType.int) [] q := by
  unfold tb_64
  refine List.forall_mem_cons.mpr ⟨ae_mk pu_al (fun X => ok_aload_n X (k := 0) rfl (by decide +kernel)), ?_⟩
  refine List.forall_mem_cons.mpr ⟨ae_mk pu_il (fun X => ok_iload_n X (k := 1) rfl (by decide +kernel)), ?_⟩
  refine List.forall_mem_cons.mpr ⟨ae_mk pu_il (fun X => ok_iload_n X (k := 2) rfl (by decide +kernel)), ?_⟩
  refine List.forall_mem_cons.mpr ⟨ae_mkc (fun X => ok_callV X (mid := 65) (index := 101) (y := my_65) rfl (by decide) ⟨by decide, by decide⟩ (n := 2) (by decide +kernel) wd_444 wd_46 wd_441 wd_443 wd_16 (ci := 7) rfl (by decide +kernel)), ?_⟩
  refine List.forall_mem_cons.mpr ⟨ae_mk pu_as (fun X => ok_astore_n X (k := 3) rfl (by decide +kernel)), ?_⟩
  refine List.forall_mem_cons.mpr ⟨ae_mk pu_al (fun X => ok_aload_n X (k := 3) rfl (by decide +kernel)), ?_⟩
  refine List.forall_mem_cons.mpr ⟨ae_mk pu_nul (fun X => ok_ifnonnull X (off := 7) (by decide) (by decide +kernel)), ?_⟩
  refine List.forall_mem_cons.mpr ⟨ae_mk (pu_push (fun _ => trivial)) (fun X => ok_iconst X (n := (-1)) (by decide) (by decide +kernel)), ?_⟩
  refine List.forall_mem_cons.mpr ⟨ae_mk pu_goto (fun X => ok_goto X (off := 11) (by decide) (by decide +kernel)), ?_⟩
  refine List.forall_mem_cons.mpr ⟨ae_mk pu_al (fun X => ok_aload_n X (k := 3) rfl (by decide +kernel)), ?_⟩
  refine List.forall_mem_cons.mpr ⟨ae_mk pu_al (fun X => ok_aload_n X (k := 0) rfl (by decide +kernel)), ?_⟩
  refine List.forall_mem_cons.mpr ⟨ae_mk pu_get (fun X => ok_get X (ci := 7) (kk := 5) (index := 39) rfl aw_c_Net (by decide) wd_169 (by decide +kernel)), ?_⟩
  refine List.forall_mem_cons.mpr ⟨ae_mkc (fun X => ok_callV X (mid := 66) (index := 121) (y := my_66) rfl (by decide) ⟨by decide, by decide⟩ (n := 1) (by decide +kernel) wd_448 wd_58 wd_445 wd_446 wd_447 (ci := 5) rfl (by decide +kernel)), ?_⟩
  refine List.forall_mem_cons.mpr ⟨Or.inl ⟨rfl, (by decide +kernel), rt_int⟩, ?_⟩
  exact fun _ h => absurd h List.not_mem_nil
def tb_65 : List (Nat × ae_I) := [(0, .inl (o_al 0 1)),
  (1, .inl (o_il 2 2)),
  (2, .inr (.inr (.inl (37, 2, 5, some 7, [])))),
  (5, .inl (o_as 3 6)),
  (6, .inl (o_al 3 7)),
  (7, .inl (o_nul 10 14)),
  (10, .inl (o_push .null 11)),
  (11, .inl (o_goto 19)),
  (14, .inl (o_al 3 15)),
  (15, .inl (o_il 1 16)),
  (16, .inr (.inr (.inl (39, 2, 19, some 4, [])))),
  (19, .inr (.inl (some k_ref)))]
theorem te_65 : ∀ q ∈ tb_65, ae_E am "TwinNetwork" "portAt" prog_1_method_22_code 4 (Option.some (Jvm.ClassFile.FieldType.object "TwinNetwork$Port")) [] q := by
  unfold tb_65
  refine List.forall_mem_cons.mpr ⟨ae_mk pu_al (fun X => ok_aload_n X (k := 0) rfl (by decide +kernel)), ?_⟩
  refine List.forall_mem_cons.mpr ⟨ae_mk pu_il (fun X => ok_iload_n X (k := 2) rfl (by decide +kernel)), ?_⟩
  refine List.forall_mem_cons.mpr ⟨ae_mkc (fun X => ok_callV X (mid := 37) (index := 69) (y := my_37) rfl (by decide) ⟨by decide, by decide⟩ (n := 1) (by decide +kernel) wd_325 wd_46 wd_322 wd_324 wd_10 (ci := 7) rfl (by decide +kernel)), ?_⟩
  refine List.forall_mem_cons.mpr ⟨ae_mk pu_as (fun X => ok_astore_n X (k := 3) rfl (by decide +kernel)), ?_⟩
  refine List.forall_mem_cons.mpr ⟨ae_mk pu_al (fun X => ok_aload_n X (k := 3) rfl (by decide +kernel)), ?_⟩
  refine List.forall_mem_cons.mpr ⟨ae_mk pu_nul (fun X => ok_ifnonnull X (off := 7) (by decide) (by decide +kernel)), ?_⟩
  refine List.forall_mem_cons.mpr ⟨ae_mk (pu_push (fun _ => trivial)) (fun X => ok_null X (by decide +kernel)), ?_⟩
  refine List.forall_mem_cons.mpr ⟨ae_mk pu_goto (fun X => ok_goto X (off := 8) (by decide) (by decide +kernel)), ?_⟩
  refine List.forall_mem_cons.mpr ⟨ae_mk pu_al (fun X => ok_aload_n X (k := 3) rfl (by decide +kernel)), ?_⟩
  refine List.forall_mem_cons.mpr ⟨ae_mk pu_il (fun X => ok_iload_n X (k := 1) rfl (by decide +kernel)), ?_⟩
  refine List.forall_mem_cons.mpr ⟨ae_mkc (fun X => ok_callV X (mid := 39) (index := 177) (y := my_39) rfl (by decide) ⟨by decide, by decide⟩ (n := 1) (by decide +kernel) wd_332 wd_57 wd_329 wd_330 wd_331 (ci := 4) rfl (by decide +kernel)), ?_⟩
  refine List.forall_mem_cons.mpr ⟨Or.inr (Or.inr ⟨Or.inl ⟨_, rfl⟩, (by decide +kernel), rt_ref⟩), ?_⟩
  exact fun _ h => absurd h List.not_mem_nil
def tb_66 : List (Nat × ae_I) := [(0, .inl (o_al 0 1)),
  (1, .inl (o_get 5 0 4)),
  (4, .inl (o_if (fun x => decide (x = 0)) 12 7)),
  (7, .inl (o_al 0 8)),
  (8, .inl (o_get 5 10 11)),
  (11, .inr (.inl (some k_int))),
  (12, .inl (o_al 0 13)),
  (13, .inl (o_get 5 10 16)),
  (16, .inl (o_if (fun x => decide (¬ x = 0)) 23 19)),
  (19, .inl (o_push (.int (-1)) 20)),
  (20, .inl (o_goto 29)),
  (23, .inl (o_il 1 24)),
  (24, .inl (o_al 0 25)),
  (25, .inl (o_get 5 11 28)),
  (28, .inl (o_bin (fun x y => x - y) 29)),
  (29, .inr (.inl (some k_int)))]
theorem te_66 : ∀ q ∈ tb_66, ae_E am "TwinNetwork$Port" "state" prog_7_method_9_code 2 (Option.some Jvm.ClassFile.FieldType.int) [] q := by
  unfold tb_66
  refine List.forall_mem_cons.mpr ⟨ae_mk pu_al (fun X => ok_aload_n X (k := 0) rfl (by decide +kernel)), ?_⟩
  refine List.forall_mem_cons.mpr ⟨ae_mk pu_get (fun X => ok_get X (ci := 5) (kk := 0) (index := 45) rfl aw_c_Port (by decide) wd_606 (by decide +kernel)), ?_⟩
  refine List.forall_mem_cons.mpr ⟨ae_mk pu_if (fun X => ok_if_eq X (off := 8) (by decide) (by decide +kernel)), ?_⟩
  refine List.forall_mem_cons.mpr ⟨ae_mk pu_al (fun X => ok_aload_n X (k := 0) rfl (by decide +kernel)), ?_⟩
  refine List.forall_mem_cons.mpr ⟨ae_mk pu_get (fun X => ok_get X (ci := 5) (kk := 10) (index := 39) rfl aw_c_Port (by decide) wd_616 (by decide +kernel)), ?_⟩
  refine List.forall_mem_cons.mpr ⟨Or.inl ⟨rfl, (by decide +kernel), rt_int⟩, ?_⟩
  refine List.forall_mem_cons.mpr ⟨ae_mk pu_al (fun X => ok_aload_n X (k := 0) rfl (by decide +kernel)), ?_⟩
  refine List.forall_mem_cons.mpr ⟨ae_mk pu_get (fun X => ok_get X (ci := 5) (kk := 10) (index := 39) rfl aw_c_Port (by decide) wd_616 (by decide +kernel)), ?_⟩
  refine List.forall_mem_cons.mpr ⟨ae_mk pu_if (fun X => ok_if_ne X (off := 7) (by decide) (by decide +kernel)), ?_⟩
  refine List.forall_mem_cons.mpr ⟨ae_mk (pu_push (fun _ => trivial)) (fun X => ok_iconst X (n := (-1)) (by decide) (by decide +kernel)), ?_⟩
  refine List.forall_mem_cons.mpr ⟨ae_mk pu_goto (fun X => ok_goto X (off := 9) (by decide) (by decide +kernel)), ?_⟩
  refine List.forall_mem_cons.mpr ⟨ae_mk pu_il (fun X => ok_iload_n X (k := 1) rfl (by decide +kernel)), ?_⟩
  refine List.forall_mem_cons.mpr ⟨ae_mk pu_al (fun X => ok_aload_n X (k := 0) rfl (by decide +kernel)), ?_⟩
  refine List.forall_mem_cons.mpr ⟨ae_mk pu_get (fun X => ok_get X (ci := 5) (kk := 11) (index := 42) rfl aw_c_Port (by decide) wd_617 (by decide +kernel)), ?_⟩
  refine List.forall_mem_cons.mpr ⟨ae_mk pu_bin (fun X => ok_isub X (by decide +kernel)), ?_⟩
  refine List.forall_mem_cons.mpr ⟨Or.inl ⟨rfl, (by decide +kernel), rt_int⟩, ?_⟩
  exact fun _ h => absurd h List.not_mem_nil
def tb_67 : List (Nat × ae_I) := [(0, .inl (o_al 0 1)),
  (1, .inl (o_il 1 2)),
  (2, .inl (o_il 2 3)),
  (3, .inr (.inr (.inl (26, 3, 6, some 7, [])))),
  (6, .inl (o_as 5 8)),
  (8, .inl (o_al 5 10)),
  (10, .inl (o_nul 26 13)),
  (13, .inl (o_il 4 15)),
  (15, .inl (o_if (fun x => decide (x < 0)) 26 18)),
  (18, .inl (o_il 4 20)),
  (20, .inl (o_push (.int 255) 23)),
  (23, .inl (o_ic (fun x y => decide (x ≤ y)) 28 26)),
  (26, .inl (o_push (.int 0) 27)),
  (27, .inr (.inl (some k_bool))),
  (28, .inl (o_al 5 30)),
  (30, .inl (o_il 3 31)),
  (31, .inl (o_push (.int (2147483647 : Int32)) 33)),
  (33, .inl (o_bin (fun x y => x &&& y) 34)),
  (34, .inl (o_il 4 36)),
  (36, .inr (.inr (.inl (68, 3, 39, some 3, [])))),
  (39, .inl (o_push (.int 1) 40)),
  (40, .inr (.inl (some k_bool)))]
theorem te_67 : ∀ q ∈ tb_67, ae_E am "TwinNetwork" "harm" prog_1_method_8_code 6 (Option.some Jvm.ClassFile.FieldType.boolean) [] q := by
  unfold tb_67
  refine List.forall_mem_cons.mpr ⟨ae_mk pu_al (fun X => ok_aload_n X (k := 0) rfl (by decide +kernel)), ?_⟩
  refine List.forall_mem_cons.mpr ⟨ae_mk pu_il (fun X => ok_iload_n X (k := 1) rfl (by decide +kernel)), ?_⟩
  refine List.forall_mem_cons.mpr ⟨ae_mk pu_il (fun X => ok_iload_n X (k := 2) rfl (by decide +kernel)), ?_⟩
  refine List.forall_mem_cons.mpr ⟨ae_mkc (fun X => ok_callV X (mid := 26) (index := 124) (y := my_26) rfl (by decide) ⟨by decide, by decide⟩ (n := 2) (by decide +kernel) wd_276 wd_46 wd_273 wd_275 wd_7 (ci := 7) rfl (by decide +kernel)), ?_⟩
  refine List.forall_mem_cons.mpr ⟨ae_mk pu_as (fun X => ok_astore X (by decide +kernel)), ?_⟩
  refine List.forall_mem_cons.mpr ⟨ae_mk pu_al (fun X => ok_aload X (by decide +kernel)), ?_⟩
  refine List.forall_mem_cons.mpr ⟨ae_mk pu_nul (fun X => ok_ifnull X (off := 16) (by decide) (by decide +kernel)), ?_⟩
  refine List.forall_mem_cons.mpr ⟨ae_mk pu_il (fun X => ok_iload X (by decide +kernel)), ?_⟩
  refine List.forall_mem_cons.mpr ⟨ae_mk pu_if (fun X => ok_if_lt X (off := 11) (by decide) (by decide +kernel)), ?_⟩
  refine List.forall_mem_cons.mpr ⟨ae_mk pu_il (fun X => ok_iload X (by decide +kernel)), ?_⟩
  refine List.forall_mem_cons.mpr ⟨ae_mk (pu_push (fun _ => trivial)) (fun X => ok_sipush X (n := 255) (by decide) (by decide +kernel)), ?_⟩
  refine List.forall_mem_cons.mpr ⟨ae_mk pu_ic (fun X => ok_ic_le X (off := 5) (by decide) (by decide +kernel)), ?_⟩
  refine List.forall_mem_cons.mpr ⟨ae_mk (pu_push (fun _ => trivial)) (fun X => ok_iconst X (n := 0) (by decide) (by decide +kernel)), ?_⟩
  refine List.forall_mem_cons.mpr ⟨Or.inr (Or.inl ⟨rfl, (by decide +kernel), rt_bool⟩), ?_⟩
  refine List.forall_mem_cons.mpr ⟨ae_mk pu_al (fun X => ok_aload X (by decide +kernel)), ?_⟩
  refine List.forall_mem_cons.mpr ⟨ae_mk pu_il (fun X => ok_iload_n X (k := 3) rfl (by decide +kernel)), ?_⟩
  refine List.forall_mem_cons.mpr ⟨ae_mk (pu_push (fun _ => trivial)) (fun X => ok_ldc X (index := 128) wd_453 (by decide +kernel)), ?_⟩
  refine List.forall_mem_cons.mpr ⟨ae_mk pu_bin (fun X => ok_iand X (by decide +kernel)), ?_⟩
  refine List.forall_mem_cons.mpr ⟨ae_mk pu_il (fun X => ok_iload X (by decide +kernel)), ?_⟩
  refine List.forall_mem_cons.mpr ⟨ae_mkc (fun X => ok_callV X (mid := 68) (index := 129) (y := my_68) rfl (by decide) ⟨by decide, by decide⟩ (n := 2) (by decide +kernel) wd_457 wd_49 wd_454 wd_455 wd_456 (ci := 3) rfl (by decide +kernel)), ?_⟩
  refine List.forall_mem_cons.mpr ⟨ae_mk (pu_push (fun _ => trivial)) (fun X => ok_iconst X (n := 1) (by decide) (by decide +kernel)), ?_⟩
  refine List.forall_mem_cons.mpr ⟨Or.inr (Or.inl ⟨rfl, (by decide +kernel), rt_bool⟩), ?_⟩
  exact fun _ h => absurd h List.not_mem_nil
def tb_68 : List (Nat × ae_I) := [(0, .inl (o_al 0 1)),
  (1, .inl (o_push (.int 1) 2)),
  (2, .inl (o_put 3 6 k_bool 5)),
  (5, .inl (o_al 0 6)),
  (6, .inl (o_il 1 7)),
  (7, .inl (o_put 3 7 k_int 10)),
  (10, .inl (o_al 0 11)),
  (11, .inl (o_il 2 12)),
  (12, .inl (o_put 3 8 k_int 15)),
  (15, .inr (.inl none))]
theorem te_68 : ∀ q ∈ tb_68, ae_E am "TwinNetwork$Line" "expectHarm" prog_5_method_3_code 3 (Option.none : Option Jvm.ClassFile.FieldType) [] q := by
  unfold tb_68
  refine List.forall_mem_cons.mpr ⟨ae_mk pu_al (fun X => ok_aload_n X (k := 0) rfl (by decide +kernel)), ?_⟩
  refine List.forall_mem_cons.mpr ⟨ae_mk (pu_push (fun _ => trivial)) (fun X => ok_iconst X (n := 1) (by decide) (by decide +kernel)), ?_⟩
  refine List.forall_mem_cons.mpr ⟨ae_mk pu_put (fun X => ok_put X (ci := 3) (kk := 6) (index := 26) rfl aw_c_Line (by decide) wd_142 cy_Line cn_Line_ty cn_Line_nm rfl hk_bool rfl (by decide +kernel)), ?_⟩
  refine List.forall_mem_cons.mpr ⟨ae_mk pu_al (fun X => ok_aload_n X (k := 0) rfl (by decide +kernel)), ?_⟩
  refine List.forall_mem_cons.mpr ⟨ae_mk pu_il (fun X => ok_iload_n X (k := 1) rfl (by decide +kernel)), ?_⟩
  refine List.forall_mem_cons.mpr ⟨ae_mk pu_put (fun X => ok_put X (ci := 3) (kk := 7) (index := 29) rfl aw_c_Line (by decide) wd_143 cy_Line cn_Line_ty cn_Line_nm rfl hk_int rfl (by decide +kernel)), ?_⟩
  refine List.forall_mem_cons.mpr ⟨ae_mk pu_al (fun X => ok_aload_n X (k := 0) rfl (by decide +kernel)), ?_⟩
  refine List.forall_mem_cons.mpr ⟨ae_mk pu_il (fun X => ok_iload_n X (k := 2) rfl (by decide +kernel)), ?_⟩
  refine List.forall_mem_cons.mpr ⟨ae_mk pu_put (fun X => ok_put X (ci := 3) (kk := 8) (index := 32) rfl aw_c_Line (by decide) wd_144 cy_Line cn_Line_ty cn_Line_nm rfl hk_int rfl (by decide +kernel)), ?_⟩
  refine List.forall_mem_cons.mpr ⟨⟨rfl, (by decide +kernel)⟩, ?_⟩
  exact fun _ h => absurd h List.not_mem_nil
def tb_69 : List (Nat × ae_I) := [(0, .inl (o_il 1 1)),
  (1, .inr (.inr (.inl (27, 1, 4, none, [])))),
  (4, .inl (o_if (fun x => decide (x = 0)) 36 7)),
  (7, .inl (o_il 2 8)),
  (8, .inr (.inr (.inl (40, 1, 11, none, [])))),
  (11, .inl (o_if (fun x => decide (x = 0)) 36 14)),
  (14, .inl (o_il 3 15)),
  (15, .inr (.inr (.inl (38, 1, 18, none, [])))),
  (18, .inl (o_if (fun x => decide (x = 0)) 36 21)),
  (21, .inl (o_il 4 23)),
  (23, .inl (o_push (.int 64) 25)),
  (25, .inl (o_ic (fun x y => decide (x < y)) 36 28)),
  (28, .inl (o_il 4 30)),
  (30, .inl (o_push (.int 200) 33)),
  (33, .inl (o_ic (fun x y => decide (x ≤ y)) 38 36)),
  (36, .inl (o_push (.int 0) 37)),
  (37, .inr (.inl (some k_bool))),
  (38, .inl (o_al 0 39)),
  (39, .inl (o_get 7 3 42)),
  (42, .inl (o_il 3 43)),
  (43, .inl (o_il 2 44)),
  (44, .inl (o_il 1 45)),
  (45, .inl (o_il 4 47)),
  (47, .inl (o_push (.int 39) 49)),
  (49, .inl (o_bin (fun x y => x - y) 50)),
  (50, .inr (.inr (.inl (16, 5, 53, some 2, [])))),
  (53, .inl (o_al 0 54)),
  (54, .inl (o_get 7 3 57)),
  (57, .inl (o_il 5 59)),
  (59, .inl (o_push (.int (65535 : Int32)) 61)),
  (61, .inl (o_bin (fun x y => x &&& y) 62)),
  (62, .inl (o_push (.int 0) 63)),
  (63, .inl (o_push (.int 0) 64)),
  (64, .inr (.inr (.inl (19, 4, 67, some 2, [])))),
  (67, .inl (o_al 0 68)),
  (68, .inl (o_get 7 3 71)),
  (71, .inl (o_il 5 73)),
  (73, .inl (o_push (.int 255) 76)),
  (76, .inl (o_bin (fun x y => x &&& y) 77)),
  (77, .inr (.inr (.inl (21, 2, 80, some 2, [])))),
  (80, .inl (o_al 0 81)),
  (81, .inl (o_il 1 82)),
  (82, .inl (o_il 2 83)),
  (83, .inl (o_push (.int 0) 84)),
  (84, .inl (o_al 0 85)),
  (85, .inl (o_get 7 3 88)),
  (88, .inr (.inr (.inl (25, 5, 91, some 7, [])))),
  (91, .inr (.inl (some k_bool)))]
theorem te_69 : ∀ q ∈ tb_69, ae_E am "TwinNetwork" "babble" prog_1_method_9_code 6 (Option.some Jvm.ClassFile.FieldType.boolean) [] q := by
  unfold tb_69
  refine List.forall_mem_cons.mpr ⟨ae_mk pu_il (fun X => ok_iload_n X (k := 1) rfl (by decide +kernel)), ?_⟩
  refine List.forall_mem_cons.mpr ⟨ae_mkc (fun X => ok_callS X (mid := 27) (index := 132) (y := my_27) rfl (by decide) ⟨by decide, by decide⟩ (n := 1) (by decide +kernel) wd_279 wd_46 wd_277 wd_278 (by decide +kernel)), ?_⟩
  refine List.forall_mem_cons.mpr ⟨ae_mk pu_if (fun X => ok_if_eq X (off := 32) (by decide) (by decide +kernel)), ?_⟩
  refine List.forall_mem_cons.mpr ⟨ae_mk pu_il (fun X => ok_iload_n X (k := 2) rfl (by decide +kernel)), ?_⟩
  refine List.forall_mem_cons.mpr ⟨ae_mkc (fun X => ok_callS X (mid := 40) (index := 50) (y := my_40) rfl (by decide) ⟨by decide, by decide⟩ (n := 1) (by decide +kernel) wd_335 wd_46 wd_462 wd_334 (by decide +kernel)), ?_⟩
  refine List.forall_mem_cons.mpr ⟨ae_mk pu_if (fun X => ok_if_eq X (off := 25) (by decide) (by decide +kernel)), ?_⟩
  refine List.forall_mem_cons.mpr ⟨ae_mk pu_il (fun X => ok_iload_n X (k := 3) rfl (by decide +kernel)), ?_⟩
  refine List.forall_mem_cons.mpr ⟨ae_mkc (fun X => ok_callS X (mid := 38) (index := 46) (y := my_38) rfl (by decide) ⟨by decide, by decide⟩ (n := 1) (by decide +kernel) wd_328 wd_46 wd_326 wd_327 (by decide +kernel)), ?_⟩
  refine List.forall_mem_cons.mpr ⟨ae_mk pu_if (fun X => ok_if_eq X (off := 18) (by decide) (by decide +kernel)), ?_⟩
  refine List.forall_mem_cons.mpr ⟨ae_mk pu_il (fun X => ok_iload X (by decide +kernel)), ?_⟩
  refine List.forall_mem_cons.mpr ⟨ae_mk (pu_push (fun _ => trivial)) (fun X => ok_bipush X (n := 64) (by decide) (by decide +kernel)), ?_⟩
  refine List.forall_mem_cons.mpr ⟨ae_mk pu_ic (fun X => ok_ic_lt X (off := 11) (by decide) (by decide +kernel)), ?_⟩
  refine List.forall_mem_cons.mpr ⟨ae_mk pu_il (fun X => ok_iload X (by decide +kernel)), ?_⟩
  refine List.forall_mem_cons.mpr ⟨ae_mk (pu_push (fun _ => trivial)) (fun X => ok_sipush X (n := 200) (by decide) (by decide +kernel)), ?_⟩
  refine List.forall_mem_cons.mpr ⟨ae_mk pu_ic (fun X => ok_ic_le X (off := 5) (by decide) (by decide +kernel)), ?_⟩
  refine List.forall_mem_cons.mpr ⟨ae_mk (pu_push (fun _ => trivial)) (fun X => ok_iconst X (n := 0) (by decide) (by decide +kernel)), ?_⟩
  refine List.forall_mem_cons.mpr ⟨Or.inr (Or.inl ⟨rfl, (by decide +kernel), rt_bool⟩), ?_⟩
  refine List.forall_mem_cons.mpr ⟨ae_mk pu_al (fun X => ok_aload_n X (k := 0) rfl (by decide +kernel)), ?_⟩
  refine List.forall_mem_cons.mpr ⟨ae_mk pu_get (fun X => ok_get X (ci := 7) (kk := 3) (index := 28) rfl aw_c_Net (by decide) wd_167 (by decide +kernel)), ?_⟩
  refine List.forall_mem_cons.mpr ⟨ae_mk pu_il (fun X => ok_iload_n X (k := 3) rfl (by decide +kernel)), ?_⟩
  refine List.forall_mem_cons.mpr ⟨ae_mk pu_il (fun X => ok_iload_n X (k := 2) rfl (by decide +kernel)), ?_⟩
  refine List.forall_mem_cons.mpr ⟨ae_mk pu_il (fun X => ok_iload_n X (k := 1) rfl (by decide +kernel)), ?_⟩
  refine List.forall_mem_cons.mpr ⟨ae_mk pu_il (fun X => ok_iload X (by decide +kernel)), ?_⟩
  refine List.forall_mem_cons.mpr ⟨ae_mk (pu_push (fun _ => trivial)) (fun X => ok_bipush X (n := 39) (by decide) (by decide +kernel)), ?_⟩
  refine List.forall_mem_cons.mpr ⟨ae_mk pu_bin (fun X => ok_isub X (by decide +kernel)), ?_⟩
  refine List.forall_mem_cons.mpr ⟨ae_mkc (fun X => ok_callV X (mid := 16) (index := 135) (y := my_16) rfl (by decide) ⟨by decide, by decide⟩ (n := 4) (by decide +kernel) wd_228 wd_47 wd_225 wd_226 wd_227 (ci := 2) rfl (by decide +kernel)), ?_⟩
  refine List.forall_mem_cons.mpr ⟨ae_mk pu_al (fun X => ok_aload_n X (k := 0) rfl (by decide +kernel)), ?_⟩
  refine List.forall_mem_cons.mpr ⟨ae_mk pu_get (fun X => ok_get X (ci := 7) (kk := 3) (index := 28) rfl aw_c_Net (by decide) wd_167 (by decide +kernel)), ?_⟩
  refine List.forall_mem_cons.mpr ⟨ae_mk pu_il (fun X => ok_iload X (by decide +kernel)), ?_⟩
  refine List.forall_mem_cons.mpr ⟨ae_mk (pu_push (fun _ => trivial)) (fun X => ok_ldc X (index := 139) wd_463 (by decide +kernel)), ?_⟩
  refine List.forall_mem_cons.mpr ⟨ae_mk pu_bin (fun X => ok_iand X (by decide +kernel)), ?_⟩
  refine List.forall_mem_cons.mpr ⟨ae_mk (pu_push (fun _ => trivial)) (fun X => ok_iconst X (n := 0) (by decide) (by decide +kernel)), ?_⟩
  refine List.forall_mem_cons.mpr ⟨ae_mk (pu_push (fun _ => trivial)) (fun X => ok_iconst X (n := 0) (by decide) (by decide +kernel)), ?_⟩
  refine List.forall_mem_cons.mpr ⟨ae_mkc (fun X => ok_callV X (mid := 19) (index := 140) (y := my_19) rfl (by decide) ⟨by decide, by decide⟩ (n := 3) (by decide +kernel) wd_244 wd_47 wd_241 wd_242 wd_243 (ci := 2) rfl (by decide +kernel)), ?_⟩
  refine List.forall_mem_cons.mpr ⟨ae_mk pu_al (fun X => ok_aload_n X (k := 0) rfl (by decide +kernel)), ?_⟩
  refine List.forall_mem_cons.mpr ⟨ae_mk pu_get (fun X => ok_get X (ci := 7) (kk := 3) (index := 28) rfl aw_c_Net (by decide) wd_167 (by decide +kernel)), ?_⟩
  refine List.forall_mem_cons.mpr ⟨ae_mk pu_il (fun X => ok_iload X (by decide +kernel)), ?_⟩
  refine List.forall_mem_cons.mpr ⟨ae_mk (pu_push (fun _ => trivial)) (fun X => ok_sipush X (n := 255) (by decide) (by decide +kernel)), ?_⟩
  refine List.forall_mem_cons.mpr ⟨ae_mk pu_bin (fun X => ok_iand X (by decide +kernel)), ?_⟩
  refine List.forall_mem_cons.mpr ⟨ae_mkc (fun X => ok_callV X (mid := 21) (index := 144) (y := my_21) rfl (by decide) ⟨by decide, by decide⟩ (n := 1) (by decide +kernel) wd_253 wd_47 wd_250 wd_251 wd_252 (ci := 2) rfl (by decide +kernel)), ?_⟩
  refine List.forall_mem_cons.mpr ⟨ae_mk pu_al (fun X => ok_aload_n X (k := 0) rfl (by decide +kernel)), ?_⟩
  refine List.forall_mem_cons.mpr ⟨ae_mk pu_il (fun X => ok_iload_n X (k := 1) rfl (by decide +kernel)), ?_⟩
  refine List.forall_mem_cons.mpr ⟨ae_mk pu_il (fun X => ok_iload_n X (k := 2) rfl (by decide +kernel)), ?_⟩
  refine List.forall_mem_cons.mpr ⟨ae_mk (pu_push (fun _ => trivial)) (fun X => ok_iconst X (n := 0) (by decide) (by decide +kernel)), ?_⟩
  refine List.forall_mem_cons.mpr ⟨ae_mk pu_al (fun X => ok_aload_n X (k := 0) rfl (by decide +kernel)), ?_⟩
  refine List.forall_mem_cons.mpr ⟨ae_mk pu_get (fun X => ok_get X (ci := 7) (kk := 3) (index := 28) rfl aw_c_Net (by decide) wd_167 (by decide +kernel)), ?_⟩
  refine List.forall_mem_cons.mpr ⟨ae_mkc (fun X => ok_callV X (mid := 25) (index := 147) (y := my_25) rfl (by decide) ⟨by decide, by decide⟩ (n := 4) (by decide +kernel) wd_272 wd_46 wd_269 wd_271 wd_6 (ci := 7) rfl (by decide +kernel)), ?_⟩
  refine List.forall_mem_cons.mpr ⟨Or.inr (Or.inl ⟨rfl, (by decide +kernel), rt_bool⟩), ?_⟩
  exact fun _ h => absurd h List.not_mem_nil
def tb_70 : List (Nat × ae_I) := [(0, .inl (o_al 0 1)),
  (1, .inl (o_il 1 2)),
  (2, .inl (o_il 2 3)),
  (3, .inr (.inr (.inl (26, 3, 6, some 7, [])))),
  (6, .inl (o_as 4 8)),
  (8, .inl (o_al 4 10)),
  (10, .inl (o_nul 21 13)),
  (13, .inl (o_al 4 15)),
  (15, .inl (o_get 3 4 18)),
  (18, .inl (o_if (fun x => decide (¬ x = 0)) 23 21)),
  (21, .inl (o_push (.int (-1)) 22)),
  (22, .inr (.inl (some k_int))),
  (23, .inl (o_il 3 24)),
  (24, .inl (o_push (.int (-1)) 25)),
  (25, .inl (o_ic (fun x y => decide (¬ x = y)) 39 28)),
  (28, .inl (o_al 4 30)),
  (30, .inl (o_get 3 3 33)),
  (33, .inl (o_get 2 1 36)),
  (36, .inl (o_goto 48)),
  (39, .inl (o_al 4 41)),
  (41, .inl (o_get 3 3 44)),
  (44, .inl (o_il 3 45)),
  (45, .inr (.inr (.inl (35, 2, 48, some 2, [])))),
  (48, .inr (.inl (some k_int)))]
theorem te_70 : ∀ q ∈ tb_70, ae_E am "TwinNetwork" "onLine" prog_1_method_10_code 5 (Option.some Jvm.ClassFile.FieldType.int) [] q := by
  unfold tb_70
  refine List.forall_mem_cons.mpr ⟨ae_mk pu_al (fun X => ok_aload_n X (k := 0) rfl (by decide +kernel)), ?_⟩
  refine List.forall_mem_cons.mpr ⟨ae_mk pu_il (fun X => ok_iload_n X (k := 1) rfl (by decide +kernel)), ?_⟩
  refine List.forall_mem_cons.mpr ⟨ae_mk pu_il (fun X => ok_iload_n X (k := 2) rfl (by decide +kernel)), ?_⟩
  refine List.forall_mem_cons.mpr ⟨ae_mkc (fun X => ok_callV X (mid := 26) (index := 124) (y := my_26) rfl (by decide) ⟨by decide, by decide⟩ (n := 2) (by decide +kernel) wd_276 wd_46 wd_273 wd_275 wd_7 (ci := 7) rfl (by decide +kernel)), ?_⟩
  refine List.forall_mem_cons.mpr ⟨ae_mk pu_as (fun X => ok_astore X (by decide +kernel)), ?_⟩
  refine List.forall_mem_cons.mpr ⟨ae_mk pu_al (fun X => ok_aload X (by decide +kernel)), ?_⟩
  refine List.forall_mem_cons.mpr ⟨ae_mk pu_nul (fun X => ok_ifnull X (off := 11) (by decide) (by decide +kernel)), ?_⟩
  refine List.forall_mem_cons.mpr ⟨ae_mk pu_al (fun X => ok_aload X (by decide +kernel)), ?_⟩
  refine List.forall_mem_cons.mpr ⟨ae_mk pu_get (fun X => ok_getN X (ci := 3) (kk := 4) (index := 151) rfl aw_c_Line (by decide) wd_140 (by decide +kernel)), ?_⟩
  refine List.forall_mem_cons.mpr ⟨ae_mk pu_if (fun X => ok_if_ne X (off := 5) (by decide) (by decide +kernel)), ?_⟩
  refine List.forall_mem_cons.mpr ⟨ae_mk (pu_push (fun _ => trivial)) (fun X => ok_iconst X (n := (-1)) (by decide) (by decide +kernel)), ?_⟩
  refine List.forall_mem_cons.mpr ⟨Or.inl ⟨rfl, (by decide +kernel), rt_int⟩, ?_⟩
  refine List.forall_mem_cons.mpr ⟨ae_mk pu_il (fun X => ok_iload_n X (k := 3) rfl (by decide +kernel)), ?_⟩
  refine List.forall_mem_cons.mpr ⟨ae_mk (pu_push (fun _ => trivial)) (fun X => ok_iconst X (n := (-1)) (by decide) (by decide +kernel)), ?_⟩
  refine List.forall_mem_cons.mpr ⟨ae_mk pu_ic (fun X => ok_ic_ne X (off := 14) (by decide) (by decide +kernel)), ?_⟩
  refine List.forall_mem_cons.mpr ⟨ae_mk pu_al (fun X => ok_aload X (by decide +kernel)), ?_⟩
  refine List.forall_mem_cons.mpr ⟨ae_mk pu_get (fun X => ok_getN X (ci := 3) (kk := 3) (index := 155) rfl aw_c_Line (by decide) wd_138 (by decide +kernel)), ?_⟩
  refine List.forall_mem_cons.mpr ⟨ae_mk pu_get (fun X => ok_getN X (ci := 2) (kk := 1) (index := 158) rfl aw_c_Frame (by decide) wd_83 (by decide +kernel)), ?_⟩
  refine List.forall_mem_cons.mpr ⟨ae_mk pu_goto (fun X => ok_goto X (off := 12) (by decide) (by decide +kernel)), ?_⟩
  refine List.forall_mem_cons.mpr ⟨ae_mk pu_al (fun X => ok_aload X (by decide +kernel)), ?_⟩
  refine List.forall_mem_cons.mpr ⟨ae_mk pu_get (fun X => ok_getN X (ci := 3) (kk := 3) (index := 155) rfl aw_c_Line (by decide) wd_138 (by decide +kernel)), ?_⟩
  refine List.forall_mem_cons.mpr ⟨ae_mk pu_il (fun X => ok_iload_n X (k := 3) rfl (by decide +kernel)), ?_⟩
  refine List.forall_mem_cons.mpr ⟨ae_mkc (fun X => ok_callV X (mid := 35) (index := 161) (y := my_35) rfl (by decide) ⟨by decide, by decide⟩ (n := 1) (by decide +kernel) wd_317 wd_47 wd_468 wd_315 wd_316 (ci := 2) rfl (by decide +kernel)), ?_⟩
  refine List.forall_mem_cons.mpr ⟨Or.inl ⟨rfl, (by decide +kernel), rt_int⟩, ?_⟩
  exact fun _ h => absurd h List.not_mem_nil
def tb_71 : List (Nat × ae_I) := [(0, .inl (o_al 0 1)),
  (1, .inl (o_il 1 2)),
  (2, .inl (o_il 2 3)),
  (3, .inr (.inr (.inl (26, 3, 6, some 7, [])))),
  (6, .inl (o_as 4 8)),
  (8, .inl (o_al 4 10)),
  (10, .inl (o_nul 22 13)),
  (13, .inl (o_il 3 14)),
  (14, .inl (o_if (fun x => decide (x < 0)) 22 17)),
  (17, .inl (o_il 3 18)),
  (18, .inl (o_push (.int 1) 19)),
  (19, .inl (o_ic (fun x y => decide (x ≤ y)) 24 22)),
  (22, .inl (o_push (.int (-1)) 23)),
  (23, .inr (.inl (some k_int))),
  (24, .inl (o_il 3 25)),
  (25, .inl (o_push (.int 1) 26)),
  (26, .inl (o_ic (fun x y => decide (¬ x = y)) 40 29)),
  (29, .inl (o_al 4 31)),
  (31, .inl (o_get 3 1 34)),
  (34, .inl (o_get 6 2 37)),
  (37, .inl (o_goto 48)),
  (40, .inl (o_al 4 42)),
  (42, .inl (o_get 3 0 45)),
  (45, .inl (o_get 6 2 48)),
  (48, .inr (.inl (some k_int)))]
theorem te_71 : ∀ q ∈ tb_71, ae_E am "TwinNetwork" "waiting" prog_1_method_11_code 5 (Option.some Jvm.ClassFile.FieldType.int) [] q := by
  unfold tb_71
  refine List.forall_mem_cons.mpr ⟨ae_mk pu_al (fun X => ok_aload_n X (k := 0) rfl (by decide +kernel)), ?_⟩
  refine List.forall_mem_cons.mpr ⟨ae_mk pu_il (fun X => ok_iload_n X (k := 1) rfl (by decide +kernel)), ?_⟩
  refine List.forall_mem_cons.mpr ⟨ae_mk pu_il (fun X => ok_iload_n X (k := 2) rfl (by decide +kernel)), ?_⟩
  refine List.forall_mem_cons.mpr ⟨ae_mkc (fun X => ok_callV X (mid := 26) (index := 124) (y := my_26) rfl (by decide) ⟨by decide, by decide⟩ (n := 2) (by decide +kernel) wd_276 wd_46 wd_273 wd_275 wd_7 (ci := 7) rfl (by decide +kernel)), ?_⟩
  refine List.forall_mem_cons.mpr ⟨ae_mk pu_as (fun X => ok_astore X (by decide +kernel)), ?_⟩
  refine List.forall_mem_cons.mpr ⟨ae_mk pu_al (fun X => ok_aload X (by decide +kernel)), ?_⟩
  refine List.forall_mem_cons.mpr ⟨ae_mk pu_nul (fun X => ok_ifnull X (off := 12) (by decide) (by decide +kernel)), ?_⟩
  refine List.forall_mem_cons.mpr ⟨ae_mk pu_il (fun X => ok_iload_n X (k := 3) rfl (by decide +kernel)), ?_⟩
  refine List.forall_mem_cons.mpr ⟨ae_mk pu_if (fun X => ok_if_lt X (off := 8) (by decide) (by decide +kernel)), ?_⟩
  refine List.forall_mem_cons.mpr ⟨ae_mk pu_il (fun X => ok_iload_n X (k := 3) rfl (by decide +kernel)), ?_⟩
  refine List.forall_mem_cons.mpr ⟨ae_mk (pu_push (fun _ => trivial)) (fun X => ok_iconst X (n := 1) (by decide) (by decide +kernel)), ?_⟩
  refine List.forall_mem_cons.mpr ⟨ae_mk pu_ic (fun X => ok_ic_le X (off := 5) (by decide) (by decide +kernel)), ?_⟩
  refine List.forall_mem_cons.mpr ⟨ae_mk (pu_push (fun _ => trivial)) (fun X => ok_iconst X (n := (-1)) (by decide) (by decide +kernel)), ?_⟩
  refine List.forall_mem_cons.mpr ⟨Or.inl ⟨rfl, (by decide +kernel), rt_int⟩, ?_⟩
  refine List.forall_mem_cons.mpr ⟨ae_mk pu_il (fun X => ok_iload_n X (k := 3) rfl (by decide +kernel)), ?_⟩
  refine List.forall_mem_cons.mpr ⟨ae_mk (pu_push (fun _ => trivial)) (fun X => ok_iconst X (n := 1) (by decide) (by decide +kernel)), ?_⟩
  refine List.forall_mem_cons.mpr ⟨ae_mk pu_ic (fun X => ok_ic_ne X (off := 14) (by decide) (by decide +kernel)), ?_⟩
  refine List.forall_mem_cons.mpr ⟨ae_mk pu_al (fun X => ok_aload X (by decide +kernel)), ?_⟩
  refine List.forall_mem_cons.mpr ⟨ae_mk pu_get (fun X => ok_getN X (ci := 3) (kk := 1) (index := 162) rfl aw_c_Line (by decide) wd_135 (by decide +kernel)), ?_⟩
  refine List.forall_mem_cons.mpr ⟨ae_mk pu_get (fun X => ok_getN X (ci := 6) (kk := 2) (index := 166) rfl aw_c_Row (by decide) wd_124 (by decide +kernel)), ?_⟩
  refine List.forall_mem_cons.mpr ⟨ae_mk pu_goto (fun X => ok_goto X (off := 11) (by decide) (by decide +kernel)), ?_⟩
  refine List.forall_mem_cons.mpr ⟨ae_mk pu_al (fun X => ok_aload X (by decide +kernel)), ?_⟩
  refine List.forall_mem_cons.mpr ⟨ae_mk pu_get (fun X => ok_getN X (ci := 3) (kk := 0) (index := 171) rfl aw_c_Line (by decide) wd_133 (by decide +kernel)), ?_⟩
  refine List.forall_mem_cons.mpr ⟨ae_mk pu_get (fun X => ok_getN X (ci := 6) (kk := 2) (index := 166) rfl aw_c_Row (by decide) wd_124 (by decide +kernel)), ?_⟩
  refine List.forall_mem_cons.mpr ⟨Or.inl ⟨rfl, (by decide +kernel), rt_int⟩, ?_⟩
  exact fun _ h => absurd h List.not_mem_nil
def tb_72 : List (Nat × ae_I) := [(0, .inl (o_al 0 1)),
  (1, .inl (o_il 1 2)),
  (2, .inr (.inr (.inl (37, 2, 5, some 7, [])))),
  (5, .inl (o_as 2 6)),
  (6, .inl (o_al 2 7)),
  (7, .inl (o_nul 10 14)),
  (10, .inl (o_push (.int (-1)) 11)),
  (11, .inl (o_goto 18)),
  (14, .inl (o_al 2 15)),
  (15, .inl (o_get 4 11 18)),
  (18, .inr (.inl (some k_int)))]
theorem te_72 : ∀ q ∈ tb_72, ae_E am "TwinNetwork" "fragments" prog_1_method_12_code 3 (Option.some Jvm.ClassFile.FieldType.int) [] q := by
  unfold tb_72
  refine List.forall_mem_cons.mpr ⟨ae_mk pu_al (fun X => ok_aload_n X (k := 0) rfl (by decide +kernel)), ?_⟩
  refine List.forall_mem_cons.mpr ⟨ae_mk pu_il (fun X => ok_iload_n X (k := 1) rfl (by decide +kernel)), ?_⟩
  refine List.forall_mem_cons.mpr ⟨ae_mkc (fun X => ok_callV X (mid := 37) (index := 69) (y := my_37) rfl (by decide) ⟨by decide, by decide⟩ (n := 1) (by decide +kernel) wd_325 wd_46 wd_322 wd_324 wd_10 (ci := 7) rfl (by decide +kernel)), ?_⟩
  refine List.forall_mem_cons.mpr ⟨ae_mk pu_as (fun X => ok_astore_n X (k := 2) rfl (by decide +kernel)), ?_⟩
  refine List.forall_mem_cons.mpr ⟨ae_mk pu_al (fun X => ok_aload_n X (k := 2) rfl (by decide +kernel)), ?_⟩
  refine List.forall_mem_cons.mpr ⟨ae_mk pu_nul (fun X => ok_ifnonnull X (off := 7) (by decide) (by decide +kernel)), ?_⟩
  refine List.forall_mem_cons.mpr ⟨ae_mk (pu_push (fun _ => trivial)) (fun X => ok_iconst X (n := (-1)) (by decide) (by decide +kernel)), ?_⟩
  refine List.forall_mem_cons.mpr ⟨ae_mk pu_goto (fun X => ok_goto X (off := 7) (by decide) (by decide +kernel)), ?_⟩
  refine List.forall_mem_cons.mpr ⟨ae_mk pu_al (fun X => ok_aload_n X (k := 2) rfl (by decide +kernel)), ?_⟩
  refine List.forall_mem_cons.mpr ⟨ae_mk pu_get (fun X => ok_getN X (ci := 4) (kk := 11) (index := 77) rfl aw_c_Link (by decide) wd_695 (by decide +kernel)), ?_⟩
  refine List.forall_mem_cons.mpr ⟨Or.inl ⟨rfl, (by decide +kernel), rt_int⟩, ?_⟩
  exact fun _ h => absurd h List.not_mem_nil
def tb_73 : List (Nat × ae_I) := [(0, .inl (o_al 0 1)),
  (1, .inl (o_il 2 2)),
  (2, .inr (.inr (.inl (37, 2, 5, some 7, [])))),
  (5, .inl (o_as 3 6)),
  (6, .inl (o_al 3 7)),
  (7, .inl (o_nul 17 10)),
  (10, .inl (o_il 1 11)),
  (11, .inr (.inr (.inl (27, 1, 14, none, [])))),
  (14, .inl (o_if (fun x => decide (¬ x = 0)) 21 17)),
  (17, .inl (o_push (.int (-1)) 18)),
  (18, .inl (o_goto 27)),
  (21, .inl (o_al 3 22)),
  (22, .inl (o_get 4 8 25)),
  (25, .inl (o_il 1 26)),
  (26, .inl (o_ia 27)),
  (27, .inr (.inl (some k_int)))]
theorem te_73 : ∀ q ∈ tb_73, ae_E am "TwinNetwork" "account" prog_1_method_13_code 4 (Option.some Jvm.ClassFile.FieldType.int) [] q := by
  unfold tb_73
  refine List.forall_mem_cons.mpr ⟨ae_mk pu_al (fun X => ok_aload_n X (k := 0) rfl (by decide +kernel)), ?_⟩
  refine List.forall_mem_cons.mpr ⟨ae_mk pu_il (fun X => ok_iload_n X (k := 2) rfl (by decide +kernel)), ?_⟩
  refine List.forall_mem_cons.mpr ⟨ae_mkc (fun X => ok_callV X (mid := 37) (index := 69) (y := my_37) rfl (by decide) ⟨by decide, by decide⟩ (n := 1) (by decide +kernel) wd_325 wd_46 wd_322 wd_324 wd_10 (ci := 7) rfl (by decide +kernel)), ?_⟩
  refine List.forall_mem_cons.mpr ⟨ae_mk pu_as (fun X => ok_astore_n X (k := 3) rfl (by decide +kernel)), ?_⟩
  refine List.forall_mem_cons.mpr ⟨ae_mk pu_al (fun X => ok_aload_n X (k := 3) rfl (by decide +kernel)), ?_⟩
  refine List.forall_mem_cons.mpr ⟨ae_mk pu_nul (fun X => ok_ifnull X (off := 10) (by decide) (by decide +kernel)), ?_⟩
  refine List.forall_mem_cons.mpr ⟨ae_mk pu_il (fun X => ok_iload_n X (k := 1) rfl (by decide +kernel)), ?_⟩
  refine List.forall_mem_cons.mpr ⟨ae_mkc (fun X => ok_callS X (mid := 27) (index := 132) (y := my_27) rfl (by decide) ⟨by decide, by decide⟩ (n := 1) (by decide +kernel) wd_279 wd_46 wd_277 wd_278 (by decide +kernel)), ?_⟩
  refine List.forall_mem_cons.mpr ⟨ae_mk pu_if (fun X => ok_if_ne X (off := 7) (by decide) (by decide +kernel)), ?_⟩
  refine List.forall_mem_cons.mpr ⟨ae_mk (pu_push (fun _ => trivial)) (fun X => ok_iconst X (n := (-1)) (by decide) (by decide +kernel)), ?_⟩
  refine List.forall_mem_cons.mpr ⟨ae_mk pu_goto (fun X => ok_goto X (off := 9) (by decide) (by decide +kernel)), ?_⟩
  refine List.forall_mem_cons.mpr ⟨ae_mk pu_al (fun X => ok_aload_n X (k := 3) rfl (by decide +kernel)), ?_⟩
  refine List.forall_mem_cons.mpr ⟨ae_mk pu_get (fun X => ok_getN X (ci := 4) (kk := 8) (index := 174) rfl aw_c_Link (by decide) wd_691 (by decide +kernel)), ?_⟩
  refine List.forall_mem_cons.mpr ⟨ae_mk pu_il (fun X => ok_iload_n X (k := 1) rfl (by decide +kernel)), ?_⟩
  refine List.forall_mem_cons.mpr ⟨ae_mk pu_ia (fun X => ok_ia X (by decide +kernel)), ?_⟩
  refine List.forall_mem_cons.mpr ⟨Or.inl ⟨rfl, (by decide +kernel), rt_int⟩, ?_⟩
  exact fun _ h => absurd h List.not_mem_nil
def tb_74 : List (Nat × ae_I) := [(0, .inl (o_il 1 1)),
  (1, .inl (o_if (fun x => decide (x < 0)) 10 4)),
  (4, .inl (o_il 1 5)),
  (5, .inl (o_push (.int 12) 7)),
  (7, .inl (o_ic (fun x y => decide (x < y)) 14 10)),
  (10, .inl (o_push (.int (-1)) 11)),
  (11, .inl (o_goto 20)),
  (14, .inl (o_al 0 15)),
  (15, .inl (o_get 7 2 18)),
  (18, .inl (o_il 1 19)),
  (19, .inl (o_ia 20)),
  (20, .inr (.inl (some k_int)))]
theorem te_74 : ∀ q ∈ tb_74, ae_E am "TwinNetwork" "dropped" prog_1_method_14_code 2 (Option.some Jvm.ClassFile.FieldType.int) [] q := by
  unfold tb_74
  refine List.forall_mem_cons.mpr ⟨ae_mk pu_il (fun X => ok_iload_n X (k := 1) rfl (by decide +kernel)), ?_⟩
  refine List.forall_mem_cons.mpr ⟨ae_mk pu_if (fun X => ok_if_lt X (off := 9) (by decide) (by decide +kernel)), ?_⟩
  refine List.forall_mem_cons.mpr ⟨ae_mk pu_il (fun X => ok_iload_n X (k := 1) rfl (by decide +kernel)), ?_⟩
  refine List.forall_mem_cons.mpr ⟨ae_mk (pu_push (fun _ => trivial)) (fun X => ok_bipush X (n := 12) (by decide) (by decide +kernel)), ?_⟩
  refine List.forall_mem_cons.mpr ⟨ae_mk pu_ic (fun X => ok_ic_lt X (off := 7) (by decide) (by decide +kernel)), ?_⟩
  refine List.forall_mem_cons.mpr ⟨ae_mk (pu_push (fun _ => trivial)) (fun X => ok_iconst X (n := (-1)) (by decide) (by decide +kernel)), ?_⟩
  refine List.forall_mem_cons.mpr ⟨ae_mk pu_goto (fun X => ok_goto X (off := 9) (by decide) (by decide +kernel)), ?_⟩
  refine List.forall_mem_cons.mpr ⟨ae_mk pu_al (fun X => ok_aload_n X (k := 0) rfl (by decide +kernel)), ?_⟩
  refine List.forall_mem_cons.mpr ⟨ae_mk pu_get (fun X => ok_get X (ci := 7) (kk := 2) (index := 21) rfl aw_c_Net (by decide) wd_166 (by decide +kernel)), ?_⟩
  refine List.forall_mem_cons.mpr ⟨ae_mk pu_il (fun X => ok_iload_n X (k := 1) rfl (by decide +kernel)), ?_⟩
  refine List.forall_mem_cons.mpr ⟨ae_mk pu_ia (fun X => ok_ia X (by decide +kernel)), ?_⟩
  refine List.forall_mem_cons.mpr ⟨Or.inl ⟨rfl, (by decide +kernel), rt_int⟩, ?_⟩
  exact fun _ h => absurd h List.not_mem_nil
def tb_75 : List (Nat × ae_I) := [(0, .inl (o_al 0 1)),
  (1, .inl (o_il 1 2)),
  (2, .inr (.inr (.inl (37, 2, 5, some 7, [])))),
  (5, .inl (o_as 3 6)),
  (6, .inl (o_al 3 7)),
  (7, .inl (o_nul 18 10)),
  (10, .inl (o_al 3 11)),
  (11, .inl (o_il 2 12)),
  (12, .inr (.inr (.inl (39, 2, 15, some 4, [])))),
  (15, .inl (o_nul 18 20)),
  (18, .inl (o_push (.int (-1)) 19)),
  (19, .inr (.inl (some k_int))),
  (20, .inl (o_al 3 21)),
  (21, .inl (o_get 4 1 24)),
  (24, .inl (o_il 2 25)),
  (25, .inr (.inr (.inl (76, 2, 28, none, [])))),
  (28, .inl (o_is 4 30)),
  (30, .inl (o_push (.int 0) 31)),
  (31, .inl (o_is 5 33)),
  (33, .inl (o_push (.int 0) 34)),
  (34, .inl (o_is 6 36)),
  (36, .inl (o_il 6 38)),
  (38, .inl (o_push (.int 12) 40)),
  (40, .inl (o_ic (fun x y => decide (y ≤ x)) 70 43)),
  (43, .inl (o_il 4 45)),
  (45, .inl (o_il 6 47)),
  (47, .inl (o_bin (fun x y => x >>> (y &&& 31)) 48)),
  (48, .inl (o_push (.int 1) 49)),
  (49, .inl (o_bin (fun x y => x &&& y) 50)),
  (50, .inl (o_if (fun x => decide (x = 0)) 64 53)),
  (53, .inl (o_il 5 55)),
  (55, .inl (o_al 0 56)),
  (56, .inl (o_il 6 58)),
  (58, .inr (.inr (.inl (78, 2, 61, some 7, [])))),
  (61, .inl (o_bin (fun x y => x + y) 62)),
  (62, .inl (o_is 5 64)),
  (64, .inl (o_inc 6 1 67)),
  (67, .inl (o_goto 36)),
  (70, .inl (o_il 5 72)),
  (72, .inr (.inl (some k_int)))]
theorem te_75 : ∀ q ∈ tb_75, ae_E am "TwinNetwork" "bound" prog_1_method_15_code 7 (Option.some Jvm.ClassFile.FieldType.int) [] q := by
  unfold tb_75
  refine List.forall_mem_cons.mpr ⟨ae_mk pu_al (fun X => ok_aload_n X (k := 0) rfl (by decide +kernel)), ?_⟩
  refine List.forall_mem_cons.mpr ⟨ae_mk pu_il (fun X => ok_iload_n X (k := 1) rfl (by decide +kernel)), ?_⟩
  refine List.forall_mem_cons.mpr ⟨ae_mkc (fun X => ok_callV X (mid := 37) (index := 69) (y := my_37) rfl (by decide) ⟨by decide, by decide⟩ (n := 1) (by decide +kernel) wd_325 wd_46 wd_322 wd_324 wd_10 (ci := 7) rfl (by decide +kernel)), ?_⟩
  refine List.forall_mem_cons.mpr ⟨ae_mk pu_as (fun X => ok_astore_n X (k := 3) rfl (by decide +kernel)), ?_⟩
  refine List.forall_mem_cons.mpr ⟨ae_mk pu_al (fun X => ok_aload_n X (k := 3) rfl (by decide +kernel)), ?_⟩
  refine List.forall_mem_cons.mpr ⟨ae_mk pu_nul (fun X => ok_ifnull X (off := 11) (by decide) (by decide +kernel)), ?_⟩
  refine List.forall_mem_cons.mpr ⟨ae_mk pu_al (fun X => ok_aload_n X (k := 3) rfl (by decide +kernel)), ?_⟩
  refine List.forall_mem_cons.mpr ⟨ae_mk pu_il (fun X => ok_iload_n X (k := 2) rfl (by decide +kernel)), ?_⟩
  refine List.forall_mem_cons.mpr ⟨ae_mkc (fun X => ok_callV X (mid := 39) (index := 177) (y := my_39) rfl (by decide) ⟨by decide, by decide⟩ (n := 1) (by decide +kernel) wd_332 wd_57 wd_329 wd_330 wd_331 (ci := 4) rfl (by decide +kernel)), ?_⟩
  refine List.forall_mem_cons.mpr ⟨ae_mk pu_nul (fun X => ok_ifnonnull X (off := 5) (by decide) (by decide +kernel)), ?_⟩
  refine List.forall_mem_cons.mpr ⟨ae_mk (pu_push (fun _ => trivial)) (fun X => ok_iconst X (n := (-1)) (by decide) (by decide +kernel)), ?_⟩
  refine List.forall_mem_cons.mpr ⟨Or.inl ⟨rfl, (by decide +kernel), rt_int⟩, ?_⟩
  refine List.forall_mem_cons.mpr ⟨ae_mk pu_al (fun X => ok_aload_n X (k := 3) rfl (by decide +kernel)), ?_⟩
  refine List.forall_mem_cons.mpr ⟨ae_mk pu_get (fun X => ok_getN X (ci := 4) (kk := 1) (index := 181) rfl aw_c_Link (by decide) wd_680 (by decide +kernel)), ?_⟩
  refine List.forall_mem_cons.mpr ⟨ae_mk pu_il (fun X => ok_iload_n X (k := 2) rfl (by decide +kernel)), ?_⟩
  refine List.forall_mem_cons.mpr ⟨ae_mkc (fun X => ok_callS X (mid := 76) (index := 184) (y := my_76) rfl (by decide) ⟨by decide, by decide⟩ (n := 2) (by decide +kernel) wd_491 wd_46 wd_489 wd_490 (by decide +kernel)), ?_⟩
  refine List.forall_mem_cons.mpr ⟨ae_mk pu_is (fun X => ok_istore X (by decide +kernel)), ?_⟩
  refine List.forall_mem_cons.mpr ⟨ae_mk (pu_push (fun _ => trivial)) (fun X => ok_iconst X (n := 0) (by decide) (by decide +kernel)), ?_⟩
  refine List.forall_mem_cons.mpr ⟨ae_mk pu_is (fun X => ok_istore X (by decide +kernel)), ?_⟩
  refine List.forall_mem_cons.mpr ⟨ae_mk (pu_push (fun _ => trivial)) (fun X => ok_iconst X (n := 0) (by decide) (by decide +kernel)), ?_⟩
  refine List.forall_mem_cons.mpr ⟨ae_mk pu_is (fun X => ok_istore X (by decide +kernel)), ?_⟩
  refine List.forall_mem_cons.mpr ⟨ae_mk pu_il (fun X => ok_iload X (by decide +kernel)), ?_⟩
  refine List.forall_mem_cons.mpr ⟨ae_mk (pu_push (fun _ => trivial)) (fun X => ok_bipush X (n := 12) (by decide) (by decide +kernel)), ?_⟩
  refine List.forall_mem_cons.mpr ⟨ae_mk pu_ic (fun X => ok_ic_ge X (off := 30) (by decide) (by decide +kernel)), ?_⟩
  refine List.forall_mem_cons.mpr ⟨ae_mk pu_il (fun X => ok_iload X (by decide +kernel)), ?_⟩
  refine List.forall_mem_cons.mpr ⟨ae_mk pu_il (fun X => ok_iload X (by decide +kernel)), ?_⟩
  refine List.forall_mem_cons.mpr ⟨ae_mk pu_bin (fun X => ok_ishr X (by decide +kernel)), ?_⟩
  refine List.forall_mem_cons.mpr ⟨ae_mk (pu_push (fun _ => trivial)) (fun X => ok_iconst X (n := 1) (by decide) (by decide +kernel)), ?_⟩
  refine List.forall_mem_cons.mpr ⟨ae_mk pu_bin (fun X => ok_iand X (by decide +kernel)), ?_⟩
  refine List.forall_mem_cons.mpr ⟨ae_mk pu_if (fun X => ok_if_eq X (off := 14) (by decide) (by decide +kernel)), ?_⟩
  refine List.forall_mem_cons.mpr ⟨ae_mk pu_il (fun X => ok_iload X (by decide +kernel)), ?_⟩
  refine List.forall_mem_cons.mpr ⟨ae_mk pu_al (fun X => ok_aload_n X (k := 0) rfl (by decide +kernel)), ?_⟩
  refine List.forall_mem_cons.mpr ⟨ae_mk pu_il (fun X => ok_iload X (by decide +kernel)), ?_⟩
  refine List.forall_mem_cons.mpr ⟨ae_mkc (fun X => ok_callV X (mid := 78) (index := 188) (y := my_78) rfl (by decide) ⟨by decide, by decide⟩ (n := 1) (by decide +kernel) wd_498 wd_46 wd_495 wd_497 wd_17 (ci := 7) rfl (by decide +kernel)), ?_⟩
  refine List.forall_mem_cons.mpr ⟨ae_mk pu_bin (fun X => ok_iadd X (by decide +kernel)), ?_⟩
  refine List.forall_mem_cons.mpr ⟨ae_mk pu_is (fun X => ok_istore X (by decide +kernel)), ?_⟩
  refine List.forall_mem_cons.mpr ⟨ae_mk pu_inc (fun X => ok_iinc X (n := 1) (by decide) (by decide +kernel)), ?_⟩
  refine List.forall_mem_cons.mpr ⟨ae_mk pu_goto (fun X => ok_goto X (off := (-31)) (by decide) (by decide +kernel)), ?_⟩
  refine List.forall_mem_cons.mpr ⟨ae_mk pu_il (fun X => ok_iload X (by decide +kernel)), ?_⟩
  refine List.forall_mem_cons.mpr ⟨Or.inl ⟨rfl, (by decide +kernel), rt_int⟩, ?_⟩
  exact fun _ h => absurd h List.not_mem_nil
def tb_76 : List (Nat × ae_I) := [(0, .inl (o_push (.int 1) 1)),
  (1, .inl (o_il 0 2)),
  (2, .inl (o_bin (fun x y => x <<< (y &&& 31)) 3)),
  (3, .inl (o_push (.int 1) 4)),
  (4, .inl (o_push (.int 4) 5)),
  (5, .inl (o_il 1 6)),
  (6, .inl (o_bin (fun x y => x + y) 7)),
  (7, .inl (o_bin (fun x y => x <<< (y &&& 31)) 8)),
  (8, .inl (o_bin (fun x y => x ||| y) 9)),
  (9, .inl (o_is 2 10)),
  (10, .inl (o_il 0 11)),
  (11, .inr (.inr (.inl (77, 1, 14, none, [])))),
  (14, .inl (o_is 3 15)),
  (15, .inl (o_il 3 16)),
  (16, .inl (o_il 1 17)),
  (17, .inr (.inr (.inl (77, 1, 20, none, [])))),
  (20, .inl (o_ic (fun x y => decide (y ≤ x)) 38 23)),
  (23, .inl (o_il 2 24)),
  (24, .inl (o_push (.int 1) 25)),
  (25, .inl (o_push (.int 8) 27)),
  (27, .inl (o_il 3 28)),
  (28, .inl (o_bin (fun x y => x + y) 29)),
  (29, .inl (o_bin (fun x y => x <<< (y &&& 31)) 30)),
  (30, .inl (o_bin (fun x y => x ||| y) 31)),
  (31, .inl (o_is 2 32)),
  (32, .inl (o_inc 3 1 35)),
  (35, .inl (o_goto 15)),
  (38, .inl (o_il 0 39)),
  (39, .inr (.inr (.inl (77, 1, 42, none, [])))),
  (42, .inl (o_is 3 43)),
  (43, .inl (o_il 3 44)),
  (44, .inl (o_il 1 45)),
  (45, .inr (.inr (.inl (77, 1, 48, none, [])))),
  (48, .inl (o_ic (fun x y => decide (x ≤ y)) 66 51)),
  (51, .inl (o_il 2 52)),
  (52, .inl (o_push (.int 1) 53)),
  (53, .inl (o_push (.int 9) 55)),
  (55, .inl (o_il 3 56)),
  (56, .inl (o_bin (fun x y => x + y) 57)),
  (57, .inl (o_bin (fun x y => x <<< (y &&& 31)) 58)),
  (58, .inl (o_bin (fun x y => x ||| y) 59)),
  (59, .inl (o_is 2 60)),
  (60, .inl (o_inc 3 (-1) 63)),
  (63, .inl (o_goto 43)),
  (66, .inl (o_il 2 67)),
  (67, .inr (.inl (some k_int)))]
theorem te_76 : ∀ q ∈ tb_76, ae_E am "TwinNetwork" "pathTo" prog_1_method_25_code 4 (Option.some Jvm.ClassFile.FieldType.int) [] q := by
  unfold tb_76
  refine List.forall_mem_cons.mpr ⟨ae_mk (pu_push (fun _ => trivial)) (fun X => ok_iconst X (n := 1) (by decide) (by decide +kernel)), ?_⟩
  refine List.forall_mem_cons.mpr ⟨ae_mk pu_il (fun X => ok_iload_n X (k := 0) rfl (by decide +kernel)), ?_⟩
  refine List.forall_mem_cons.mpr ⟨ae_mk pu_bin (fun X => ok_ishl X (by decide +kernel)), ?_⟩
  refine List.forall_mem_cons.mpr ⟨ae_mk (pu_push (fun _ => trivial)) (fun X => ok_iconst X (n := 1) (by decide) (by decide +kernel)), ?_⟩
  refine List.forall_mem_cons.mpr ⟨ae_mk (pu_push (fun _ => trivial)) (fun X => ok_iconst X (n := 4) (by decide) (by decide +kernel)), ?_⟩
  refine List.forall_mem_cons.mpr ⟨ae_mk pu_il (fun X => ok_iload_n X (k := 1) rfl (by decide +kernel)), ?_⟩
  refine List.forall_mem_cons.mpr ⟨ae_mk pu_bin (fun X => ok_iadd X (by decide +kernel)), ?_⟩
  refine List.forall_mem_cons.mpr ⟨ae_mk pu_bin (fun X => ok_ishl X (by decide +kernel)), ?_⟩
  refine List.forall_mem_cons.mpr ⟨ae_mk pu_bin (fun X => ok_ior X (by decide +kernel)), ?_⟩
  refine List.forall_mem_cons.mpr ⟨ae_mk pu_is (fun X => ok_istore_n X (k := 2) rfl (by decide +kernel)), ?_⟩
  refine List.forall_mem_cons.mpr ⟨ae_mk pu_il (fun X => ok_iload_n X (k := 0) rfl (by decide +kernel)), ?_⟩
  refine List.forall_mem_cons.mpr ⟨ae_mkc (fun X => ok_callS X (mid := 77) (index := 191) (y := my_77) rfl (by decide) ⟨by decide, by decide⟩ (n := 1) (by decide +kernel) wd_494 wd_46 wd_492 wd_493 (by decide +kernel)), ?_⟩
  refine List.forall_mem_cons.mpr ⟨ae_mk pu_is (fun X => ok_istore_n X (k := 3) rfl (by decide +kernel)), ?_⟩
  refine List.forall_mem_cons.mpr ⟨ae_mk pu_il (fun X => ok_iload_n X (k := 3) rfl (by decide +kernel)), ?_⟩
  refine List.forall_mem_cons.mpr ⟨ae_mk pu_il (fun X => ok_iload_n X (k := 1) rfl (by decide +kernel)), ?_⟩
  refine List.forall_mem_cons.mpr ⟨ae_mkc (fun X => ok_callS X (mid := 77) (index := 191) (y := my_77) rfl (by decide) ⟨by decide, by decide⟩ (n := 1) (by decide +kernel) wd_494 wd_46 wd_492 wd_493 (by decide +kernel)), ?_⟩
  refine List.forall_mem_cons.mpr ⟨ae_mk pu_ic (fun X => ok_ic_ge X (off := 18) (by decide) (by decide +kernel)), ?_⟩
  refine List.forall_mem_cons.mpr ⟨ae_mk pu_il (fun X => ok_iload_n X (k := 2) rfl (by decide +kernel)), ?_⟩
  refine List.forall_mem_cons.mpr ⟨ae_mk (pu_push (fun _ => trivial)) (fun X => ok_iconst X (n := 1) (by decide) (by decide +kernel)), ?_⟩
  refine List.forall_mem_cons.mpr ⟨ae_mk (pu_push (fun _ => trivial)) (fun X => ok_bipush X (n := 8) (by decide) (by decide +kernel)), ?_⟩
  refine List.forall_mem_cons.mpr ⟨ae_mk pu_il (fun X => ok_iload_n X (k := 3) rfl (by decide +kernel)), ?_⟩
  refine List.forall_mem_cons.mpr ⟨ae_mk pu_bin (fun X => ok_iadd X (by decide +kernel)), ?_⟩
  refine List.forall_mem_cons.mpr ⟨ae_mk pu_bin (fun X => ok_ishl X (by decide +kernel)), ?_⟩
  refine List.forall_mem_cons.mpr ⟨ae_mk pu_bin (fun X => ok_ior X (by decide +kernel)), ?_⟩
  refine List.forall_mem_cons.mpr ⟨ae_mk pu_is (fun X => ok_istore_n X (k := 2) rfl (by decide +kernel)), ?_⟩
  refine List.forall_mem_cons.mpr ⟨ae_mk pu_inc (fun X => ok_iinc X (n := 1) (by decide) (by decide +kernel)), ?_⟩
  refine List.forall_mem_cons.mpr ⟨ae_mk pu_goto (fun X => ok_goto X (off := (-20)) (by decide) (by decide +kernel)), ?_⟩
  refine List.forall_mem_cons.mpr ⟨ae_mk pu_il (fun X => ok_iload_n X (k := 0) rfl (by decide +kernel)), ?_⟩
  refine List.forall_mem_cons.mpr ⟨ae_mkc (fun X => ok_callS X (mid := 77) (index := 191) (y := my_77) rfl (by decide) ⟨by decide, by decide⟩ (n := 1) (by decide +kernel) wd_494 wd_46 wd_492 wd_493 (by decide +kernel)), ?_⟩
  refine List.forall_mem_cons.mpr ⟨ae_mk pu_is (fun X => ok_istore_n X (k := 3) rfl (by decide +kernel)), ?_⟩
  refine List.forall_mem_cons.mpr ⟨ae_mk pu_il (fun X => ok_iload_n X (k := 3) rfl (by decide +kernel)), ?_⟩
  refine List.forall_mem_cons.mpr ⟨ae_mk pu_il (fun X => ok_iload_n X (k := 1) rfl (by decide +kernel)), ?_⟩
  refine List.forall_mem_cons.mpr ⟨ae_mkc (fun X => ok_callS X (mid := 77) (index := 191) (y := my_77) rfl (by decide) ⟨by decide, by decide⟩ (n := 1) (by decide +kernel) wd_494 wd_46 wd_492 wd_493 (by decide +kernel)), ?_⟩
  refine List.forall_mem_cons.mpr ⟨ae_mk pu_ic (fun X => ok_ic_le X (off := 18) (by decide) (by decide +kernel)), ?_⟩
  refine List.forall_mem_cons.mpr ⟨ae_mk pu_il (fun X => ok_iload_n X (k := 2) rfl (by decide +kernel)), ?_⟩
  refine List.forall_mem_cons.mpr ⟨ae_mk (pu_push (fun _ => trivial)) (fun X => ok_iconst X (n := 1) (by decide) (by decide +kernel)), ?_⟩
  refine List.forall_mem_cons.mpr ⟨ae_mk (pu_push (fun _ => trivial)) (fun X => ok_bipush X (n := 9) (by decide) (by decide +kernel)), ?_⟩
  refine List.forall_mem_cons.mpr ⟨ae_mk pu_il (fun X => ok_iload_n X (k := 3) rfl (by decide +kernel)), ?_⟩
  refine List.forall_mem_cons.mpr ⟨ae_mk pu_bin (fun X => ok_iadd X (by decide +kernel)), ?_⟩
  refine List.forall_mem_cons.mpr ⟨ae_mk pu_bin (fun X => ok_ishl X (by decide +kernel)), ?_⟩
  refine List.forall_mem_cons.mpr ⟨ae_mk pu_bin (fun X => ok_ior X (by decide +kernel)), ?_⟩
  refine List.forall_mem_cons.mpr ⟨ae_mk pu_is (fun X => ok_istore_n X (k := 2) rfl (by decide +kernel)), ?_⟩
  refine List.forall_mem_cons.mpr ⟨ae_mk pu_inc (fun X => ok_iinc X (n := (-1)) (by decide) (by decide +kernel)), ?_⟩
  refine List.forall_mem_cons.mpr ⟨ae_mk pu_goto (fun X => ok_goto X (off := (-20)) (by decide) (by decide +kernel)), ?_⟩
  refine List.forall_mem_cons.mpr ⟨ae_mk pu_il (fun X => ok_iload_n X (k := 2) rfl (by decide +kernel)), ?_⟩
  refine List.forall_mem_cons.mpr ⟨Or.inl ⟨rfl, (by decide +kernel), rt_int⟩, ?_⟩
  exact fun _ h => absurd h List.not_mem_nil
def tb_77 : List (Nat × ae_I) := [(0, .inl (o_il 0 1)),
  (1, .inl (o_push (.int 3) 2)),
  (2, .inl (o_dv (fun x y => x - x / y * y) 3)),
  (3, .inr (.inl (some k_int)))]
theorem te_77 : ∀ q ∈ tb_77, ae_E am "TwinNetwork" "switchOf" prog_1_method_24_code 1 (Option.some Jvm.ClassFile.FieldType.int) [] q := by
  unfold tb_77
  refine List.forall_mem_cons.mpr ⟨ae_mk pu_il (fun X => ok_iload_n X (k := 0) rfl (by decide +kernel)), ?_⟩
  refine List.forall_mem_cons.mpr ⟨ae_mk (pu_push (fun _ => trivial)) (fun X => ok_iconst X (n := 3) (by decide) (by decide +kernel)), ?_⟩
  refine List.forall_mem_cons.mpr ⟨ae_mk pu_dv (fun X => ok_irem X (by decide +kernel)), ?_⟩
  refine List.forall_mem_cons.mpr ⟨Or.inl ⟨rfl, (by decide +kernel), rt_int⟩, ?_⟩
  exact fun _ h => absurd h List.not_mem_nil
