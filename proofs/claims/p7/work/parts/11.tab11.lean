def tb_1 : List (Nat × ae_I) := [(0, .inl (o_al 0 1)),
  (1, .inl (o_oi 4)),
  (4, .inl (o_al 0 5)),
  (5, .inl (o_push (.int 8) 7)),
  (7, .inl (o_nq 4 10)),
  (10, .inl (o_put 7 0 k_ref 13)),
  (13, .inl (o_al 0 14)),
  (14, .inl (o_push (.int 24) 16)),
  (16, .inl (o_nq 5 19)),
  (19, .inl (o_put 7 1 k_ref 22)),
  (22, .inl (o_al 0 23)),
  (23, .inl (o_push (.int 12) 25)),
  (25, .inl (o_na 0 27)),
  (27, .inl (o_put 7 2 k_ref 30)),
  (30, .inl (o_al 0 31)),
  (31, .inl (o_new 2 2 cd_Frame 34)),
  (34, .inl (o_dup 35)),
  (35, .inr (.inr (.inl (2, 1, 38, some 2, [])))),
  (38, .inl (o_put 7 3 k_ref 41)),
  (41, .inl (o_al 0 42)),
  (42, .inl (o_new 0 2 cd_Datagram 45)),
  (45, .inl (o_dup 46)),
  (46, .inr (.inr (.inl (3, 1, 49, some 0, [])))),
  (49, .inl (o_put 7 4 k_ref 52)),
  (52, .inl (o_al 0 53)),
  (53, .inl (o_push (.int 0) 54)),
  (54, .inl (o_put 7 5 k_int 57)),
  (57, .inl (o_push (.int 0) 58)),
  (58, .inl (o_is 1 59)),
  (59, .inl (o_il 1 60)),
  (60, .inl (o_al 0 61)),
  (61, .inl (o_get 7 1 64)),
  (64, .inl (o_len 65)),
  (65, .inl (o_ic (fun x y => decide (y ≤ x)) 100 68)),
  (68, .inl (o_al 0 69)),
  (69, .inl (o_get 7 1 72)),
  (72, .inl (o_il 1 73)),
  (73, .inl (o_new 3 9 cd_Line 76)),
  (76, .inl (o_dup 77)),
  (77, .inl (o_il 1 78)),
  (78, .inl (o_push (.int 12) 80)),
  (80, .inl (o_dv (fun x y => x - x / y * y) 81)),
  (81, .inl (o_push (.int 4) 82)),
  (82, .inl (o_ic (fun x y => decide (y ≤ x)) 89 85)),
  (85, .inl (o_push (.int 1) 86)),
  (86, .inl (o_goto 90)),
  (89, .inl (o_push (.int 0) 90)),
  (90, .inr (.inr (.inl (4, 2, 93, some 3, [])))),
  (93, .inl (o_aas 94)),
  (94, .inl (o_inc 1 1 97)),
  (97, .inl (o_goto 59)),
  (100, .inr (.inl none))]
theorem te_1 : ∀ q ∈ tb_1, ae_E am "TwinNetwork" "<init>" prog_1_method_1_code 2 (Option.none : Option Jvm.ClassFile.FieldType) [] q := by
  unfold tb_1
  refine List.forall_mem_cons.mpr ⟨ae_mk pu_al (fun X => ok_aload_n X (k := 0) rfl (by decide +kernel)), ?_⟩
  refine List.forall_mem_cons.mpr ⟨ae_mk pu_oi (fun X => ok_oi X (index := 1) wd_67 aw_oi2 aw_oi3 (by decide +kernel)), ?_⟩
  refine List.forall_mem_cons.mpr ⟨ae_mk pu_al (fun X => ok_aload_n X (k := 0) rfl (by decide +kernel)), ?_⟩
  refine List.forall_mem_cons.mpr ⟨ae_mk (pu_push (fun _ => trivial)) (fun X => ok_bipush X (n := 8) (by decide) (by decide +kernel)), ?_⟩
  refine List.forall_mem_cons.mpr ⟨ae_mk pu_nq (fun X => ok_nq X (t := 4) (index := 9) (fun _ => rfl) wd_70 wd_71 (by decide +kernel)), ?_⟩
  refine List.forall_mem_cons.mpr ⟨ae_mk pu_put (fun X => ok_putF X (ci := 7) (kk := 0) (index := 11) rfl aw_c_Net (by decide) wd_164 cy_Net cn_Net_ty cn_Net_nm rfl hk_arr rfl rfl rfl (by decide +kernel)), ?_⟩
  refine List.forall_mem_cons.mpr ⟨ae_mk pu_al (fun X => ok_aload_n X (k := 0) rfl (by decide +kernel)), ?_⟩
  refine List.forall_mem_cons.mpr ⟨ae_mk (pu_push (fun _ => trivial)) (fun X => ok_bipush X (n := 24) (by decide) (by decide +kernel)), ?_⟩
  refine List.forall_mem_cons.mpr ⟨ae_mk pu_nq (fun X => ok_nq X (t := 5) (index := 15) (fun _ => rfl) wd_72 wd_73 (by decide +kernel)), ?_⟩
  refine List.forall_mem_cons.mpr ⟨ae_mk pu_put (fun X => ok_putF X (ci := 7) (kk := 1) (index := 17) rfl aw_c_Net (by decide) wd_165 cy_Net cn_Net_ty cn_Net_nm rfl hk_arr rfl rfl rfl (by decide +kernel)), ?_⟩
  refine List.forall_mem_cons.mpr ⟨ae_mk pu_al (fun X => ok_aload_n X (k := 0) rfl (by decide +kernel)), ?_⟩
  refine List.forall_mem_cons.mpr ⟨ae_mk (pu_push (fun _ => trivial)) (fun X => ok_bipush X (n := 12) (by decide) (by decide +kernel)), ?_⟩
  refine List.forall_mem_cons.mpr ⟨ae_mk pu_na (fun X => ok_na X (atype := .int) (t := 0) rfl (fun _ => rfl) wd_89 (fun _ _ => rfl) (by decide) (fun _ _ => rfl) (by decide +kernel)), ?_⟩
  refine List.forall_mem_cons.mpr ⟨ae_mk pu_put (fun X => ok_putF X (ci := 7) (kk := 2) (index := 21) rfl aw_c_Net (by decide) wd_166 cy_Net cn_Net_ty cn_Net_nm rfl hk_arr rfl rfl rfl (by decide +kernel)), ?_⟩
  refine List.forall_mem_cons.mpr ⟨ae_mk pu_al (fun X => ok_aload_n X (k := 0) rfl (by decide +kernel)), ?_⟩
  refine List.forall_mem_cons.mpr ⟨ae_mk (pu_new cd_Frame_cv) (fun X => ok_new X (ci := 2) (index := 25) (fs := cd_Frame) rfl aw_c_Frame cy_Frame cn_Frame_ty wd_74 wd_75 wd_47 cd_Frame_v (fun _ _ => rfl) cd_Frame_cv (by decide +kernel)), ?_⟩
  refine List.forall_mem_cons.mpr ⟨ae_mk pu_dup (fun X => ok_dup X (by decide +kernel)), ?_⟩
  refine List.forall_mem_cons.mpr ⟨ae_mkc (fun X => ok_callIN X (mid := 2) (index := 27) (y := my_2) rfl (by decide) ⟨by decide, by decide⟩ (n := 0) (by decide +kernel) wd_78 wd_47 wd_76 wd_77 rfl rfl (ci := 2) (by decide +kernel)), ?_⟩
  refine List.forall_mem_cons.mpr ⟨ae_mk pu_put (fun X => ok_putF X (ci := 7) (kk := 3) (index := 28) rfl aw_c_Net (by decide) wd_167 cy_Net cn_Net_ty cn_Net_nm rfl hk_obj rfl rfl rfl (by decide +kernel)), ?_⟩
  refine List.forall_mem_cons.mpr ⟨ae_mk pu_al (fun X => ok_aload_n X (k := 0) rfl (by decide +kernel)), ?_⟩
  refine List.forall_mem_cons.mpr ⟨ae_mk (pu_new cd_Datagram_cv) (fun X => ok_new X (ci := 0) (index := 32) (fs := cd_Datagram) rfl aw_c_Datagram cy_Datagram cn_Datagram_ty wd_91 wd_92 wd_48 cd_Datagram_v (fun _ _ => rfl) cd_Datagram_cv (by decide +kernel)), ?_⟩
  refine List.forall_mem_cons.mpr ⟨ae_mk pu_dup (fun X => ok_dup X (by decide +kernel)), ?_⟩
  refine List.forall_mem_cons.mpr ⟨ae_mkc (fun X => ok_callIN X (mid := 3) (index := 34) (y := my_3) rfl (by decide) ⟨by decide, by decide⟩ (n := 0) (by decide +kernel) wd_95 wd_48 wd_93 wd_94 rfl rfl (ci := 0) (by decide +kernel)), ?_⟩
  refine List.forall_mem_cons.mpr ⟨ae_mk pu_put (fun X => ok_putF X (ci := 7) (kk := 4) (index := 35) rfl aw_c_Net (by decide) wd_168 cy_Net cn_Net_ty cn_Net_nm rfl hk_obj rfl rfl rfl (by decide +kernel)), ?_⟩
  refine List.forall_mem_cons.mpr ⟨ae_mk pu_al (fun X => ok_aload_n X (k := 0) rfl (by decide +kernel)), ?_⟩
  refine List.forall_mem_cons.mpr ⟨ae_mk (pu_push (fun _ => trivial)) (fun X => ok_iconst X (n := 0) (by decide) (by decide +kernel)), ?_⟩
  refine List.forall_mem_cons.mpr ⟨ae_mk pu_put (fun X => ok_put X (ci := 7) (kk := 5) (index := 39) rfl aw_c_Net (by decide) wd_169 cy_Net cn_Net_ty cn_Net_nm rfl hk_int rfl (by decide +kernel)), ?_⟩
  refine List.forall_mem_cons.mpr ⟨ae_mk (pu_push (fun _ => trivial)) (fun X => ok_iconst X (n := 0) (by decide) (by decide +kernel)), ?_⟩
  refine List.forall_mem_cons.mpr ⟨ae_mk pu_is (fun X => ok_istore_n X (k := 1) rfl (by decide +kernel)), ?_⟩
  refine List.forall_mem_cons.mpr ⟨ae_mk pu_il (fun X => ok_iload_n X (k := 1) rfl (by decide +kernel)), ?_⟩
  refine List.forall_mem_cons.mpr ⟨ae_mk pu_al (fun X => ok_aload_n X (k := 0) rfl (by decide +kernel)), ?_⟩
  refine List.forall_mem_cons.mpr ⟨ae_mk pu_get (fun X => ok_get X (ci := 7) (kk := 1) (index := 17) rfl aw_c_Net (by decide) wd_165 (by decide +kernel)), ?_⟩
  refine List.forall_mem_cons.mpr ⟨ae_mk pu_len (fun X => ok_len X (by decide +kernel)), ?_⟩
  refine List.forall_mem_cons.mpr ⟨ae_mk pu_ic (fun X => ok_ic_ge X (off := 35) (by decide) (by decide +kernel)), ?_⟩
  refine List.forall_mem_cons.mpr ⟨ae_mk pu_al (fun X => ok_aload_n X (k := 0) rfl (by decide +kernel)), ?_⟩
  refine List.forall_mem_cons.mpr ⟨ae_mk pu_get (fun X => ok_get X (ci := 7) (kk := 1) (index := 17) rfl aw_c_Net (by decide) wd_165 (by decide +kernel)), ?_⟩
  refine List.forall_mem_cons.mpr ⟨ae_mk pu_il (fun X => ok_iload_n X (k := 1) rfl (by decide +kernel)), ?_⟩
  refine List.forall_mem_cons.mpr ⟨ae_mk (pu_new cd_Line_cv) (fun X => ok_new X (ci := 3) (index := 15) (fs := cd_Line) rfl aw_c_Line cy_Line cn_Line_ty wd_72 wd_106 wd_49 cd_Line_v (fun _ _ => rfl) cd_Line_cv (by decide +kernel)), ?_⟩
  refine List.forall_mem_cons.mpr ⟨ae_mk pu_dup (fun X => ok_dup X (by decide +kernel)), ?_⟩
  refine List.forall_mem_cons.mpr ⟨ae_mk pu_il (fun X => ok_iload_n X (k := 1) rfl (by decide +kernel)), ?_⟩
  refine List.forall_mem_cons.mpr ⟨ae_mk (pu_push (fun _ => trivial)) (fun X => ok_bipush X (n := 12) (by decide) (by decide +kernel)), ?_⟩
  refine List.forall_mem_cons.mpr ⟨ae_mk pu_dv (fun X => ok_irem X (by decide +kernel)), ?_⟩
  refine List.forall_mem_cons.mpr ⟨ae_mk (pu_push (fun _ => trivial)) (fun X => ok_iconst X (n := 4) (by decide) (by decide +kernel)), ?_⟩
  refine List.forall_mem_cons.mpr ⟨ae_mk pu_ic (fun X => ok_ic_ge X (off := 7) (by decide) (by decide +kernel)), ?_⟩
  refine List.forall_mem_cons.mpr ⟨ae_mk (pu_push (fun _ => trivial)) (fun X => ok_iconst X (n := 1) (by decide) (by decide +kernel)), ?_⟩
  refine List.forall_mem_cons.mpr ⟨ae_mk pu_goto (fun X => ok_goto X (off := 4) (by decide) (by decide +kernel)), ?_⟩
  refine List.forall_mem_cons.mpr ⟨ae_mk (pu_push (fun _ => trivial)) (fun X => ok_iconst X (n := 0) (by decide) (by decide +kernel)), ?_⟩
  refine List.forall_mem_cons.mpr ⟨ae_mkc (fun X => ok_callI X (mid := 4) (index := 43) (y := my_4) rfl (by decide) ⟨by decide, by decide⟩ (n := 1) (by decide +kernel) wd_109 wd_49 wd_107 wd_108 rfl rfl (ci := 3) (by decide +kernel)), ?_⟩
  refine List.forall_mem_cons.mpr ⟨ae_mk pu_aas (fun X => ok_aas X (by decide +kernel)), ?_⟩
  refine List.forall_mem_cons.mpr ⟨ae_mk pu_inc (fun X => ok_iinc X (n := 1) (by decide) (by decide +kernel)), ?_⟩
  refine List.forall_mem_cons.mpr ⟨ae_mk pu_goto (fun X => ok_goto X (off := (-38)) (by decide) (by decide +kernel)), ?_⟩
  refine List.forall_mem_cons.mpr ⟨⟨rfl, (by decide +kernel)⟩, ?_⟩
  exact fun _ h => absurd h List.not_mem_nil
def tb_2 : List (Nat × ae_I) := [(0, .inl (o_al 0 1)),
  (1, .inl (o_oi 4)),
  (4, .inl (o_al 0 5)),
  (5, .inl (o_push (.int 200) 8)),
  (8, .inl (o_na 1 10)),
  (10, .inl (o_put 2 0 k_ref 13)),
  (13, .inl (o_al 0 14)),
  (14, .inl (o_push (.int 0) 15)),
  (15, .inl (o_put 2 1 k_int 18)),
  (18, .inr (.inl none))]
theorem te_2 : ∀ q ∈ tb_2, ae_E am "TwinNetwork$Frame" "<init>" prog_4_method_1_code 1 (Option.none : Option Jvm.ClassFile.FieldType) [] q := by
  unfold tb_2
  refine List.forall_mem_cons.mpr ⟨ae_mk pu_al (fun X => ok_aload_n X (k := 0) rfl (by decide +kernel)), ?_⟩
  refine List.forall_mem_cons.mpr ⟨ae_mk pu_oi (fun X => ok_oi X (index := 3) wd_79 aw_oi2 aw_oi3 (by decide +kernel)), ?_⟩
  refine List.forall_mem_cons.mpr ⟨ae_mk pu_al (fun X => ok_aload_n X (k := 0) rfl (by decide +kernel)), ?_⟩
  refine List.forall_mem_cons.mpr ⟨ae_mk (pu_push (fun _ => trivial)) (fun X => ok_sipush X (n := 200) (by decide) (by decide +kernel)), ?_⟩
  refine List.forall_mem_cons.mpr ⟨ae_mk pu_na (fun X => ok_na X (atype := .byte) (t := 1) rfl (fun _ => rfl) wd_90 (fun _ _ => rfl) (by decide) (fun _ _ => rfl) (by decide +kernel)), ?_⟩
  refine List.forall_mem_cons.mpr ⟨ae_mk pu_put (fun X => ok_putF X (ci := 2) (kk := 0) (index := 9) rfl aw_c_Frame (by decide) wd_80 cy_Frame cn_Frame_ty cn_Frame_nm rfl hk_arr rfl rfl rfl (by decide +kernel)), ?_⟩
  refine List.forall_mem_cons.mpr ⟨ae_mk pu_al (fun X => ok_aload_n X (k := 0) rfl (by decide +kernel)), ?_⟩
  refine List.forall_mem_cons.mpr ⟨ae_mk (pu_push (fun _ => trivial)) (fun X => ok_iconst X (n := 0) (by decide) (by decide +kernel)), ?_⟩
  refine List.forall_mem_cons.mpr ⟨ae_mk pu_put (fun X => ok_put X (ci := 2) (kk := 1) (index := 15) rfl aw_c_Frame (by decide) wd_81 cy_Frame cn_Frame_ty cn_Frame_nm rfl hk_int rfl (by decide +kernel)), ?_⟩
  refine List.forall_mem_cons.mpr ⟨⟨rfl, (by decide +kernel)⟩, ?_⟩
  exact fun _ h => absurd h List.not_mem_nil
def tb_3 : List (Nat × ae_I) := [(0, .inl (o_al 0 1)),
  (1, .inl (o_oi 4)),
  (4, .inl (o_al 0 5)),
  (5, .inl (o_push (.int 1000) 8)),
  (8, .inl (o_na 1 10)),
  (10, .inl (o_put 0 0 k_ref 13)),
  (13, .inl (o_al 0 14)),
  (14, .inl (o_push (.int 0) 15)),
  (15, .inl (o_put 0 1 k_int 18)),
  (18, .inr (.inl none))]
theorem te_3 : ∀ q ∈ tb_3, ae_E am "TwinNetwork$Datagram" "<init>" prog_2_method_1_code 1 (Option.none : Option Jvm.ClassFile.FieldType) [] q := by
  unfold tb_3
  refine List.forall_mem_cons.mpr ⟨ae_mk pu_al (fun X => ok_aload_n X (k := 0) rfl (by decide +kernel)), ?_⟩
  refine List.forall_mem_cons.mpr ⟨ae_mk pu_oi (fun X => ok_oi X (index := 3) wd_96 aw_oi2 aw_oi3 (by decide +kernel)), ?_⟩
  refine List.forall_mem_cons.mpr ⟨ae_mk pu_al (fun X => ok_aload_n X (k := 0) rfl (by decide +kernel)), ?_⟩
  refine List.forall_mem_cons.mpr ⟨ae_mk (pu_push (fun _ => trivial)) (fun X => ok_sipush X (n := 1000) (by decide) (by decide +kernel)), ?_⟩
  refine List.forall_mem_cons.mpr ⟨ae_mk pu_na (fun X => ok_na X (atype := .byte) (t := 1) rfl (fun _ => rfl) wd_90 (fun _ _ => rfl) (by decide) (fun _ _ => rfl) (by decide +kernel)), ?_⟩
  refine List.forall_mem_cons.mpr ⟨ae_mk pu_put (fun X => ok_putF X (ci := 0) (kk := 0) (index := 9) rfl aw_c_Datagram (by decide) wd_97 cy_Datagram cn_Datagram_ty cn_Datagram_nm rfl hk_arr rfl rfl rfl (by decide +kernel)), ?_⟩
  refine List.forall_mem_cons.mpr ⟨ae_mk pu_al (fun X => ok_aload_n X (k := 0) rfl (by decide +kernel)), ?_⟩
  refine List.forall_mem_cons.mpr ⟨ae_mk (pu_push (fun _ => trivial)) (fun X => ok_iconst X (n := 0) (by decide) (by decide +kernel)), ?_⟩
  refine List.forall_mem_cons.mpr ⟨ae_mk pu_put (fun X => ok_put X (ci := 0) (kk := 1) (index := 15) rfl aw_c_Datagram (by decide) wd_98 cy_Datagram cn_Datagram_ty cn_Datagram_nm rfl hk_int rfl (by decide +kernel)), ?_⟩
  refine List.forall_mem_cons.mpr ⟨⟨rfl, (by decide +kernel)⟩, ?_⟩
  exact fun _ h => absurd h List.not_mem_nil
def tb_4 : List (Nat × ae_I) := [(0, .inl (o_al 0 1)),
  (1, .inl (o_oi 4)),
  (4, .inl (o_al 0 5)),
  (5, .inl (o_new 2 2 cd_Frame 8)),
  (8, .inl (o_dup 9)),
  (9, .inr (.inr (.inl (2, 1, 12, some 2, [])))),
  (12, .inl (o_put 3 3 k_ref 15)),
  (15, .inl (o_al 0 16)),
  (16, .inl (o_push (.int 0) 17)),
  (17, .inl (o_put 3 4 k_bool 20)),
  (20, .inl (o_al 0 21)),
  (21, .inl (o_push (.int 0) 22)),
  (22, .inl (o_put 3 5 k_int 25)),
  (25, .inl (o_al 0 26)),
  (26, .inl (o_push (.int 0) 27)),
  (27, .inl (o_put 3 6 k_bool 30)),
  (30, .inl (o_al 0 31)),
  (31, .inl (o_push (.int 0) 32)),
  (32, .inl (o_put 3 7 k_int 35)),
  (35, .inl (o_al 0 36)),
  (36, .inl (o_push (.int 0) 37)),
  (37, .inl (o_put 3 8 k_int 40)),
  (40, .inl (o_al 0 41)),
  (41, .inl (o_il 1 42)),
  (42, .inl (o_put 3 2 k_bool 45)),
  (45, .inl (o_al 0 46)),
  (46, .inl (o_new 6 3 cd_Row 49)),
  (49, .inl (o_dup 50)),
  (50, .inl (o_il 1 51)),
  (51, .inl (o_if (fun x => decide (x = 0)) 59 54)),
  (54, .inl (o_push (.int 16) 56)),
  (56, .inl (o_goto 60)),
  (59, .inl (o_push (.int 4) 60)),
  (60, .inr (.inr (.inl (5, 2, 63, some 6, [])))),
  (63, .inl (o_put 3 0 k_ref 66)),
  (66, .inl (o_al 0 67)),
  (67, .inl (o_new 6 3 cd_Row 70)),
  (70, .inl (o_dup 71)),
  (71, .inl (o_il 1 72)),
  (72, .inl (o_if (fun x => decide (x = 0)) 79 75)),
  (75, .inl (o_push (.int 0) 76)),
  (76, .inl (o_goto 80)),
  (79, .inl (o_push (.int 4) 80)),
  (80, .inr (.inr (.inl (5, 2, 83, some 6, [])))),
  (83, .inl (o_put 3 1 k_ref 86)),
  (86, .inr (.inl none))]
theorem te_4 : ∀ q ∈ tb_4, ae_E am "TwinNetwork$Line" "<init>" prog_5_method_1_code 2 (Option.none : Option Jvm.ClassFile.FieldType) [] q := by
  unfold tb_4
  refine List.forall_mem_cons.mpr ⟨ae_mk pu_al (fun X => ok_aload_n X (k := 0) rfl (by decide +kernel)), ?_⟩
  refine List.forall_mem_cons.mpr ⟨ae_mk pu_oi (fun X => ok_oi X (index := 3) wd_110 aw_oi2 aw_oi3 (by decide +kernel)), ?_⟩
  refine List.forall_mem_cons.mpr ⟨ae_mk pu_al (fun X => ok_aload_n X (k := 0) rfl (by decide +kernel)), ?_⟩
  refine List.forall_mem_cons.mpr ⟨ae_mk (pu_new cd_Frame_cv) (fun X => ok_new X (ci := 2) (index := 9) (fs := cd_Frame) rfl aw_c_Frame cy_Frame cn_Frame_ty wd_111 wd_75 wd_47 cd_Frame_v (fun _ _ => rfl) cd_Frame_cv (by decide +kernel)), ?_⟩
  refine List.forall_mem_cons.mpr ⟨ae_mk pu_dup (fun X => ok_dup X (by decide +kernel)), ?_⟩
  refine List.forall_mem_cons.mpr ⟨ae_mkc (fun X => ok_callIN X (mid := 2) (index := 11) (y := my_2) rfl (by decide) ⟨by decide, by decide⟩ (n := 0) (by decide +kernel) wd_78 wd_47 wd_112 wd_77 rfl rfl (ci := 2) (by decide +kernel)), ?_⟩
  refine List.forall_mem_cons.mpr ⟨ae_mk pu_put (fun X => ok_put X (ci := 3) (kk := 3) (index := 12) rfl aw_c_Line (by decide) wd_137 cy_Line cn_Line_ty cn_Line_nm rfl hk_obj rfl (by decide +kernel)), ?_⟩
  refine List.forall_mem_cons.mpr ⟨ae_mk pu_al (fun X => ok_aload_n X (k := 0) rfl (by decide +kernel)), ?_⟩
  refine List.forall_mem_cons.mpr ⟨ae_mk (pu_push (fun _ => trivial)) (fun X => ok_iconst X (n := 0) (by decide) (by decide +kernel)), ?_⟩
  refine List.forall_mem_cons.mpr ⟨ae_mk pu_put (fun X => ok_put X (ci := 3) (kk := 4) (index := 18) rfl aw_c_Line (by decide) wd_139 cy_Line cn_Line_ty cn_Line_nm rfl hk_bool rfl (by decide +kernel)), ?_⟩
  refine List.forall_mem_cons.mpr ⟨ae_mk pu_al (fun X => ok_aload_n X (k := 0) rfl (by decide +kernel)), ?_⟩
  refine List.forall_mem_cons.mpr ⟨ae_mk (pu_push (fun _ => trivial)) (fun X => ok_iconst X (n := 0) (by decide) (by decide +kernel)), ?_⟩
  refine List.forall_mem_cons.mpr ⟨ae_mk pu_put (fun X => ok_put X (ci := 3) (kk := 5) (index := 22) rfl aw_c_Line (by decide) wd_141 cy_Line cn_Line_ty cn_Line_nm rfl hk_int rfl (by decide +kernel)), ?_⟩
  refine List.forall_mem_cons.mpr ⟨ae_mk pu_al (fun X => ok_aload_n X (k := 0) rfl (by decide +kernel)), ?_⟩
  refine List.forall_mem_cons.mpr ⟨ae_mk (pu_push (fun _ => trivial)) (fun X => ok_iconst X (n := 0) (by decide) (by decide +kernel)), ?_⟩
  refine List.forall_mem_cons.mpr ⟨ae_mk pu_put (fun X => ok_put X (ci := 3) (kk := 6) (index := 26) rfl aw_c_Line (by decide) wd_142 cy_Line cn_Line_ty cn_Line_nm rfl hk_bool rfl (by decide +kernel)), ?_⟩
  refine List.forall_mem_cons.mpr ⟨ae_mk pu_al (fun X => ok_aload_n X (k := 0) rfl (by decide +kernel)), ?_⟩
  refine List.forall_mem_cons.mpr ⟨ae_mk (pu_push (fun _ => trivial)) (fun X => ok_iconst X (n := 0) (by decide) (by decide +kernel)), ?_⟩
  refine List.forall_mem_cons.mpr ⟨ae_mk pu_put (fun X => ok_put X (ci := 3) (kk := 7) (index := 29) rfl aw_c_Line (by decide) wd_143 cy_Line cn_Line_ty cn_Line_nm rfl hk_int rfl (by decide +kernel)), ?_⟩
  refine List.forall_mem_cons.mpr ⟨ae_mk pu_al (fun X => ok_aload_n X (k := 0) rfl (by decide +kernel)), ?_⟩
  refine List.forall_mem_cons.mpr ⟨ae_mk (pu_push (fun _ => trivial)) (fun X => ok_iconst X (n := 0) (by decide) (by decide +kernel)), ?_⟩
  refine List.forall_mem_cons.mpr ⟨ae_mk pu_put (fun X => ok_put X (ci := 3) (kk := 8) (index := 32) rfl aw_c_Line (by decide) wd_144 cy_Line cn_Line_ty cn_Line_nm rfl hk_int rfl (by decide +kernel)), ?_⟩
  refine List.forall_mem_cons.mpr ⟨ae_mk pu_al (fun X => ok_aload_n X (k := 0) rfl (by decide +kernel)), ?_⟩
  refine List.forall_mem_cons.mpr ⟨ae_mk pu_il (fun X => ok_iload_n X (k := 1) rfl (by decide +kernel)), ?_⟩
  refine List.forall_mem_cons.mpr ⟨ae_mk pu_put (fun X => ok_putF X (ci := 3) (kk := 2) (index := 35) rfl aw_c_Line (by decide) wd_136 cy_Line cn_Line_ty cn_Line_nm rfl hk_bool rfl rfl rfl (by decide +kernel)), ?_⟩
  refine List.forall_mem_cons.mpr ⟨ae_mk pu_al (fun X => ok_aload_n X (k := 0) rfl (by decide +kernel)), ?_⟩
  refine List.forall_mem_cons.mpr ⟨ae_mk (pu_new cd_Row_cv) (fun X => ok_new X (ci := 6) (index := 38) (fs := cd_Row) rfl aw_c_Row cy_Row cn_Row_ty wd_113 wd_114 wd_50 cd_Row_v (fun _ _ => rfl) cd_Row_cv (by decide +kernel)), ?_⟩
  refine List.forall_mem_cons.mpr ⟨ae_mk pu_dup (fun X => ok_dup X (by decide +kernel)), ?_⟩
  refine List.forall_mem_cons.mpr ⟨ae_mk pu_il (fun X => ok_iload_n X (k := 1) rfl (by decide +kernel)), ?_⟩
  refine List.forall_mem_cons.mpr ⟨ae_mk pu_if (fun X => ok_if_eq X (off := 8) (by decide) (by decide +kernel)), ?_⟩
  refine List.forall_mem_cons.mpr ⟨ae_mk (pu_push (fun _ => trivial)) (fun X => ok_bipush X (n := 16) (by decide) (by decide +kernel)), ?_⟩
  refine List.forall_mem_cons.mpr ⟨ae_mk pu_goto (fun X => ok_goto X (off := 4) (by decide) (by decide +kernel)), ?_⟩
  refine List.forall_mem_cons.mpr ⟨ae_mk (pu_push (fun _ => trivial)) (fun X => ok_iconst X (n := 4) (by decide) (by decide +kernel)), ?_⟩
  refine List.forall_mem_cons.mpr ⟨ae_mkc (fun X => ok_callI X (mid := 5) (index := 40) (y := my_5) rfl (by decide) ⟨by decide, by decide⟩ (n := 1) (by decide +kernel) wd_117 wd_50 wd_115 wd_116 rfl rfl (ci := 6) (by decide +kernel)), ?_⟩
  refine List.forall_mem_cons.mpr ⟨ae_mk pu_put (fun X => ok_putF X (ci := 3) (kk := 0) (index := 43) rfl aw_c_Line (by decide) wd_132 cy_Line cn_Line_ty cn_Line_nm rfl hk_obj rfl rfl rfl (by decide +kernel)), ?_⟩
  refine List.forall_mem_cons.mpr ⟨ae_mk pu_al (fun X => ok_aload_n X (k := 0) rfl (by decide +kernel)), ?_⟩
  refine List.forall_mem_cons.mpr ⟨ae_mk (pu_new cd_Row_cv) (fun X => ok_new X (ci := 6) (index := 38) (fs := cd_Row) rfl aw_c_Row cy_Row cn_Row_ty wd_113 wd_114 wd_50 cd_Row_v (fun _ _ => rfl) cd_Row_cv (by decide +kernel)), ?_⟩
  refine List.forall_mem_cons.mpr ⟨ae_mk pu_dup (fun X => ok_dup X (by decide +kernel)), ?_⟩
  refine List.forall_mem_cons.mpr ⟨ae_mk pu_il (fun X => ok_iload_n X (k := 1) rfl (by decide +kernel)), ?_⟩
  refine List.forall_mem_cons.mpr ⟨ae_mk pu_if (fun X => ok_if_eq X (off := 7) (by decide) (by decide +kernel)), ?_⟩
  refine List.forall_mem_cons.mpr ⟨ae_mk (pu_push (fun _ => trivial)) (fun X => ok_iconst X (n := 0) (by decide) (by decide +kernel)), ?_⟩
  refine List.forall_mem_cons.mpr ⟨ae_mk pu_goto (fun X => ok_goto X (off := 4) (by decide) (by decide +kernel)), ?_⟩
  refine List.forall_mem_cons.mpr ⟨ae_mk (pu_push (fun _ => trivial)) (fun X => ok_iconst X (n := 4) (by decide) (by decide +kernel)), ?_⟩
  refine List.forall_mem_cons.mpr ⟨ae_mkc (fun X => ok_callI X (mid := 5) (index := 40) (y := my_5) rfl (by decide) ⟨by decide, by decide⟩ (n := 1) (by decide +kernel) wd_117 wd_50 wd_115 wd_116 rfl rfl (ci := 6) (by decide +kernel)), ?_⟩
  refine List.forall_mem_cons.mpr ⟨ae_mk pu_put (fun X => ok_putF X (ci := 3) (kk := 1) (index := 47) rfl aw_c_Line (by decide) wd_134 cy_Line cn_Line_ty cn_Line_nm rfl hk_obj rfl rfl rfl (by decide +kernel)), ?_⟩
  refine List.forall_mem_cons.mpr ⟨⟨rfl, (by decide +kernel)⟩, ?_⟩
  exact fun _ h => absurd h List.not_mem_nil
def tb_5 : List (Nat × ae_I) := [(0, .inl (o_al 0 1)),
  (1, .inl (o_oi 4)),
  (4, .inl (o_al 0 5)),
  (5, .inl (o_push (.int 0) 6)),
  (6, .inl (o_put 6 1 k_int 9)),
  (9, .inl (o_al 0 10)),
  (10, .inl (o_push (.int 0) 11)),
  (11, .inl (o_put 6 2 k_int 14)),
  (14, .inl (o_al 0 15)),
  (15, .inl (o_il 1 16)),
  (16, .inl (o_nq 6 19)),
  (19, .inl (o_put 6 0 k_ref 22)),
  (22, .inr (.inl none))]
theorem te_5 : ∀ q ∈ tb_5, ae_E am "TwinNetwork$Row" "<init>" prog_8_method_1_code 2 (Option.none : Option Jvm.ClassFile.FieldType) [] q := by
  unfold tb_5
  refine List.forall_mem_cons.mpr ⟨ae_mk pu_al (fun X => ok_aload_n X (k := 0) rfl (by decide +kernel)), ?_⟩
  refine List.forall_mem_cons.mpr ⟨ae_mk pu_oi (fun X => ok_oi X (index := 1) wd_118 aw_oi2 aw_oi3 (by decide +kernel)), ?_⟩
  refine List.forall_mem_cons.mpr ⟨ae_mk pu_al (fun X => ok_aload_n X (k := 0) rfl (by decide +kernel)), ?_⟩
  refine List.forall_mem_cons.mpr ⟨ae_mk (pu_push (fun _ => trivial)) (fun X => ok_iconst X (n := 0) (by decide) (by decide +kernel)), ?_⟩
  refine List.forall_mem_cons.mpr ⟨ae_mk pu_put (fun X => ok_put X (ci := 6) (kk := 1) (index := 7) rfl aw_c_Row (by decide) wd_122 cy_Row cn_Row_ty cn_Row_nm rfl hk_int rfl (by decide +kernel)), ?_⟩
  refine List.forall_mem_cons.mpr ⟨ae_mk pu_al (fun X => ok_aload_n X (k := 0) rfl (by decide +kernel)), ?_⟩
  refine List.forall_mem_cons.mpr ⟨ae_mk (pu_push (fun _ => trivial)) (fun X => ok_iconst X (n := 0) (by decide) (by decide +kernel)), ?_⟩
  refine List.forall_mem_cons.mpr ⟨ae_mk pu_put (fun X => ok_put X (ci := 6) (kk := 2) (index := 13) rfl aw_c_Row (by decide) wd_123 cy_Row cn_Row_ty cn_Row_nm rfl hk_int rfl (by decide +kernel)), ?_⟩
  refine List.forall_mem_cons.mpr ⟨ae_mk pu_al (fun X => ok_aload_n X (k := 0) rfl (by decide +kernel)), ?_⟩
  refine List.forall_mem_cons.mpr ⟨ae_mk pu_il (fun X => ok_iload_n X (k := 1) rfl (by decide +kernel)), ?_⟩
  refine List.forall_mem_cons.mpr ⟨ae_mk pu_nq (fun X => ok_nq X (t := 6) (index := 16) (fun _ => rfl) wd_119 wd_120 (by decide +kernel)), ?_⟩
  refine List.forall_mem_cons.mpr ⟨ae_mk pu_put (fun X => ok_putF X (ci := 6) (kk := 0) (index := 18) rfl aw_c_Row (by decide) wd_121 cy_Row cn_Row_ty cn_Row_nm rfl hk_arr rfl rfl rfl (by decide +kernel)), ?_⟩
  refine List.forall_mem_cons.mpr ⟨⟨rfl, (by decide +kernel)⟩, ?_⟩
  exact fun _ h => absurd h List.not_mem_nil
def tb_6 : List (Nat × ae_I) := [(0, .inl (o_il 1 1)),
  (1, .inl (o_if (fun x => decide (x < 0)) 11 4)),
  (4, .inl (o_il 1 5)),
  (5, .inl (o_push (.int 2000) 8)),
  (8, .inl (o_ic (fun x y => decide (x ≤ y)) 15 11)),
  (11, .inl (o_push (.int 0) 12)),
  (12, .inl (o_goto 16)),
  (15, .inl (o_il 1 16)),
  (16, .inl (o_is 2 17)),
  (17, .inl (o_push (.int 0) 18)),
  (18, .inl (o_is 3 19)),
  (19, .inl (o_il 3 20)),
  (20, .inl (o_il 2 21)),
  (21, .inl (o_ic (fun x y => decide (y ≤ x)) 64 24)),
  (24, .inl (o_al 0 25)),
  (25, .inr (.inr (.inl (7, 1, 28, some 7, [])))),
  (28, .inl (o_if (fun x => decide (x = 0)) 41 31)),
  (31, .inl (o_al 0 32)),
  (32, .inl (o_il 2 33)),
  (33, .inl (o_il 3 34)),
  (34, .inl (o_bin (fun x y => x - y) 35)),
  (35, .inr (.inr (.inl (9, 2, 38, some 7, [])))),
  (38, .inl (o_goto 64)),
  (41, .inl (o_al 0 42)),
  (42, .inr (.inr (.inl (11, 1, 45, some 7, [])))),
  (45, .inl (o_al 0 46)),
  (46, .inr (.inr (.inl (31, 1, 49, some 7, [])))),
  (49, .inl (o_al 0 50)),
  (50, .inr (.inr (.inl (58, 1, 53, some 7, [])))),
  (53, .inl (o_al 0 54)),
  (54, .inl (o_push (.int 1) 55)),
  (55, .inr (.inr (.inl (9, 2, 58, some 7, [])))),
  (58, .inl (o_inc 3 1 61)),
  (61, .inl (o_goto 19)),
  (64, .inl (o_al 0 65)),
  (65, .inl (o_get 7 5 68)),
  (68, .inr (.inl (some k_int)))]
theorem te_6 : ∀ q ∈ tb_6, ae_E am "TwinNetwork" "tick" prog_1_method_4_code 4 (Option.some Jvm.ClassFile.FieldType.int) [] q := by
  unfold tb_6
  refine List.forall_mem_cons.mpr ⟨ae_mk pu_il (fun X => ok_iload_n X (k := 1) rfl (by decide +kernel)), ?_⟩
  refine List.forall_mem_cons.mpr ⟨ae_mk pu_if (fun X => ok_if_lt X (off := 10) (by decide) (by decide +kernel)), ?_⟩
  refine List.forall_mem_cons.mpr ⟨ae_mk pu_il (fun X => ok_iload_n X (k := 1) rfl (by decide +kernel)), ?_⟩
  refine List.forall_mem_cons.mpr ⟨ae_mk (pu_push (fun _ => trivial)) (fun X => ok_sipush X (n := 2000) (by decide) (by decide +kernel)), ?_⟩
  refine List.forall_mem_cons.mpr ⟨ae_mk pu_ic (fun X => ok_ic_le X (off := 7) (by decide) (by decide +kernel)), ?_⟩
  refine List.forall_mem_cons.mpr ⟨ae_mk (pu_push (fun _ => trivial)) (fun X => ok_iconst X (n := 0) (by decide) (by decide +kernel)), ?_⟩
  refine List.forall_mem_cons.mpr ⟨ae_mk pu_goto (fun X => ok_goto X (off := 4) (by decide) (by decide +kernel)), ?_⟩
  refine List.forall_mem_cons.mpr ⟨ae_mk pu_il (fun X => ok_iload_n X (k := 1) rfl (by decide +kernel)), ?_⟩
  refine List.forall_mem_cons.mpr ⟨ae_mk pu_is (fun X => ok_istore_n X (k := 2) rfl (by decide +kernel)), ?_⟩
  refine List.forall_mem_cons.mpr ⟨ae_mk (pu_push (fun _ => trivial)) (fun X => ok_iconst X (n := 0) (by decide) (by decide +kernel)), ?_⟩
  refine List.forall_mem_cons.mpr ⟨ae_mk pu_is (fun X => ok_istore_n X (k := 3) rfl (by decide +kernel)), ?_⟩
  refine List.forall_mem_cons.mpr ⟨ae_mk pu_il (fun X => ok_iload_n X (k := 3) rfl (by decide +kernel)), ?_⟩
  refine List.forall_mem_cons.mpr ⟨ae_mk pu_il (fun X => ok_iload_n X (k := 2) rfl (by decide +kernel)), ?_⟩
  refine List.forall_mem_cons.mpr ⟨ae_mk pu_ic (fun X => ok_ic_ge X (off := 43) (by decide) (by decide +kernel)), ?_⟩
  refine List.forall_mem_cons.mpr ⟨ae_mk pu_al (fun X => ok_aload_n X (k := 0) rfl (by decide +kernel)), ?_⟩
  refine List.forall_mem_cons.mpr ⟨ae_mkc (fun X => ok_callV X (mid := 7) (index := 84) (y := my_7) rfl (by decide) ⟨by decide, by decide⟩ (n := 0) (by decide +kernel) wd_190 wd_46 wd_187 wd_189 wd_0 (ci := 7) rfl (by decide +kernel)), ?_⟩
  refine List.forall_mem_cons.mpr ⟨ae_mk pu_if (fun X => ok_if_eq X (off := 13) (by decide) (by decide +kernel)), ?_⟩
  refine List.forall_mem_cons.mpr ⟨ae_mk pu_al (fun X => ok_aload_n X (k := 0) rfl (by decide +kernel)), ?_⟩
  refine List.forall_mem_cons.mpr ⟨ae_mk pu_il (fun X => ok_iload_n X (k := 2) rfl (by decide +kernel)), ?_⟩
  refine List.forall_mem_cons.mpr ⟨ae_mk pu_il (fun X => ok_iload_n X (k := 3) rfl (by decide +kernel)), ?_⟩
  refine List.forall_mem_cons.mpr ⟨ae_mk pu_bin (fun X => ok_isub X (by decide +kernel)), ?_⟩
  refine List.forall_mem_cons.mpr ⟨ae_mkc (fun X => ok_callV X (mid := 9) (index := 88) (y := my_9) rfl (by decide) ⟨by decide, by decide⟩ (n := 1) (by decide +kernel) wd_198 wd_46 wd_195 wd_197 wd_1 (ci := 7) rfl (by decide +kernel)), ?_⟩
  refine List.forall_mem_cons.mpr ⟨ae_mk pu_goto (fun X => ok_goto X (off := 26) (by decide) (by decide +kernel)), ?_⟩
  refine List.forall_mem_cons.mpr ⟨ae_mk pu_al (fun X => ok_aload_n X (k := 0) rfl (by decide +kernel)), ?_⟩
  refine List.forall_mem_cons.mpr ⟨ae_mkc (fun X => ok_callV X (mid := 11) (index := 92) (y := my_11) rfl (by decide) ⟨by decide, by decide⟩ (n := 0) (by decide +kernel) wd_209 wd_46 wd_206 wd_208 wd_2 (ci := 7) rfl (by decide +kernel)), ?_⟩
  refine List.forall_mem_cons.mpr ⟨ae_mk pu_al (fun X => ok_aload_n X (k := 0) rfl (by decide +kernel)), ?_⟩
  refine List.forall_mem_cons.mpr ⟨ae_mkc (fun X => ok_callV X (mid := 31) (index := 95) (y := my_31) rfl (by decide) ⟨by decide, by decide⟩ (n := 0) (by decide +kernel) wd_299 wd_46 wd_296 wd_298 wd_8 (ci := 7) rfl (by decide +kernel)), ?_⟩
  refine List.forall_mem_cons.mpr ⟨ae_mk pu_al (fun X => ok_aload_n X (k := 0) rfl (by decide +kernel)), ?_⟩
  refine List.forall_mem_cons.mpr ⟨ae_mkc (fun X => ok_callV X (mid := 58) (index := 98) (y := my_58) rfl (by decide) ⟨by decide, by decide⟩ (n := 0) (by decide +kernel) wd_414 wd_46 wd_411 wd_413 wd_14 (ci := 7) rfl (by decide +kernel)), ?_⟩
  refine List.forall_mem_cons.mpr ⟨ae_mk pu_al (fun X => ok_aload_n X (k := 0) rfl (by decide +kernel)), ?_⟩
  refine List.forall_mem_cons.mpr ⟨ae_mk (pu_push (fun _ => trivial)) (fun X => ok_iconst X (n := 1) (by decide) (by decide +kernel)), ?_⟩
  refine List.forall_mem_cons.mpr ⟨ae_mkc (fun X => ok_callV X (mid := 9) (index := 88) (y := my_9) rfl (by decide) ⟨by decide, by decide⟩ (n := 1) (by decide +kernel) wd_198 wd_46 wd_195 wd_197 wd_1 (ci := 7) rfl (by decide +kernel)), ?_⟩
  refine List.forall_mem_cons.mpr ⟨ae_mk pu_inc (fun X => ok_iinc X (n := 1) (by decide) (by decide +kernel)), ?_⟩
  refine List.forall_mem_cons.mpr ⟨ae_mk pu_goto (fun X => ok_goto X (off := (-42)) (by decide) (by decide +kernel)), ?_⟩
  refine List.forall_mem_cons.mpr ⟨ae_mk pu_al (fun X => ok_aload_n X (k := 0) rfl (by decide +kernel)), ?_⟩
  refine List.forall_mem_cons.mpr ⟨ae_mk pu_get (fun X => ok_get X (ci := 7) (kk := 5) (index := 39) rfl aw_c_Net (by decide) wd_169 (by decide +kernel)), ?_⟩
  refine List.forall_mem_cons.mpr ⟨Or.inl ⟨rfl, (by decide +kernel), rt_int⟩, ?_⟩
  exact fun _ h => absurd h List.not_mem_nil
def tb_7 : List (Nat × ae_I) := [(0, .inl (o_al 0 1)),
  (1, .inl (o_get 7 1 4)),
  (4, .inl (o_as 1 5)),
  (5, .inl (o_al 1 6)),
  (6, .inl (o_len 7)),
  (7, .inl (o_is 2 8)),
  (8, .inl (o_push (.int 0) 9)),
  (9, .inl (o_is 3 10)),
  (10, .inl (o_il 3 11)),
  (11, .inl (o_il 2 12)),
  (12, .inl (o_ic (fun x y => decide (y ≤ x)) 58 15)),
  (15, .inl (o_al 1 16)),
  (16, .inl (o_il 3 17)),
  (17, .inl (o_aa 18)),
  (18, .inl (o_as 4 20)),
  (20, .inl (o_al 4 22)),
  (22, .inl (o_get 3 4 25)),
  (25, .inl (o_if (fun x => decide (¬ x = 0)) 50 28)),
  (28, .inl (o_al 4 30)),
  (30, .inl (o_get 3 0 33)),
  (33, .inr (.inr (.inl (8, 1, 36, some 6, [])))),
  (36, .inl (o_if (fun x => decide (x = 0)) 50 39)),
  (39, .inl (o_al 4 41)),
  (41, .inl (o_get 3 1 44)),
  (44, .inr (.inr (.inl (8, 1, 47, some 6, [])))),
  (47, .inl (o_if (fun x => decide (¬ x = 0)) 52 50)),
  (50, .inl (o_push (.int 0) 51)),
  (51, .inr (.inl (some k_bool))),
  (52, .inl (o_inc 3 1 55)),
  (55, .inl (o_goto 10)),
  (58, .inl (o_al 0 59)),
  (59, .inl (o_get 7 0 62)),
  (62, .inl (o_as 1 63)),
  (63, .inl (o_al 1 64)),
  (64, .inl (o_len 65)),
  (65, .inl (o_is 2 66)),
  (66, .inl (o_push (.int 0) 67)),
  (67, .inl (o_is 3 68)),
  (68, .inl (o_il 3 69)),
  (69, .inl (o_il 2 70)),
  (70, .inl (o_ic (fun x y => decide (y ≤ x)) 99 73)),
  (73, .inl (o_al 1 74)),
  (74, .inl (o_il 3 75)),
  (75, .inl (o_aa 76)),
  (76, .inl (o_as 4 78)),
  (78, .inl (o_al 4 80)),
  (80, .inl (o_nul 93 83)),
  (83, .inl (o_al 4 85)),
  (85, .inl (o_get 4 11 88)),
  (88, .inl (o_if (fun x => decide (x ≤ 0)) 93 91)),
  (91, .inl (o_push (.int 0) 92)),
  (92, .inr (.inl (some k_bool))),
  (93, .inl (o_inc 3 1 96)),
  (96, .inl (o_goto 68)),
  (99, .inl (o_push (.int 1) 100)),
  (100, .inr (.inl (some k_bool)))]
theorem te_7 : ∀ q ∈ tb_7, ae_E am "TwinNetwork" "isQuiet" prog_1_method_27_code 5 (Option.some Jvm.ClassFile.FieldType.boolean) [] q := by
  unfold tb_7
  refine List.forall_mem_cons.mpr ⟨ae_mk pu_al (fun X => ok_aload_n X (k := 0) rfl (by decide +kernel)), ?_⟩
  refine List.forall_mem_cons.mpr ⟨ae_mk pu_get (fun X => ok_get X (ci := 7) (kk := 1) (index := 17) rfl aw_c_Net (by decide) wd_165 (by decide +kernel)), ?_⟩
  refine List.forall_mem_cons.mpr ⟨ae_mk pu_as (fun X => ok_astore_n X (k := 1) rfl (by decide +kernel)), ?_⟩
  refine List.forall_mem_cons.mpr ⟨ae_mk pu_al (fun X => ok_aload_n X (k := 1) rfl (by decide +kernel)), ?_⟩
  refine List.forall_mem_cons.mpr ⟨ae_mk pu_len (fun X => ok_len X (by decide +kernel)), ?_⟩
  refine List.forall_mem_cons.mpr ⟨ae_mk pu_is (fun X => ok_istore_n X (k := 2) rfl (by decide +kernel)), ?_⟩
  refine List.forall_mem_cons.mpr ⟨ae_mk (pu_push (fun _ => trivial)) (fun X => ok_iconst X (n := 0) (by decide) (by decide +kernel)), ?_⟩
  refine List.forall_mem_cons.mpr ⟨ae_mk pu_is (fun X => ok_istore_n X (k := 3) rfl (by decide +kernel)), ?_⟩
  refine List.forall_mem_cons.mpr ⟨ae_mk pu_il (fun X => ok_iload_n X (k := 3) rfl (by decide +kernel)), ?_⟩
  refine List.forall_mem_cons.mpr ⟨ae_mk pu_il (fun X => ok_iload_n X (k := 2) rfl (by decide +kernel)), ?_⟩
  refine List.forall_mem_cons.mpr ⟨ae_mk pu_ic (fun X => ok_ic_ge X (off := 46) (by decide) (by decide +kernel)), ?_⟩
  refine List.forall_mem_cons.mpr ⟨ae_mk pu_al (fun X => ok_aload_n X (k := 1) rfl (by decide +kernel)), ?_⟩
  refine List.forall_mem_cons.mpr ⟨ae_mk pu_il (fun X => ok_iload_n X (k := 3) rfl (by decide +kernel)), ?_⟩
  refine List.forall_mem_cons.mpr ⟨ae_mk pu_aa (fun X => ok_aa X (by decide +kernel)), ?_⟩
  refine List.forall_mem_cons.mpr ⟨ae_mk pu_as (fun X => ok_astore X (by decide +kernel)), ?_⟩
  refine List.forall_mem_cons.mpr ⟨ae_mk pu_al (fun X => ok_aload X (by decide +kernel)), ?_⟩
  refine List.forall_mem_cons.mpr ⟨ae_mk pu_get (fun X => ok_getN X (ci := 3) (kk := 4) (index := 151) rfl aw_c_Line (by decide) wd_140 (by decide +kernel)), ?_⟩
  refine List.forall_mem_cons.mpr ⟨ae_mk pu_if (fun X => ok_if_ne X (off := 25) (by decide) (by decide +kernel)), ?_⟩
  refine List.forall_mem_cons.mpr ⟨ae_mk pu_al (fun X => ok_aload X (by decide +kernel)), ?_⟩
  refine List.forall_mem_cons.mpr ⟨ae_mk pu_get (fun X => ok_getN X (ci := 3) (kk := 0) (index := 171) rfl aw_c_Line (by decide) wd_133 (by decide +kernel)), ?_⟩
  refine List.forall_mem_cons.mpr ⟨ae_mkc (fun X => ok_callV X (mid := 8) (index := 200) (y := my_8) rfl (by decide) ⟨by decide, by decide⟩ (n := 0) (by decide +kernel) wd_194 wd_50 wd_191 wd_192 wd_193 (ci := 6) rfl (by decide +kernel)), ?_⟩
  refine List.forall_mem_cons.mpr ⟨ae_mk pu_if (fun X => ok_if_eq X (off := 14) (by decide) (by decide +kernel)), ?_⟩
  refine List.forall_mem_cons.mpr ⟨ae_mk pu_al (fun X => ok_aload X (by decide +kernel)), ?_⟩
  refine List.forall_mem_cons.mpr ⟨ae_mk pu_get (fun X => ok_getN X (ci := 3) (kk := 1) (index := 162) rfl aw_c_Line (by decide) wd_135 (by decide +kernel)), ?_⟩
  refine List.forall_mem_cons.mpr ⟨ae_mkc (fun X => ok_callV X (mid := 8) (index := 200) (y := my_8) rfl (by decide) ⟨by decide, by decide⟩ (n := 0) (by decide +kernel) wd_194 wd_50 wd_191 wd_192 wd_193 (ci := 6) rfl (by decide +kernel)), ?_⟩
  refine List.forall_mem_cons.mpr ⟨ae_mk pu_if (fun X => ok_if_ne X (off := 5) (by decide) (by decide +kernel)), ?_⟩
  refine List.forall_mem_cons.mpr ⟨ae_mk (pu_push (fun _ => trivial)) (fun X => ok_iconst X (n := 0) (by decide) (by decide +kernel)), ?_⟩
  refine List.forall_mem_cons.mpr ⟨Or.inr (Or.inl ⟨rfl, (by decide +kernel), rt_bool⟩), ?_⟩
  refine List.forall_mem_cons.mpr ⟨ae_mk pu_inc (fun X => ok_iinc X (n := 1) (by decide) (by decide +kernel)), ?_⟩
  refine List.forall_mem_cons.mpr ⟨ae_mk pu_goto (fun X => ok_goto X (off := (-45)) (by decide) (by decide +kernel)), ?_⟩
  refine List.forall_mem_cons.mpr ⟨ae_mk pu_al (fun X => ok_aload_n X (k := 0) rfl (by decide +kernel)), ?_⟩
  refine List.forall_mem_cons.mpr ⟨ae_mk pu_get (fun X => ok_get X (ci := 7) (kk := 0) (index := 11) rfl aw_c_Net (by decide) wd_164 (by decide +kernel)), ?_⟩
  refine List.forall_mem_cons.mpr ⟨ae_mk pu_as (fun X => ok_astore_n X (k := 1) rfl (by decide +kernel)), ?_⟩
  refine List.forall_mem_cons.mpr ⟨ae_mk pu_al (fun X => ok_aload_n X (k := 1) rfl (by decide +kernel)), ?_⟩
  refine List.forall_mem_cons.mpr ⟨ae_mk pu_len (fun X => ok_len X (by decide +kernel)), ?_⟩
  refine List.forall_mem_cons.mpr ⟨ae_mk pu_is (fun X => ok_istore_n X (k := 2) rfl (by decide +kernel)), ?_⟩
  refine List.forall_mem_cons.mpr ⟨ae_mk (pu_push (fun _ => trivial)) (fun X => ok_iconst X (n := 0) (by decide) (by decide +kernel)), ?_⟩
  refine List.forall_mem_cons.mpr ⟨ae_mk pu_is (fun X => ok_istore_n X (k := 3) rfl (by decide +kernel)), ?_⟩
  refine List.forall_mem_cons.mpr ⟨ae_mk pu_il (fun X => ok_iload_n X (k := 3) rfl (by decide +kernel)), ?_⟩
  refine List.forall_mem_cons.mpr ⟨ae_mk pu_il (fun X => ok_iload_n X (k := 2) rfl (by decide +kernel)), ?_⟩
  refine List.forall_mem_cons.mpr ⟨ae_mk pu_ic (fun X => ok_ic_ge X (off := 29) (by decide) (by decide +kernel)), ?_⟩
  refine List.forall_mem_cons.mpr ⟨ae_mk pu_al (fun X => ok_aload_n X (k := 1) rfl (by decide +kernel)), ?_⟩
  refine List.forall_mem_cons.mpr ⟨ae_mk pu_il (fun X => ok_iload_n X (k := 3) rfl (by decide +kernel)), ?_⟩
  refine List.forall_mem_cons.mpr ⟨ae_mk pu_aa (fun X => ok_aa X (by decide +kernel)), ?_⟩
  refine List.forall_mem_cons.mpr ⟨ae_mk pu_as (fun X => ok_astore X (by decide +kernel)), ?_⟩
  refine List.forall_mem_cons.mpr ⟨ae_mk pu_al (fun X => ok_aload X (by decide +kernel)), ?_⟩
  refine List.forall_mem_cons.mpr ⟨ae_mk pu_nul (fun X => ok_ifnull X (off := 13) (by decide) (by decide +kernel)), ?_⟩
  refine List.forall_mem_cons.mpr ⟨ae_mk pu_al (fun X => ok_aload X (by decide +kernel)), ?_⟩
  refine List.forall_mem_cons.mpr ⟨ae_mk pu_get (fun X => ok_getN X (ci := 4) (kk := 11) (index := 77) rfl aw_c_Link (by decide) wd_695 (by decide +kernel)), ?_⟩
  refine List.forall_mem_cons.mpr ⟨ae_mk pu_if (fun X => ok_if_le X (off := 5) (by decide) (by decide +kernel)), ?_⟩
  refine List.forall_mem_cons.mpr ⟨ae_mk (pu_push (fun _ => trivial)) (fun X => ok_iconst X (n := 0) (by decide) (by decide +kernel)), ?_⟩
  refine List.forall_mem_cons.mpr ⟨Or.inr (Or.inl ⟨rfl, (by decide +kernel), rt_bool⟩), ?_⟩
  refine List.forall_mem_cons.mpr ⟨ae_mk pu_inc (fun X => ok_iinc X (n := 1) (by decide) (by decide +kernel)), ?_⟩
  refine List.forall_mem_cons.mpr ⟨ae_mk pu_goto (fun X => ok_goto X (off := (-28)) (by decide) (by decide +kernel)), ?_⟩
  refine List.forall_mem_cons.mpr ⟨ae_mk (pu_push (fun _ => trivial)) (fun X => ok_iconst X (n := 1) (by decide) (by decide +kernel)), ?_⟩
  refine List.forall_mem_cons.mpr ⟨Or.inr (Or.inl ⟨rfl, (by decide +kernel), rt_bool⟩), ?_⟩
  exact fun _ h => absurd h List.not_mem_nil
def tb_8 : List (Nat × ae_I) := [(0, .inl (o_al 0 1)),
  (1, .inl (o_get 6 2 4)),
  (4, .inl (o_if (fun x => decide (¬ x = 0)) 11 7)),
  (7, .inl (o_push (.int 1) 8)),
  (8, .inl (o_goto 12)),
  (11, .inl (o_push (.int 0) 12)),
  (12, .inr (.inl (some k_bool)))]
theorem te_8 : ∀ q ∈ tb_8, ae_E am "TwinNetwork$Row" "isEmpty" prog_8_method_2_code 1 (Option.some Jvm.ClassFile.FieldType.boolean) [] q := by
  unfold tb_8
  refine List.forall_mem_cons.mpr ⟨ae_mk pu_al (fun X => ok_aload_n X (k := 0) rfl (by decide +kernel)), ?_⟩
  refine List.forall_mem_cons.mpr ⟨ae_mk pu_get (fun X => ok_get X (ci := 6) (kk := 2) (index := 13) rfl aw_c_Row (by decide) wd_123 (by decide +kernel)), ?_⟩
  refine List.forall_mem_cons.mpr ⟨ae_mk pu_if (fun X => ok_if_ne X (off := 7) (by decide) (by decide +kernel)), ?_⟩
  refine List.forall_mem_cons.mpr ⟨ae_mk (pu_push (fun _ => trivial)) (fun X => ok_iconst X (n := 1) (by decide) (by decide +kernel)), ?_⟩
  refine List.forall_mem_cons.mpr ⟨ae_mk pu_goto (fun X => ok_goto X (off := 4) (by decide) (by decide +kernel)), ?_⟩
  refine List.forall_mem_cons.mpr ⟨ae_mk (pu_push (fun _ => trivial)) (fun X => ok_iconst X (n := 0) (by decide) (by decide +kernel)), ?_⟩
  refine List.forall_mem_cons.mpr ⟨Or.inr (Or.inl ⟨rfl, (by decide +kernel), rt_bool⟩), ?_⟩
  exact fun _ h => absurd h List.not_mem_nil
def tb_9 : List (Nat × ae_I) := [(0, .inl (o_al 0 1)),
  (1, .inl (o_get 7 0 4)),
  (4, .inl (o_as 2 5)),
  (5, .inl (o_al 2 6)),
  (6, .inl (o_len 7)),
  (7, .inl (o_is 3 8)),
  (8, .inl (o_push (.int 0) 9)),
  (9, .inl (o_is 4 11)),
  (11, .inl (o_il 4 13)),
  (13, .inl (o_il 3 14)),
  (14, .inl (o_ic (fun x y => decide (y ≤ x)) 40 17)),
  (17, .inl (o_al 2 18)),
  (18, .inl (o_il 4 20)),
  (20, .inl (o_aa 21)),
  (21, .inl (o_as 5 23)),
  (23, .inl (o_al 5 25)),
  (25, .inl (o_nul 34 28)),
  (28, .inl (o_al 5 30)),
  (30, .inl (o_il 1 31)),
  (31, .inr (.inr (.inl (10, 2, 34, some 4, [])))),
  (34, .inl (o_inc 4 1 37)),
  (37, .inl (o_goto 11)),
  (40, .inl (o_al 0 41)),
  (41, .inl (o_dup 42)),
  (42, .inl (o_get 7 5 45)),
  (45, .inl (o_il 1 46)),
  (46, .inl (o_bin (fun x y => x + y) 47)),
  (47, .inl (o_put 7 5 k_int 50)),
  (50, .inr (.inl none))]
theorem te_9 : ∀ q ∈ tb_9, ae_E am "TwinNetwork" "passTime" prog_1_method_35_code 6 (Option.none : Option Jvm.ClassFile.FieldType) [] q := by
  unfold tb_9
  refine List.forall_mem_cons.mpr ⟨ae_mk pu_al (fun X => ok_aload_n X (k := 0) rfl (by decide +kernel)), ?_⟩
  refine List.forall_mem_cons.mpr ⟨ae_mk pu_get (fun X => ok_get X (ci := 7) (kk := 0) (index := 11) rfl aw_c_Net (by decide) wd_164 (by decide +kernel)), ?_⟩
  refine List.forall_mem_cons.mpr ⟨ae_mk pu_as (fun X => ok_astore_n X (k := 2) rfl (by decide +kernel)), ?_⟩
  refine List.forall_mem_cons.mpr ⟨ae_mk pu_al (fun X => ok_aload_n X (k := 2) rfl (by decide +kernel)), ?_⟩
  refine List.forall_mem_cons.mpr ⟨ae_mk pu_len (fun X => ok_len X (by decide +kernel)), ?_⟩
  refine List.forall_mem_cons.mpr ⟨ae_mk pu_is (fun X => ok_istore_n X (k := 3) rfl (by decide +kernel)), ?_⟩
  refine List.forall_mem_cons.mpr ⟨ae_mk (pu_push (fun _ => trivial)) (fun X => ok_iconst X (n := 0) (by decide) (by decide +kernel)), ?_⟩
  refine List.forall_mem_cons.mpr ⟨ae_mk pu_is (fun X => ok_istore X (by decide +kernel)), ?_⟩
  refine List.forall_mem_cons.mpr ⟨ae_mk pu_il (fun X => ok_iload X (by decide +kernel)), ?_⟩
  refine List.forall_mem_cons.mpr ⟨ae_mk pu_il (fun X => ok_iload_n X (k := 3) rfl (by decide +kernel)), ?_⟩
  refine List.forall_mem_cons.mpr ⟨ae_mk pu_ic (fun X => ok_ic_ge X (off := 26) (by decide) (by decide +kernel)), ?_⟩
  refine List.forall_mem_cons.mpr ⟨ae_mk pu_al (fun X => ok_aload_n X (k := 2) rfl (by decide +kernel)), ?_⟩
  refine List.forall_mem_cons.mpr ⟨ae_mk pu_il (fun X => ok_iload X (by decide +kernel)), ?_⟩
  refine List.forall_mem_cons.mpr ⟨ae_mk pu_aa (fun X => ok_aa X (by decide +kernel)), ?_⟩
  refine List.forall_mem_cons.mpr ⟨ae_mk pu_as (fun X => ok_astore X (by decide +kernel)), ?_⟩
  refine List.forall_mem_cons.mpr ⟨ae_mk pu_al (fun X => ok_aload X (by decide +kernel)), ?_⟩
  refine List.forall_mem_cons.mpr ⟨ae_mk pu_nul (fun X => ok_ifnull X (off := 9) (by decide) (by decide +kernel)), ?_⟩
  refine List.forall_mem_cons.mpr ⟨ae_mk pu_al (fun X => ok_aload X (by decide +kernel)), ?_⟩
  refine List.forall_mem_cons.mpr ⟨ae_mk pu_il (fun X => ok_iload_n X (k := 1) rfl (by decide +kernel)), ?_⟩
  refine List.forall_mem_cons.mpr ⟨ae_mkc (fun X => ok_callV X (mid := 10) (index := 295) (y := my_10) rfl (by decide) ⟨by decide, by decide⟩ (n := 1) (by decide +kernel) wd_202 wd_57 wd_199 wd_200 wd_201 (ci := 4) rfl (by decide +kernel)), ?_⟩
  refine List.forall_mem_cons.mpr ⟨ae_mk pu_inc (fun X => ok_iinc X (n := 1) (by decide) (by decide +kernel)), ?_⟩
  refine List.forall_mem_cons.mpr ⟨ae_mk pu_goto (fun X => ok_goto X (off := (-26)) (by decide) (by decide +kernel)), ?_⟩
  refine List.forall_mem_cons.mpr ⟨ae_mk pu_al (fun X => ok_aload_n X (k := 0) rfl (by decide +kernel)), ?_⟩
  refine List.forall_mem_cons.mpr ⟨ae_mk pu_dup (fun X => ok_dup X (by decide +kernel)), ?_⟩
  refine List.forall_mem_cons.mpr ⟨ae_mk pu_get (fun X => ok_get X (ci := 7) (kk := 5) (index := 39) rfl aw_c_Net (by decide) wd_169 (by decide +kernel)), ?_⟩
  refine List.forall_mem_cons.mpr ⟨ae_mk pu_il (fun X => ok_iload_n X (k := 1) rfl (by decide +kernel)), ?_⟩
  refine List.forall_mem_cons.mpr ⟨ae_mk pu_bin (fun X => ok_iadd X (by decide +kernel)), ?_⟩
  refine List.forall_mem_cons.mpr ⟨ae_mk pu_put (fun X => ok_put X (ci := 7) (kk := 5) (index := 39) rfl aw_c_Net (by decide) wd_169 cy_Net cn_Net_ty cn_Net_nm rfl hk_int rfl (by decide +kernel)), ?_⟩
  refine List.forall_mem_cons.mpr ⟨⟨rfl, (by decide +kernel)⟩, ?_⟩
  exact fun _ h => absurd h List.not_mem_nil
def tb_10 : List (Nat × ae_I) := [(0, .inl (o_push (.int 0) 1)),
  (1, .inl (o_is 2 2)),
  (2, .inl (o_il 2 3)),
  (3, .inl (o_push (.int 2) 4)),
  (4, .inl (o_ic (fun x y => decide (y ≤ x)) 47 7)),
  (7, .inl (o_al 0 8)),
  (8, .inl (o_get 4 8 11)),
  (11, .inl (o_il 2 12)),
  (12, .inl (o_al 0 13)),
  (13, .inl (o_get 4 3 16)),
  (16, .inl (o_al 0 17)),
  (17, .inl (o_get 4 2 20)),
  (20, .inl (o_push (.int 64) 22)),
  (22, .inl (o_bin (fun x y => x + y) 23)),
  (23, .inl (o_bin (fun x y => x * y) 24)),
  (24, .inl (o_al 0 25)),
  (25, .inl (o_get 4 8 28)),
  (28, .inl (o_il 2 29)),
  (29, .inl (o_ia 30)),
  (30, .inl (o_al 0 31)),
  (31, .inl (o_get 4 3 34)),
  (34, .inl (o_il 1 35)),
  (35, .inl (o_bin (fun x y => x * y) 36)),
  (36, .inl (o_bin (fun x y => x + y) 37)),
  (37, .inl (o_mn 40)),
  (40, .inl (o_ias 41)),
  (41, .inl (o_inc 2 1 44)),
  (44, .inl (o_goto 2)),
  (47, .inr (.inl none))]
theorem te_10 : ∀ q ∈ tb_10, ae_E am "TwinNetwork$Link" "growAccounts" prog_6_method_10_code 3 (Option.none : Option Jvm.ClassFile.FieldType) [] q := by
  unfold tb_10
  refine List.forall_mem_cons.mpr ⟨ae_mk (pu_push (fun _ => trivial)) (fun X => ok_iconst X (n := 0) (by decide) (by decide +kernel)), ?_⟩
  refine List.forall_mem_cons.mpr ⟨ae_mk pu_is (fun X => ok_istore_n X (k := 2) rfl (by decide +kernel)), ?_⟩
  refine List.forall_mem_cons.mpr ⟨ae_mk pu_il (fun X => ok_iload_n X (k := 2) rfl (by decide +kernel)), ?_⟩
  refine List.forall_mem_cons.mpr ⟨ae_mk (pu_push (fun _ => trivial)) (fun X => ok_iconst X (n := 2) (by decide) (by decide +kernel)), ?_⟩
  refine List.forall_mem_cons.mpr ⟨ae_mk pu_ic (fun X => ok_ic_ge X (off := 43) (by decide) (by decide +kernel)), ?_⟩
  refine List.forall_mem_cons.mpr ⟨ae_mk pu_al (fun X => ok_aload_n X (k := 0) rfl (by decide +kernel)), ?_⟩
  refine List.forall_mem_cons.mpr ⟨ae_mk pu_get (fun X => ok_get X (ci := 4) (kk := 8) (index := 17) rfl aw_c_Link (by decide) wd_690 (by decide +kernel)), ?_⟩
  refine List.forall_mem_cons.mpr ⟨ae_mk pu_il (fun X => ok_iload_n X (k := 2) rfl (by decide +kernel)), ?_⟩
  refine List.forall_mem_cons.mpr ⟨ae_mk pu_al (fun X => ok_aload_n X (k := 0) rfl (by decide +kernel)), ?_⟩
  refine List.forall_mem_cons.mpr ⟨ae_mk pu_get (fun X => ok_get X (ci := 4) (kk := 3) (index := 52) rfl aw_c_Link (by decide) wd_683 (by decide +kernel)), ?_⟩
  refine List.forall_mem_cons.mpr ⟨ae_mk pu_al (fun X => ok_aload_n X (k := 0) rfl (by decide +kernel)), ?_⟩
  refine List.forall_mem_cons.mpr ⟨ae_mk pu_get (fun X => ok_get X (ci := 4) (kk := 2) (index := 49) rfl aw_c_Link (by decide) wd_681 (by decide +kernel)), ?_⟩
  refine List.forall_mem_cons.mpr ⟨ae_mk (pu_push (fun _ => trivial)) (fun X => ok_bipush X (n := 64) (by decide) (by decide +kernel)), ?_⟩
  refine List.forall_mem_cons.mpr ⟨ae_mk pu_bin (fun X => ok_iadd X (by decide +kernel)), ?_⟩
  refine List.forall_mem_cons.mpr ⟨ae_mk pu_bin (fun X => ok_imul X (by decide +kernel)), ?_⟩
  refine List.forall_mem_cons.mpr ⟨ae_mk pu_al (fun X => ok_aload_n X (k := 0) rfl (by decide +kernel)), ?_⟩
  refine List.forall_mem_cons.mpr ⟨ae_mk pu_get (fun X => ok_get X (ci := 4) (kk := 8) (index := 17) rfl aw_c_Link (by decide) wd_690 (by decide +kernel)), ?_⟩
  refine List.forall_mem_cons.mpr ⟨ae_mk pu_il (fun X => ok_iload_n X (k := 2) rfl (by decide +kernel)), ?_⟩
  refine List.forall_mem_cons.mpr ⟨ae_mk pu_ia (fun X => ok_ia X (by decide +kernel)), ?_⟩
  refine List.forall_mem_cons.mpr ⟨ae_mk pu_al (fun X => ok_aload_n X (k := 0) rfl (by decide +kernel)), ?_⟩
  refine List.forall_mem_cons.mpr ⟨ae_mk pu_get (fun X => ok_get X (ci := 4) (kk := 3) (index := 52) rfl aw_c_Link (by decide) wd_683 (by decide +kernel)), ?_⟩
  refine List.forall_mem_cons.mpr ⟨ae_mk pu_il (fun X => ok_iload_n X (k := 1) rfl (by decide +kernel)), ?_⟩
  refine List.forall_mem_cons.mpr ⟨ae_mk pu_bin (fun X => ok_imul X (by decide +kernel)), ?_⟩
  refine List.forall_mem_cons.mpr ⟨ae_mk pu_bin (fun X => ok_iadd X (by decide +kernel)), ?_⟩
  refine List.forall_mem_cons.mpr ⟨ae_mk pu_mn (fun X => ok_mn X (index := 97) wd_203 aw_mn2 aw_mt3 aw_mn4 (by decide +kernel)), ?_⟩
  refine List.forall_mem_cons.mpr ⟨ae_mk pu_ias (fun X => ok_ias X (by decide +kernel)), ?_⟩
  refine List.forall_mem_cons.mpr ⟨ae_mk pu_inc (fun X => ok_iinc X (n := 1) (by decide) (by decide +kernel)), ?_⟩
  refine List.forall_mem_cons.mpr ⟨ae_mk pu_goto (fun X => ok_goto X (off := (-42)) (by decide) (by decide +kernel)), ?_⟩
  refine List.forall_mem_cons.mpr ⟨⟨rfl, (by decide +kernel)⟩, ?_⟩
  exact fun _ h => absurd h List.not_mem_nil
def tb_11 : List (Nat × ae_I) := [(0, .inl (o_al 0 1)),
  (1, .inl (o_get 7 0 4)),
  (4, .inl (o_as 1 5)),
  (5, .inl (o_al 1 6)),
  (6, .inl (o_len 7)),
  (7, .inl (o_is 2 8)),
  (8, .inl (o_push (.int 0) 9)),
  (9, .inl (o_is 3 10)),
  (10, .inl (o_il 3 11)),
  (11, .inl (o_il 2 12)),
  (12, .inl (o_ic (fun x y => decide (y ≤ x)) 57 15)),
  (15, .inl (o_al 1 16)),
  (16, .inl (o_il 3 17)),
  (17, .inl (o_aa 18)),
  (18, .inl (o_as 4 20)),
  (20, .inl (o_al 4 22)),
  (22, .inl (o_nul 51 25)),
  (25, .inl (o_al 4 27)),
  (27, .inl (o_get 4 11 30)),
  (30, .inl (o_if (fun x => decide (x ≤ 0)) 51 33)),
  (33, .inl (o_al 0 34)),
  (34, .inl (o_get 7 5 37)),
  (37, .inl (o_al 4 39)),
  (39, .inl (o_get 4 14 42)),
  (42, .inl (o_ic (fun x y => decide (x < y)) 51 45)),
  (45, .inl (o_al 0 46)),
  (46, .inl (o_al 4 48)),
  (48, .inr (.inr (.inl (12, 2, 51, some 7, [])))),
  (51, .inl (o_inc 3 1 54)),
  (54, .inl (o_goto 10)),
  (57, .inr (.inl none))]
theorem te_11 : ∀ q ∈ tb_11, ae_E am "TwinNetwork" "sendFragments" prog_1_method_28_code 5 (Option.none : Option Jvm.ClassFile.FieldType) [] q := by
  unfold tb_11
  refine List.forall_mem_cons.mpr ⟨ae_mk pu_al (fun X => ok_aload_n X (k := 0) rfl (by decide +kernel)), ?_⟩
  refine List.forall_mem_cons.mpr ⟨ae_mk pu_get (fun X => ok_get X (ci := 7) (kk := 0) (index := 11) rfl aw_c_Net (by decide) wd_164 (by decide +kernel)), ?_⟩
  refine List.forall_mem_cons.mpr ⟨ae_mk pu_as (fun X => ok_astore_n X (k := 1) rfl (by decide +kernel)), ?_⟩
  refine List.forall_mem_cons.mpr ⟨ae_mk pu_al (fun X => ok_aload_n X (k := 1) rfl (by decide +kernel)), ?_⟩
  refine List.forall_mem_cons.mpr ⟨ae_mk pu_len (fun X => ok_len X (by decide +kernel)), ?_⟩
  refine List.forall_mem_cons.mpr ⟨ae_mk pu_is (fun X => ok_istore_n X (k := 2) rfl (by decide +kernel)), ?_⟩
  refine List.forall_mem_cons.mpr ⟨ae_mk (pu_push (fun _ => trivial)) (fun X => ok_iconst X (n := 0) (by decide) (by decide +kernel)), ?_⟩
  refine List.forall_mem_cons.mpr ⟨ae_mk pu_is (fun X => ok_istore_n X (k := 3) rfl (by decide +kernel)), ?_⟩
  refine List.forall_mem_cons.mpr ⟨ae_mk pu_il (fun X => ok_iload_n X (k := 3) rfl (by decide +kernel)), ?_⟩
  refine List.forall_mem_cons.mpr ⟨ae_mk pu_il (fun X => ok_iload_n X (k := 2) rfl (by decide +kernel)), ?_⟩
  refine List.forall_mem_cons.mpr ⟨ae_mk pu_ic (fun X => ok_ic_ge X (off := 45) (by decide) (by decide +kernel)), ?_⟩
  refine List.forall_mem_cons.mpr ⟨ae_mk pu_al (fun X => ok_aload_n X (k := 1) rfl (by decide +kernel)), ?_⟩
  refine List.forall_mem_cons.mpr ⟨ae_mk pu_il (fun X => ok_iload_n X (k := 3) rfl (by decide +kernel)), ?_⟩
  refine List.forall_mem_cons.mpr ⟨ae_mk pu_aa (fun X => ok_aa X (by decide +kernel)), ?_⟩
  refine List.forall_mem_cons.mpr ⟨ae_mk pu_as (fun X => ok_astore X (by decide +kernel)), ?_⟩
  refine List.forall_mem_cons.mpr ⟨ae_mk pu_al (fun X => ok_aload X (by decide +kernel)), ?_⟩
  refine List.forall_mem_cons.mpr ⟨ae_mk pu_nul (fun X => ok_ifnull X (off := 29) (by decide) (by decide +kernel)), ?_⟩
  refine List.forall_mem_cons.mpr ⟨ae_mk pu_al (fun X => ok_aload X (by decide +kernel)), ?_⟩
  refine List.forall_mem_cons.mpr ⟨ae_mk pu_get (fun X => ok_getN X (ci := 4) (kk := 11) (index := 77) rfl aw_c_Link (by decide) wd_695 (by decide +kernel)), ?_⟩
  refine List.forall_mem_cons.mpr ⟨ae_mk pu_if (fun X => ok_if_le X (off := 21) (by decide) (by decide +kernel)), ?_⟩
  refine List.forall_mem_cons.mpr ⟨ae_mk pu_al (fun X => ok_aload_n X (k := 0) rfl (by decide +kernel)), ?_⟩
  refine List.forall_mem_cons.mpr ⟨ae_mk pu_get (fun X => ok_get X (ci := 7) (kk := 5) (index := 39) rfl aw_c_Net (by decide) wd_169 (by decide +kernel)), ?_⟩
  refine List.forall_mem_cons.mpr ⟨ae_mk pu_al (fun X => ok_aload X (by decide +kernel)), ?_⟩
  refine List.forall_mem_cons.mpr ⟨ae_mk pu_get (fun X => ok_getN X (ci := 4) (kk := 14) (index := 203) rfl aw_c_Link (by decide) wd_699 (by decide +kernel)), ?_⟩
  refine List.forall_mem_cons.mpr ⟨ae_mk pu_ic (fun X => ok_ic_lt X (off := 9) (by decide) (by decide +kernel)), ?_⟩
  refine List.forall_mem_cons.mpr ⟨ae_mk pu_al (fun X => ok_aload_n X (k := 0) rfl (by decide +kernel)), ?_⟩
  refine List.forall_mem_cons.mpr ⟨ae_mk pu_al (fun X => ok_aload X (by decide +kernel)), ?_⟩
  refine List.forall_mem_cons.mpr ⟨ae_mkc (fun X => ok_callV X (mid := 12) (index := 206) (y := my_12) rfl (by decide) ⟨by decide, by decide⟩ (n := 1) (by decide +kernel) wd_213 wd_46 wd_210 wd_212 wd_3 (ci := 7) rfl (by decide +kernel)), ?_⟩
  refine List.forall_mem_cons.mpr ⟨ae_mk pu_inc (fun X => ok_iinc X (n := 1) (by decide) (by decide +kernel)), ?_⟩
  refine List.forall_mem_cons.mpr ⟨ae_mk pu_goto (fun X => ok_goto X (off := (-44)) (by decide) (by decide +kernel)), ?_⟩
  refine List.forall_mem_cons.mpr ⟨⟨rfl, (by decide +kernel)⟩, ?_⟩
  exact fun _ h => absurd h List.not_mem_nil
def tb_12 : List (Nat × ae_I) := [(0, .inl (o_al 1 1)),
  (1, .inr (.inr (.inl (13, 1, 4, some 4, [])))),
  (4, .inl (o_as 2 5)),
  (5, .inl (o_al 1 6)),
  (6, .inr (.inr (.inl (14, 1, 9, some 4, [])))),
  (9, .inl (o_is 3 10)),
  (10, .inl (o_push (.int 0) 11)),
  (11, .inl (o_is 4 13)),
  (13, .inl (o_il 4 15)),
  (15, .inl (o_push (.int 2) 16)),
  (16, .inl (o_ic (fun x y => decide (y ≤ x)) 137 19)),
  (19, .inl (o_al 0 20)),
  (20, .inl (o_get 7 3 23)),
  (23, .inl (o_al 1 24)),
  (24, .inl (o_get 4 0 27)),
  (27, .inl (o_al 1 28)),
  (28, .inl (o_get 4 1 31)),
  (31, .inl (o_il 4 33)),
  (33, .inl (o_al 2 34)),
  (34, .inl (o_get 1 4 37)),
  (37, .inr (.inr (.inl (16, 5, 40, some 2, [])))),
  (40, .inl (o_al 0 41)),
  (41, .inl (o_get 7 3 44)),
  (44, .inl (o_al 2 45)),
  (45, .inl (o_get 1 0 48)),
  (48, .inl (o_al 2 49)),
  (49, .inl (o_get 1 3 52)),
  (52, .inl (o_al 2 53)),
  (53, .inl (o_get 1 5 56)),
  (56, .inr (.inr (.inl (19, 4, 59, some 2, [])))),
  (59, .inl (o_push (.int 0) 60)),
  (60, .inl (o_is 5 62)),
  (62, .inl (o_il 5 64)),
  (64, .inl (o_al 2 65)),
  (65, .inl (o_get 1 4 68)),
  (68, .inl (o_ic (fun x y => decide (y ≤ x)) 104 71)),
  (71, .inl (o_al 0 72)),
  (72, .inl (o_get 7 3 75)),
  (75, .inl (o_push (.int 34) 77)),
  (77, .inl (o_il 5 79)),
  (79, .inl (o_bin (fun x y => x + y) 80)),
  (80, .inl (o_al 2 81)),
  (81, .inl (o_al 1 82)),
  (82, .inl (o_get 4 0 85)),
  (85, .inl (o_al 2 86)),
  (86, .inl (o_get 1 3 89)),
  (89, .inl (o_il 5 91)),
  (91, .inl (o_bin (fun x y => x + y) 92)),
  (92, .inr (.inr (.inl (20, 3, 95, some 1, [])))),
  (95, .inr (.inr (.inl (17, 3, 98, some 2, [])))),
  (98, .inl (o_inc 5 1 101)),
  (101, .inl (o_goto 62)),
  (104, .inl (o_al 0 105)),
  (105, .inl (o_get 7 3 108)),
  (108, .inl (o_il 3 109)),
  (109, .inr (.inr (.inl (21, 2, 112, some 2, [])))),
  (112, .inl (o_al 0 113)),
  (113, .inl (o_il 4 115)),
  (115, .inl (o_al 1 116)),
  (116, .inl (o_get 4 1 119)),
  (119, .inl (o_al 1 120)),
  (120, .inl (o_get 4 4 123)),
  (123, .inl (o_al 0 124)),
  (124, .inl (o_get 7 3 127)),
  (127, .inr (.inr (.inl (25, 5, 130, some 7, [])))),
  (130, .inl (o_pop 131)),
  (131, .inl (o_inc 4 1 134)),
  (134, .inl (o_goto 13)),
  (137, .inl (o_al 1 138)),
  (138, .inl (o_al 0 139)),
  (139, .inl (o_get 7 5 142)),
  (142, .inl (o_al 1 143)),
  (143, .inl (o_get 4 2 146)),
  (146, .inl (o_bin (fun x y => x + y) 147)),
  (147, .inl (o_put 4 14 k_int 150)),
  (150, .inr (.inl none))]
theorem te_12 : ∀ q ∈ tb_12, ae_E am "TwinNetwork" "sendFragment" prog_1_method_29_code 6 (Option.none : Option Jvm.ClassFile.FieldType) [] q := by
  unfold tb_12
  refine List.forall_mem_cons.mpr ⟨ae_mk pu_al (fun X => ok_aload_n X (k := 1) rfl (by decide +kernel)), ?_⟩
  refine List.forall_mem_cons.mpr ⟨ae_mkc (fun X => ok_callV X (mid := 13) (index := 210) (y := my_13) rfl (by decide) ⟨by decide, by decide⟩ (n := 0) (by decide +kernel) wd_217 wd_57 wd_214 wd_215 wd_216 (ci := 4) rfl (by decide +kernel)), ?_⟩
  refine List.forall_mem_cons.mpr ⟨ae_mk pu_as (fun X => ok_astore_n X (k := 2) rfl (by decide +kernel)), ?_⟩
  refine List.forall_mem_cons.mpr ⟨ae_mk pu_al (fun X => ok_aload_n X (k := 1) rfl (by decide +kernel)), ?_⟩
  refine List.forall_mem_cons.mpr ⟨ae_mkc (fun X => ok_callV X (mid := 14) (index := 214) (y := my_14) rfl (by decide) ⟨by decide, by decide⟩ (n := 0) (by decide +kernel) wd_221 wd_57 wd_218 wd_219 wd_220 (ci := 4) rfl (by decide +kernel)), ?_⟩
  refine List.forall_mem_cons.mpr ⟨ae_mk pu_is (fun X => ok_istore_n X (k := 3) rfl (by decide +kernel)), ?_⟩
  refine List.forall_mem_cons.mpr ⟨ae_mk (pu_push (fun _ => trivial)) (fun X => ok_iconst X (n := 0) (by decide) (by decide +kernel)), ?_⟩
  refine List.forall_mem_cons.mpr ⟨ae_mk pu_is (fun X => ok_istore X (by decide +kernel)), ?_⟩
  refine List.forall_mem_cons.mpr ⟨ae_mk pu_il (fun X => ok_iload X (by decide +kernel)), ?_⟩
  refine List.forall_mem_cons.mpr ⟨ae_mk (pu_push (fun _ => trivial)) (fun X => ok_iconst X (n := 2) (by decide) (by decide +kernel)), ?_⟩
  refine List.forall_mem_cons.mpr ⟨ae_mk pu_ic (fun X => ok_ic_ge X (off := 121) (by decide) (by decide +kernel)), ?_⟩
  refine List.forall_mem_cons.mpr ⟨ae_mk pu_al (fun X => ok_aload_n X (k := 0) rfl (by decide +kernel)), ?_⟩
  refine List.forall_mem_cons.mpr ⟨ae_mk pu_get (fun X => ok_get X (ci := 7) (kk := 3) (index := 28) rfl aw_c_Net (by decide) wd_167 (by decide +kernel)), ?_⟩
  refine List.forall_mem_cons.mpr ⟨ae_mk pu_al (fun X => ok_aload_n X (k := 1) rfl (by decide +kernel)), ?_⟩
  refine List.forall_mem_cons.mpr ⟨ae_mk pu_get (fun X => ok_getN X (ci := 4) (kk := 0) (index := 218) rfl aw_c_Link (by decide) wd_678 (by decide +kernel)), ?_⟩
  refine List.forall_mem_cons.mpr ⟨ae_mk pu_al (fun X => ok_aload_n X (k := 1) rfl (by decide +kernel)), ?_⟩
  refine List.forall_mem_cons.mpr ⟨ae_mk pu_get (fun X => ok_getN X (ci := 4) (kk := 1) (index := 181) rfl aw_c_Link (by decide) wd_680 (by decide +kernel)), ?_⟩
  refine List.forall_mem_cons.mpr ⟨ae_mk pu_il (fun X => ok_iload X (by decide +kernel)), ?_⟩
  refine List.forall_mem_cons.mpr ⟨ae_mk pu_al (fun X => ok_aload_n X (k := 2) rfl (by decide +kernel)), ?_⟩
  refine List.forall_mem_cons.mpr ⟨ae_mk pu_get (fun X => ok_getN X (ci := 1) (kk := 4) (index := 221) rfl aw_c_Fragment (by decide) wd_660 (by decide +kernel)), ?_⟩
  refine List.forall_mem_cons.mpr ⟨ae_mkc (fun X => ok_callV X (mid := 16) (index := 135) (y := my_16) rfl (by decide) ⟨by decide, by decide⟩ (n := 4) (by decide +kernel) wd_228 wd_47 wd_225 wd_226 wd_227 (ci := 2) rfl (by decide +kernel)), ?_⟩
  refine List.forall_mem_cons.mpr ⟨ae_mk pu_al (fun X => ok_aload_n X (k := 0) rfl (by decide +kernel)), ?_⟩
  refine List.forall_mem_cons.mpr ⟨ae_mk pu_get (fun X => ok_get X (ci := 7) (kk := 3) (index := 28) rfl aw_c_Net (by decide) wd_167 (by decide +kernel)), ?_⟩
  refine List.forall_mem_cons.mpr ⟨ae_mk pu_al (fun X => ok_aload_n X (k := 2) rfl (by decide +kernel)), ?_⟩
  refine List.forall_mem_cons.mpr ⟨ae_mk pu_get (fun X => ok_getN X (ci := 1) (kk := 0) (index := 224) rfl aw_c_Fragment (by decide) wd_650 (by decide +kernel)), ?_⟩
  refine List.forall_mem_cons.mpr ⟨ae_mk pu_al (fun X => ok_aload_n X (k := 2) rfl (by decide +kernel)), ?_⟩
  refine List.forall_mem_cons.mpr ⟨ae_mk pu_get (fun X => ok_getN X (ci := 1) (kk := 3) (index := 227) rfl aw_c_Fragment (by decide) wd_657 (by decide +kernel)), ?_⟩
  refine List.forall_mem_cons.mpr ⟨ae_mk pu_al (fun X => ok_aload_n X (k := 2) rfl (by decide +kernel)), ?_⟩
  refine List.forall_mem_cons.mpr ⟨ae_mk pu_get (fun X => ok_getN X (ci := 1) (kk := 5) (index := 230) rfl aw_c_Fragment (by decide) wd_663 (by decide +kernel)), ?_⟩
  refine List.forall_mem_cons.mpr ⟨ae_mkc (fun X => ok_callV X (mid := 19) (index := 140) (y := my_19) rfl (by decide) ⟨by decide, by decide⟩ (n := 3) (by decide +kernel) wd_244 wd_47 wd_241 wd_242 wd_243 (ci := 2) rfl (by decide +kernel)), ?_⟩
  refine List.forall_mem_cons.mpr ⟨ae_mk (pu_push (fun _ => trivial)) (fun X => ok_iconst X (n := 0) (by decide) (by decide +kernel)), ?_⟩
  refine List.forall_mem_cons.mpr ⟨ae_mk pu_is (fun X => ok_istore X (by decide +kernel)), ?_⟩
  refine List.forall_mem_cons.mpr ⟨ae_mk pu_il (fun X => ok_iload X (by decide +kernel)), ?_⟩
  refine List.forall_mem_cons.mpr ⟨ae_mk pu_al (fun X => ok_aload_n X (k := 2) rfl (by decide +kernel)), ?_⟩
  refine List.forall_mem_cons.mpr ⟨ae_mk pu_get (fun X => ok_getN X (ci := 1) (kk := 4) (index := 221) rfl aw_c_Fragment (by decide) wd_660 (by decide +kernel)), ?_⟩
  refine List.forall_mem_cons.mpr ⟨ae_mk pu_ic (fun X => ok_ic_ge X (off := 36) (by decide) (by decide +kernel)), ?_⟩
  refine List.forall_mem_cons.mpr ⟨ae_mk pu_al (fun X => ok_aload_n X (k := 0) rfl (by decide +kernel)), ?_⟩
  refine List.forall_mem_cons.mpr ⟨ae_mk pu_get (fun X => ok_get X (ci := 7) (kk := 3) (index := 28) rfl aw_c_Net (by decide) wd_167 (by decide +kernel)), ?_⟩
  refine List.forall_mem_cons.mpr ⟨ae_mk (pu_push (fun _ => trivial)) (fun X => ok_bipush X (n := 34) (by decide) (by decide +kernel)), ?_⟩
  refine List.forall_mem_cons.mpr ⟨ae_mk pu_il (fun X => ok_iload X (by decide +kernel)), ?_⟩
  refine List.forall_mem_cons.mpr ⟨ae_mk pu_bin (fun X => ok_iadd X (by decide +kernel)), ?_⟩
  refine List.forall_mem_cons.mpr ⟨ae_mk pu_al (fun X => ok_aload_n X (k := 2) rfl (by decide +kernel)), ?_⟩
  refine List.forall_mem_cons.mpr ⟨ae_mk pu_al (fun X => ok_aload_n X (k := 1) rfl (by decide +kernel)), ?_⟩
  refine List.forall_mem_cons.mpr ⟨ae_mk pu_get (fun X => ok_getN X (ci := 4) (kk := 0) (index := 218) rfl aw_c_Link (by decide) wd_678 (by decide +kernel)), ?_⟩
  refine List.forall_mem_cons.mpr ⟨ae_mk pu_al (fun X => ok_aload_n X (k := 2) rfl (by decide +kernel)), ?_⟩
  refine List.forall_mem_cons.mpr ⟨ae_mk pu_get (fun X => ok_getN X (ci := 1) (kk := 3) (index := 227) rfl aw_c_Fragment (by decide) wd_657 (by decide +kernel)), ?_⟩
  refine List.forall_mem_cons.mpr ⟨ae_mk pu_il (fun X => ok_iload X (by decide +kernel)), ?_⟩
  refine List.forall_mem_cons.mpr ⟨ae_mk pu_bin (fun X => ok_iadd X (by decide +kernel)), ?_⟩
  refine List.forall_mem_cons.mpr ⟨ae_mkc (fun X => ok_callV X (mid := 20) (index := 233) (y := my_20) rfl (by decide) ⟨by decide, by decide⟩ (n := 2) (by decide +kernel) wd_248 wd_59 wd_245 wd_246 wd_247 (ci := 1) rfl (by decide +kernel)), ?_⟩
  refine List.forall_mem_cons.mpr ⟨ae_mkc (fun X => ok_callV X (mid := 17) (index := 236) (y := my_17) rfl (by decide) ⟨by decide, by decide⟩ (n := 2) (by decide +kernel) wd_236 wd_47 wd_249 wd_234 wd_235 (ci := 2) rfl (by decide +kernel)), ?_⟩
  refine List.forall_mem_cons.mpr ⟨ae_mk pu_inc (fun X => ok_iinc X (n := 1) (by decide) (by decide +kernel)), ?_⟩
  refine List.forall_mem_cons.mpr ⟨ae_mk pu_goto (fun X => ok_goto X (off := (-39)) (by decide) (by decide +kernel)), ?_⟩
  refine List.forall_mem_cons.mpr ⟨ae_mk pu_al (fun X => ok_aload_n X (k := 0) rfl (by decide +kernel)), ?_⟩
  refine List.forall_mem_cons.mpr ⟨ae_mk pu_get (fun X => ok_get X (ci := 7) (kk := 3) (index := 28) rfl aw_c_Net (by decide) wd_167 (by decide +kernel)), ?_⟩
  refine List.forall_mem_cons.mpr ⟨ae_mk pu_il (fun X => ok_iload_n X (k := 3) rfl (by decide +kernel)), ?_⟩
  refine List.forall_mem_cons.mpr ⟨ae_mkc (fun X => ok_callV X (mid := 21) (index := 144) (y := my_21) rfl (by decide) ⟨by decide, by decide⟩ (n := 1) (by decide +kernel) wd_253 wd_47 wd_250 wd_251 wd_252 (ci := 2) rfl (by decide +kernel)), ?_⟩
  refine List.forall_mem_cons.mpr ⟨ae_mk pu_al (fun X => ok_aload_n X (k := 0) rfl (by decide +kernel)), ?_⟩
  refine List.forall_mem_cons.mpr ⟨ae_mk pu_il (fun X => ok_iload X (by decide +kernel)), ?_⟩
  refine List.forall_mem_cons.mpr ⟨ae_mk pu_al (fun X => ok_aload_n X (k := 1) rfl (by decide +kernel)), ?_⟩
  refine List.forall_mem_cons.mpr ⟨ae_mk pu_get (fun X => ok_getN X (ci := 4) (kk := 1) (index := 181) rfl aw_c_Link (by decide) wd_680 (by decide +kernel)), ?_⟩
  refine List.forall_mem_cons.mpr ⟨ae_mk pu_al (fun X => ok_aload_n X (k := 1) rfl (by decide +kernel)), ?_⟩
  refine List.forall_mem_cons.mpr ⟨ae_mk pu_get (fun X => ok_getN X (ci := 4) (kk := 4) (index := 239) rfl aw_c_Link (by decide) wd_686 (by decide +kernel)), ?_⟩
  refine List.forall_mem_cons.mpr ⟨ae_mk pu_al (fun X => ok_aload_n X (k := 0) rfl (by decide +kernel)), ?_⟩
  refine List.forall_mem_cons.mpr ⟨ae_mk pu_get (fun X => ok_get X (ci := 7) (kk := 3) (index := 28) rfl aw_c_Net (by decide) wd_167 (by decide +kernel)), ?_⟩
  refine List.forall_mem_cons.mpr ⟨ae_mkc (fun X => ok_callV X (mid := 25) (index := 147) (y := my_25) rfl (by decide) ⟨by decide, by decide⟩ (n := 4) (by decide +kernel) wd_272 wd_46 wd_269 wd_271 wd_6 (ci := 7) rfl (by decide +kernel)), ?_⟩
  refine List.forall_mem_cons.mpr ⟨ae_mk pu_pop (fun X => ok_pop X (by decide +kernel)), ?_⟩
  refine List.forall_mem_cons.mpr ⟨ae_mk pu_inc (fun X => ok_iinc X (n := 1) (by decide) (by decide +kernel)), ?_⟩
  refine List.forall_mem_cons.mpr ⟨ae_mk pu_goto (fun X => ok_goto X (off := (-121)) (by decide) (by decide +kernel)), ?_⟩
  refine List.forall_mem_cons.mpr ⟨ae_mk pu_al (fun X => ok_aload_n X (k := 1) rfl (by decide +kernel)), ?_⟩
  refine List.forall_mem_cons.mpr ⟨ae_mk pu_al (fun X => ok_aload_n X (k := 0) rfl (by decide +kernel)), ?_⟩
  refine List.forall_mem_cons.mpr ⟨ae_mk pu_get (fun X => ok_get X (ci := 7) (kk := 5) (index := 39) rfl aw_c_Net (by decide) wd_169 (by decide +kernel)), ?_⟩
  refine List.forall_mem_cons.mpr ⟨ae_mk pu_al (fun X => ok_aload_n X (k := 1) rfl (by decide +kernel)), ?_⟩
  refine List.forall_mem_cons.mpr ⟨ae_mk pu_get (fun X => ok_getN X (ci := 4) (kk := 2) (index := 242) rfl aw_c_Link (by decide) wd_682 (by decide +kernel)), ?_⟩
  refine List.forall_mem_cons.mpr ⟨ae_mk pu_bin (fun X => ok_iadd X (by decide +kernel)), ?_⟩
  refine List.forall_mem_cons.mpr ⟨ae_mk pu_put (fun X => ok_putN X (ci := 4) (kk := 14) (index := 203) rfl aw_c_Link (by decide) wd_699 cy_Link cn_Link_ty cn_Link_nm rfl hk_int rfl (by decide +kernel)), ?_⟩
  refine List.forall_mem_cons.mpr ⟨⟨rfl, (by decide +kernel)⟩, ?_⟩
  exact fun _ h => absurd h List.not_mem_nil
def tb_13 : List (Nat × ae_I) := [(0, .inl (o_al 0 1)),
  (1, .inl (o_get 4 9 4)),
  (4, .inl (o_al 0 5)),
  (5, .inl (o_get 4 10 8)),
  (8, .inl (o_aa 9)),
  (9, .inl (o_as 1 10)),
  (10, .inl (o_al 0 11)),
  (11, .inl (o_al 0 12)),
  (12, .inl (o_get 4 10 15)),
  (15, .inl (o_push (.int 1) 16)),
  (16, .inl (o_bin (fun x y => x + y) 17)),
  (17, .inl (o_push (.int 8) 19)),
  (19, .inl (o_dv (fun x y => x - x / y * y) 20)),
  (20, .inl (o_put 4 10 k_int 23)),
  (23, .inl (o_al 0 24)),
  (24, .inl (o_dup 25)),
  (25, .inl (o_get 4 11 28)),
  (28, .inl (o_push (.int 1) 29)),
  (29, .inl (o_bin (fun x y => x - y) 30)),
  (30, .inl (o_put 4 11 k_int 33)),
  (33, .inl (o_al 1 34)),
  (34, .inr (.inl (some k_ref)))]
theorem te_13 : ∀ q ∈ tb_13, ae_E am "TwinNetwork$Link" "removeFragment" prog_6_method_7_code 2 (Option.some (Jvm.ClassFile.FieldType.object "TwinNetwork$Fragment")) [] q := by
  unfold tb_13
  refine List.forall_mem_cons.mpr ⟨ae_mk pu_al (fun X => ok_aload_n X (k := 0) rfl (by decide +kernel)), ?_⟩
  refine List.forall_mem_cons.mpr ⟨ae_mk pu_get (fun X => ok_get X (ci := 4) (kk := 9) (index := 23) rfl aw_c_Link (by decide) wd_692 (by decide +kernel)), ?_⟩
  refine List.forall_mem_cons.mpr ⟨ae_mk pu_al (fun X => ok_aload_n X (k := 0) rfl (by decide +kernel)), ?_⟩
  refine List.forall_mem_cons.mpr ⟨ae_mk pu_get (fun X => ok_get X (ci := 4) (kk := 10) (index := 27) rfl aw_c_Link (by decide) wd_693 (by decide +kernel)), ?_⟩
  refine List.forall_mem_cons.mpr ⟨ae_mk pu_aa (fun X => ok_aa X (by decide +kernel)), ?_⟩
  refine List.forall_mem_cons.mpr ⟨ae_mk pu_as (fun X => ok_astore_n X (k := 1) rfl (by decide +kernel)), ?_⟩
  refine List.forall_mem_cons.mpr ⟨ae_mk pu_al (fun X => ok_aload_n X (k := 0) rfl (by decide +kernel)), ?_⟩
  refine List.forall_mem_cons.mpr ⟨ae_mk pu_al (fun X => ok_aload_n X (k := 0) rfl (by decide +kernel)), ?_⟩
  refine List.forall_mem_cons.mpr ⟨ae_mk pu_get (fun X => ok_get X (ci := 4) (kk := 10) (index := 27) rfl aw_c_Link (by decide) wd_693 (by decide +kernel)), ?_⟩
  refine List.forall_mem_cons.mpr ⟨ae_mk (pu_push (fun _ => trivial)) (fun X => ok_iconst X (n := 1) (by decide) (by decide +kernel)), ?_⟩
  refine List.forall_mem_cons.mpr ⟨ae_mk pu_bin (fun X => ok_iadd X (by decide +kernel)), ?_⟩
  refine List.forall_mem_cons.mpr ⟨ae_mk (pu_push (fun _ => trivial)) (fun X => ok_bipush X (n := 8) (by decide) (by decide +kernel)), ?_⟩
  refine List.forall_mem_cons.mpr ⟨ae_mk pu_dv (fun X => ok_irem X (by decide +kernel)), ?_⟩
  refine List.forall_mem_cons.mpr ⟨ae_mk pu_put (fun X => ok_put X (ci := 4) (kk := 10) (index := 27) rfl aw_c_Link (by decide) wd_693 cy_Link cn_Link_ty cn_Link_nm rfl hk_int rfl (by decide +kernel)), ?_⟩
  refine List.forall_mem_cons.mpr ⟨ae_mk pu_al (fun X => ok_aload_n X (k := 0) rfl (by decide +kernel)), ?_⟩
  refine List.forall_mem_cons.mpr ⟨ae_mk pu_dup (fun X => ok_dup X (by decide +kernel)), ?_⟩
  refine List.forall_mem_cons.mpr ⟨ae_mk pu_get (fun X => ok_get X (ci := 4) (kk := 11) (index := 31) rfl aw_c_Link (by decide) wd_694 (by decide +kernel)), ?_⟩
  refine List.forall_mem_cons.mpr ⟨ae_mk (pu_push (fun _ => trivial)) (fun X => ok_iconst X (n := 1) (by decide) (by decide +kernel)), ?_⟩
  refine List.forall_mem_cons.mpr ⟨ae_mk pu_bin (fun X => ok_isub X (by decide +kernel)), ?_⟩
  refine List.forall_mem_cons.mpr ⟨ae_mk pu_put (fun X => ok_put X (ci := 4) (kk := 11) (index := 31) rfl aw_c_Link (by decide) wd_694 cy_Link cn_Link_ty cn_Link_nm rfl hk_int rfl (by decide +kernel)), ?_⟩
  refine List.forall_mem_cons.mpr ⟨ae_mk pu_al (fun X => ok_aload_n X (k := 1) rfl (by decide +kernel)), ?_⟩
  refine List.forall_mem_cons.mpr ⟨Or.inr (Or.inr ⟨Or.inl ⟨_, rfl⟩, (by decide +kernel), rt_ref⟩), ?_⟩
  exact fun _ h => absurd h List.not_mem_nil
def tb_14 : List (Nat × ae_I) := [(0, .inl (o_al 0 1)),
  (1, .inl (o_al 0 2)),
  (2, .inl (o_get 4 13 5)),
  (5, .inl (o_push (.int (-1)) 6)),
  (6, .inl (o_ic (fun x y => decide (¬ x = y)) 13 9)),
  (9, .inl (o_push (.int 0) 10)),
  (10, .inl (o_goto 20)),
  (13, .inl (o_al 0 14)),
  (14, .inl (o_get 4 13 17)),
  (17, .inr (.inr (.inl (15, 1, 20, none, [])))),
  (20, .inl (o_put 4 13 k_int 23)),
  (23, .inl (o_al 0 24)),
  (24, .inl (o_get 4 13 27)),
  (27, .inr (.inl (some k_int)))]
theorem te_14 : ∀ q ∈ tb_14, ae_E am "TwinNetwork$Link" "nextSequence" prog_6_method_8_code 1 (Option.some Jvm.ClassFile.FieldType.int) [] q := by
  unfold tb_14
  refine List.forall_mem_cons.mpr ⟨ae_mk pu_al (fun X => ok_aload_n X (k := 0) rfl (by decide +kernel)), ?_⟩
  refine List.forall_mem_cons.mpr ⟨ae_mk pu_al (fun X => ok_aload_n X (k := 0) rfl (by decide +kernel)), ?_⟩
  refine List.forall_mem_cons.mpr ⟨ae_mk pu_get (fun X => ok_get X (ci := 4) (kk := 13) (index := 37) rfl aw_c_Link (by decide) wd_697 (by decide +kernel)), ?_⟩
  refine List.forall_mem_cons.mpr ⟨ae_mk (pu_push (fun _ => trivial)) (fun X => ok_iconst X (n := (-1)) (by decide) (by decide +kernel)), ?_⟩
  refine List.forall_mem_cons.mpr ⟨ae_mk pu_ic (fun X => ok_ic_ne X (off := 7) (by decide) (by decide +kernel)), ?_⟩
  refine List.forall_mem_cons.mpr ⟨ae_mk (pu_push (fun _ => trivial)) (fun X => ok_iconst X (n := 0) (by decide) (by decide +kernel)), ?_⟩
  refine List.forall_mem_cons.mpr ⟨ae_mk pu_goto (fun X => ok_goto X (off := 10) (by decide) (by decide +kernel)), ?_⟩
  refine List.forall_mem_cons.mpr ⟨ae_mk pu_al (fun X => ok_aload_n X (k := 0) rfl (by decide +kernel)), ?_⟩
  refine List.forall_mem_cons.mpr ⟨ae_mk pu_get (fun X => ok_get X (ci := 4) (kk := 13) (index := 37) rfl aw_c_Link (by decide) wd_697 (by decide +kernel)), ?_⟩
  refine List.forall_mem_cons.mpr ⟨ae_mkc (fun X => ok_callS X (mid := 15) (index := 109) (y := my_15) rfl (by decide) ⟨by decide, by decide⟩ (n := 1) (by decide +kernel) wd_224 wd_58 wd_222 wd_223 (by decide +kernel)), ?_⟩
  refine List.forall_mem_cons.mpr ⟨ae_mk pu_put (fun X => ok_put X (ci := 4) (kk := 13) (index := 37) rfl aw_c_Link (by decide) wd_697 cy_Link cn_Link_ty cn_Link_nm rfl hk_int rfl (by decide +kernel)), ?_⟩
  refine List.forall_mem_cons.mpr ⟨ae_mk pu_al (fun X => ok_aload_n X (k := 0) rfl (by decide +kernel)), ?_⟩
  refine List.forall_mem_cons.mpr ⟨ae_mk pu_get (fun X => ok_get X (ci := 4) (kk := 13) (index := 37) rfl aw_c_Link (by decide) wd_697 (by decide +kernel)), ?_⟩
  refine List.forall_mem_cons.mpr ⟨Or.inl ⟨rfl, (by decide +kernel), rt_int⟩, ?_⟩
  exact fun _ h => absurd h List.not_mem_nil
def tb_15 : List (Nat × ae_I) := [(0, .inl (o_il 0 1)),
  (1, .inl (o_push (.int 255) 4)),
  (4, .inl (o_ic (fun x y => decide (¬ x = y)) 11 7)),
  (7, .inl (o_push (.int 1) 8)),
  (8, .inl (o_goto 14)),
  (11, .inl (o_il 0 12)),
  (12, .inl (o_push (.int 1) 13)),
  (13, .inl (o_bin (fun x y => x + y) 14)),
  (14, .inr (.inl (some k_int)))]
theorem te_15 : ∀ q ∈ tb_15, ae_E am "TwinNetwork$Port" "following" prog_7_method_2_code 1 (Option.some Jvm.ClassFile.FieldType.int) [] q := by
  unfold tb_15
  refine List.forall_mem_cons.mpr ⟨ae_mk pu_il (fun X => ok_iload_n X (k := 0) rfl (by decide +kernel)), ?_⟩
  refine List.forall_mem_cons.mpr ⟨ae_mk (pu_push (fun _ => trivial)) (fun X => ok_sipush X (n := 255) (by decide) (by decide +kernel)), ?_⟩
  refine List.forall_mem_cons.mpr ⟨ae_mk pu_ic (fun X => ok_ic_ne X (off := 7) (by decide) (by decide +kernel)), ?_⟩
  refine List.forall_mem_cons.mpr ⟨ae_mk (pu_push (fun _ => trivial)) (fun X => ok_iconst X (n := 1) (by decide) (by decide +kernel)), ?_⟩
  refine List.forall_mem_cons.mpr ⟨ae_mk pu_goto (fun X => ok_goto X (off := 6) (by decide) (by decide +kernel)), ?_⟩
  refine List.forall_mem_cons.mpr ⟨ae_mk pu_il (fun X => ok_iload_n X (k := 0) rfl (by decide +kernel)), ?_⟩
  refine List.forall_mem_cons.mpr ⟨ae_mk (pu_push (fun _ => trivial)) (fun X => ok_iconst X (n := 1) (by decide) (by decide +kernel)), ?_⟩
  refine List.forall_mem_cons.mpr ⟨ae_mk pu_bin (fun X => ok_iadd X (by decide +kernel)), ?_⟩
  refine List.forall_mem_cons.mpr ⟨Or.inl ⟨rfl, (by decide +kernel), rt_int⟩, ?_⟩
  exact fun _ h => absurd h List.not_mem_nil
