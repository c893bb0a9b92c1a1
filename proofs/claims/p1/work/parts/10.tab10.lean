def tb_0 : List (Nat × ae_I) := [(0, .inl (o_new 7 6 cd_Net 3)),
  (3, .inl (o_dup 4)),
  (4, .inr (.inr (.inl (1, 1, 7, some 7, [])))),
  (7, .inl (o_as 1 8)),
  (8, .inl (o_new 8 41 cd_Model 11)),
  (11, .inl (o_dup 12)),
  (12, .inr (.inr (.inl (95, 1, 15, some 8, [])))),
  (15, .inl (o_as 2 16)),
  (16, .inl (o_push (.int 1) 17)),
  (17, .inl (o_na 3 19)),
  (19, .inl (o_as 3 20)),
  (20, .inl (o_push (.int 0) 21)),
  (21, .inl (o_is 4 23)),
  (23, .inl (o_il 4 25)),
  (25, .inl (o_al 0 26)),
  (26, .inl (o_len 27)),
  (27, .inl (o_push (.int 7) 29)),
  (29, .inl (o_bin (fun x y => x - y) 30)),
  (30, .inl (o_ic (fun x y => decide (y < x)) 807 33)),
  (33, .inl (o_al 0 34)),
  (34, .inl (o_il 4 36)),
  (36, .inl (o_ia 37)),
  (37, .inl (o_push (.int 15) 39)),
  (39, .inl (o_bin (fun x y => x &&& y) 40)),
  (40, .inl (o_sw 0 13 [112, 210, 290, 315, 383, 408, 445, 506, 579, 628, 677, 702, 739, 764] 801)),
  (112, .inl (o_al 1 113)),
  (113, .inl (o_al 0 114)),
  (114, .inl (o_il 4 116)),
  (116, .inl (o_push (.int 1) 117)),
  (117, .inl (o_bin (fun x y => x + y) 118)),
  (118, .inl (o_ia 119)),
  (119, .inl (o_al 0 120)),
  (120, .inl (o_il 4 122)),
  (122, .inl (o_push (.int 2) 123)),
  (123, .inl (o_bin (fun x y => x + y) 124)),
  (124, .inl (o_ia 125)),
  (125, .inl (o_al 0 126)),
  (126, .inl (o_il 4 128)),
  (128, .inl (o_push (.int 3) 129)),
  (129, .inl (o_bin (fun x y => x + y) 130)),
  (130, .inl (o_ia 131)),
  (131, .inl (o_al 0 132)),
  (132, .inl (o_il 4 134)),
  (134, .inl (o_push (.int 4) 135)),
  (135, .inl (o_bin (fun x y => x + y) 136)),
  (136, .inl (o_ia 137)),
  (137, .inl (o_al 0 138)),
  (138, .inl (o_il 4 140)),
  (140, .inl (o_push (.int 5) 141)),
  (141, .inl (o_bin (fun x y => x + y) 142)),
  (142, .inl (o_ia 143)),
  (143, .inl (o_al 0 144)),
  (144, .inl (o_il 4 146)),
  (146, .inl (o_push (.int 6) 148)),
  (148, .inl (o_bin (fun x y => x + y) 149)),
  (149, .inl (o_ia 150)),
  (150, .inr (.inr (.inl (79, 7, 153, none, [])))),
  (153, .inl (o_is 5 155)),
  (155, .inl (o_al 2 156)),
  (156, .inl (o_al 0 157)),
  (157, .inl (o_il 4 159)),
  (159, .inl (o_push (.int 1) 160)),
  (160, .inl (o_bin (fun x y => x + y) 161)),
  (161, .inl (o_ia 162)),
  (162, .inl (o_al 0 163)),
  (163, .inl (o_il 4 165)),
  (165, .inl (o_push (.int 2) 166)),
  (166, .inl (o_bin (fun x y => x + y) 167)),
  (167, .inl (o_ia 168)),
  (168, .inl (o_al 0 169)),
  (169, .inl (o_il 4 171)),
  (171, .inl (o_push (.int 3) 172)),
  (172, .inl (o_bin (fun x y => x + y) 173)),
  (173, .inl (o_ia 174)),
  (174, .inl (o_al 0 175)),
  (175, .inl (o_il 4 177)),
  (177, .inl (o_push (.int 4) 178)),
  (178, .inl (o_bin (fun x y => x + y) 179)),
  (179, .inl (o_ia 180)),
  (180, .inl (o_al 0 181)),
  (181, .inl (o_il 4 183)),
  (183, .inl (o_push (.int 5) 184)),
  (184, .inl (o_bin (fun x y => x + y) 185)),
  (185, .inl (o_ia 186)),
  (186, .inl (o_al 0 187)),
  (187, .inl (o_il 4 189)),
  (189, .inl (o_push (.int 6) 191)),
  (191, .inl (o_bin (fun x y => x + y) 192)),
  (192, .inl (o_ia 193)),
  (193, .inr (.inr (.inl (97, 7, 196, some 8, [])))),
  (196, .inl (o_al 2 197)),
  (197, .inr (.inr (.inl (96, 1, 200, some 8, [])))),
  (200, .inl (o_il 5 202)),
  (202, .inl (o_ic (fun x y => decide (x = y)) 207 205)),
  (205, .inl (o_push (.int 0) 206)),
  (206, .inr (.inl (some k_bool))),
  (207, .inl (o_goto 801)),
  (210, .inl (o_al 1 211)),
  (211, .inl (o_al 0 212)),
  (212, .inl (o_il 4 214)),
  (214, .inl (o_push (.int 1) 215)),
  (215, .inl (o_bin (fun x y => x + y) 216)),
  (216, .inl (o_ia 217)),
  (217, .inl (o_al 0 218)),
  (218, .inl (o_il 4 220)),
  (220, .inl (o_push (.int 2) 221)),
  (221, .inl (o_bin (fun x y => x + y) 222)),
  (222, .inl (o_ia 223)),
  (223, .inl (o_al 0 224)),
  (224, .inl (o_il 4 226)),
  (226, .inl (o_push (.int 3) 227)),
  (227, .inl (o_bin (fun x y => x + y) 228)),
  (228, .inl (o_ia 229)),
  (229, .inl (o_al 3 230)),
  (230, .inr (.inr (.inl (86, 5, 233, none, [])))),
  (233, .inl (o_is 5 235)),
  (235, .inl (o_al 2 236)),
  (236, .inl (o_al 0 237)),
  (237, .inl (o_il 4 239)),
  (239, .inl (o_push (.int 1) 240)),
  (240, .inl (o_bin (fun x y => x + y) 241)),
  (241, .inl (o_ia 242)),
  (242, .inl (o_al 0 243)),
  (243, .inl (o_il 4 245)),
  (245, .inl (o_push (.int 2) 246)),
  (246, .inl (o_bin (fun x y => x + y) 247)),
  (247, .inl (o_ia 248)),
  (248, .inl (o_al 0 249)),
  (249, .inl (o_il 4 251)),
  (251, .inl (o_push (.int 3) 252)),
  (252, .inl (o_bin (fun x y => x + y) 253)),
  (253, .inl (o_ia 254)),
  (254, .inr (.inr (.inl (98, 4, 257, some 8, [])))),
  (257, .inl (o_is 6 259)),
  (259, .inl (o_al 2 260)),
  (260, .inr (.inr (.inl (96, 1, 263, some 8, [])))),
  (263, .inl (o_il 5 265)),
  (265, .inl (o_ic (fun x y => decide (x = y)) 270 268)),
  (268, .inl (o_push (.int 0) 269)),
  (269, .inr (.inl (some k_bool))),
  (270, .inl (o_il 5 272)),
  (272, .inl (o_if (fun x => decide (¬ x = 0)) 287 275)),
  (275, .inl (o_al 3 276)),
  (276, .inl (o_push (.int 0) 277)),
  (277, .inl (o_la 278)),
  (278, .inl (o_il 6 280)),
  (280, .inl (o_i2l 281)),
  (281, .inl (o_lcmp 282)),
  (282, .inl (o_if (fun x => decide (x = 0)) 287 285)),
  (285, .inl (o_push (.int 0) 286)),
  (286, .inr (.inl (some k_bool))),
  (287, .inl (o_goto 801)),
  (290, .inl (o_al 1 291)),
  (291, .inl (o_al 0 292)),
  (292, .inl (o_il 4 294)),
  (294, .inl (o_push (.int 1) 295)),
  (295, .inl (o_bin (fun x y => x + y) 296)),
  (296, .inl (o_ia 297)),
  (297, .inr (.inr (.inl (6, 2, 300, some 7, [])))),
  (300, .inl (o_al 2 301)),
  (301, .inl (o_al 0 302)),
  (302, .inl (o_il 4 304)),
  (304, .inl (o_push (.int 1) 305)),
  (305, .inl (o_bin (fun x y => x + y) 306)),
  (306, .inl (o_ia 307)),
  (307, .inr (.inr (.inl (101, 2, 310, some 8, [])))),
  (310, .inl (o_ic (fun x y => decide (x = y)) 801 313)),
  (313, .inl (o_push (.int 0) 314)),
  (314, .inr (.inl (some k_bool))),
  (315, .inl (o_al 1 316)),
  (316, .inl (o_al 0 317)),
  (317, .inl (o_il 4 319)),
  (319, .inl (o_push (.int 1) 320)),
  (320, .inl (o_bin (fun x y => x + y) 321)),
  (321, .inl (o_ia 322)),
  (322, .inl (o_al 0 323)),
  (323, .inl (o_il 4 325)),
  (325, .inl (o_push (.int 2) 326)),
  (326, .inl (o_bin (fun x y => x + y) 327)),
  (327, .inl (o_ia 328)),
  (328, .inl (o_al 3 329)),
  (329, .inr (.inr (.inl (91, 4, 332, none, [])))),
  (332, .inl (o_is 5 334)),
  (334, .inl (o_al 2 335)),
  (335, .inl (o_al 0 336)),
  (336, .inl (o_il 4 338)),
  (338, .inl (o_push (.int 1) 339)),
  (339, .inl (o_bin (fun x y => x + y) 340)),
  (340, .inl (o_ia 341)),
  (341, .inl (o_al 0 342)),
  (342, .inl (o_il 4 344)),
  (344, .inl (o_push (.int 2) 345)),
  (345, .inl (o_bin (fun x y => x + y) 346)),
  (346, .inl (o_ia 347)),
  (347, .inr (.inr (.inl (130, 3, 350, some 8, [])))),
  (350, .inl (o_is 6 352)),
  (352, .inl (o_al 2 353)),
  (353, .inr (.inr (.inl (96, 1, 356, some 8, [])))),
  (356, .inl (o_il 5 358)),
  (358, .inl (o_ic (fun x y => decide (x = y)) 363 361)),
  (361, .inl (o_push (.int 0) 362)),
  (362, .inr (.inl (some k_bool))),
  (363, .inl (o_il 5 365)),
  (365, .inl (o_if (fun x => decide (¬ x = 0)) 380 368)),
  (368, .inl (o_al 3 369)),
  (369, .inl (o_push (.int 0) 370)),
  (370, .inl (o_la 371)),
  (371, .inl (o_il 6 373)),
  (373, .inl (o_i2l 374)),
  (374, .inl (o_lcmp 375)),
  (375, .inl (o_if (fun x => decide (x = 0)) 380 378)),
  (378, .inl (o_push (.int 0) 379)),
  (379, .inr (.inl (some k_bool))),
  (380, .inl (o_goto 801)),
  (383, .inl (o_al 1 384)),
  (384, .inl (o_al 0 385)),
  (385, .inl (o_il 4 387)),
  (387, .inl (o_push (.int 1) 388)),
  (388, .inl (o_bin (fun x y => x + y) 389)),
  (389, .inl (o_ia 390)),
  (390, .inr (.inr (.inl (63, 2, 393, some 7, [])))),
  (393, .inl (o_al 2 394)),
  (394, .inl (o_al 0 395)),
  (395, .inl (o_il 4 397)),
  (397, .inl (o_push (.int 1) 398)),
  (398, .inl (o_bin (fun x y => x + y) 399)),
  (399, .inl (o_ia 400)),
  (400, .inr (.inr (.inl (131, 2, 403, some 8, [])))),
  (403, .inl (o_ic (fun x y => decide (x = y)) 801 406)),
  (406, .inl (o_push (.int 0) 407)),
  (407, .inr (.inl (some k_bool))),
  (408, .inl (o_al 1 409)),
  (409, .inl (o_al 0 410)),
  (410, .inl (o_il 4 412)),
  (412, .inl (o_push (.int 1) 413)),
  (413, .inl (o_bin (fun x y => x + y) 414)),
  (414, .inl (o_ia 415)),
  (415, .inl (o_al 0 416)),
  (416, .inl (o_il 4 418)),
  (418, .inl (o_push (.int 2) 419)),
  (419, .inl (o_bin (fun x y => x + y) 420)),
  (420, .inl (o_ia 421)),
  (421, .inr (.inr (.inl (64, 3, 424, some 7, [])))),
  (424, .inl (o_al 2 425)),
  (425, .inl (o_al 0 426)),
  (426, .inl (o_il 4 428)),
  (428, .inl (o_push (.int 1) 429)),
  (429, .inl (o_bin (fun x y => x + y) 430)),
  (430, .inl (o_ia 431)),
  (431, .inl (o_al 0 432)),
  (432, .inl (o_il 4 434)),
  (434, .inl (o_push (.int 2) 435)),
  (435, .inl (o_bin (fun x y => x + y) 436)),
  (436, .inl (o_ia 437)),
  (437, .inr (.inr (.inl (132, 3, 440, some 8, [])))),
  (440, .inl (o_ic (fun x y => decide (x = y)) 801 443)),
  (443, .inl (o_push (.int 0) 444)),
  (444, .inr (.inl (some k_bool))),
  (445, .inl (o_al 1 446)),
  (446, .inl (o_al 0 447)),
  (447, .inl (o_il 4 449)),
  (449, .inl (o_push (.int 1) 450)),
  (450, .inl (o_bin (fun x y => x + y) 451)),
  (451, .inl (o_ia 452)),
  (452, .inl (o_al 0 453)),
  (453, .inl (o_il 4 455)),
  (455, .inl (o_push (.int 2) 456)),
  (456, .inl (o_bin (fun x y => x + y) 457)),
  (457, .inl (o_ia 458)),
  (458, .inl (o_al 0 459)),
  (459, .inl (o_il 4 461)),
  (461, .inl (o_push (.int 3) 462)),
  (462, .inl (o_bin (fun x y => x + y) 463)),
  (463, .inl (o_ia 464)),
  (464, .inl (o_al 0 465)),
  (465, .inl (o_il 4 467)),
  (467, .inl (o_push (.int 4) 468)),
  (468, .inl (o_bin (fun x y => x + y) 469)),
  (469, .inl (o_ia 470)),
  (470, .inr (.inr (.inl (67, 5, 473, some 7, [])))),
  (473, .inl (o_al 2 474)),
  (474, .inl (o_al 0 475)),
  (475, .inl (o_il 4 477)),
  (477, .inl (o_push (.int 1) 478)),
  (478, .inl (o_bin (fun x y => x + y) 479)),
  (479, .inl (o_ia 480)),
  (480, .inl (o_al 0 481)),
  (481, .inl (o_il 4 483)),
  (483, .inl (o_push (.int 2) 484)),
  (484, .inl (o_bin (fun x y => x + y) 485)),
  (485, .inl (o_ia 486)),
  (486, .inl (o_al 0 487)),
  (487, .inl (o_il 4 489)),
  (489, .inl (o_push (.int 3) 490)),
  (490, .inl (o_bin (fun x y => x + y) 491)),
  (491, .inl (o_ia 492)),
  (492, .inl (o_al 0 493)),
  (493, .inl (o_il 4 495)),
  (495, .inl (o_push (.int 4) 496)),
  (496, .inl (o_bin (fun x y => x + y) 497)),
  (497, .inl (o_ia 498)),
  (498, .inr (.inr (.inl (133, 5, 501, some 8, [])))),
  (501, .inl (o_ic (fun x y => decide (x = y)) 801 504)),
  (504, .inl (o_push (.int 0) 505)),
  (505, .inr (.inl (some k_bool))),
  (506, .inl (o_al 1 507)),
  (507, .inl (o_al 0 508)),
  (508, .inl (o_il 4 510)),
  (510, .inl (o_push (.int 1) 511)),
  (511, .inl (o_bin (fun x y => x + y) 512)),
  (512, .inl (o_ia 513)),
  (513, .inl (o_al 0 514)),
  (514, .inl (o_il 4 516)),
  (516, .inl (o_push (.int 2) 517)),
  (517, .inl (o_bin (fun x y => x + y) 518)),
  (518, .inl (o_ia 519)),
  (519, .inl (o_al 0 520)),
  (520, .inl (o_il 4 522)),
  (522, .inl (o_push (.int 3) 523)),
  (523, .inl (o_bin (fun x y => x + y) 524)),
  (524, .inl (o_ia 525)),
  (525, .inl (o_al 0 526)),
  (526, .inl (o_il 4 528)),
  (528, .inl (o_push (.int 4) 529)),
  (529, .inl (o_bin (fun x y => x + y) 530)),
  (530, .inl (o_ia 531)),
  (531, .inl (o_al 0 532)),
  (532, .inl (o_il 4 534)),
  (534, .inl (o_push (.int 5) 535)),
  (535, .inl (o_bin (fun x y => x + y) 536)),
  (536, .inl (o_ia 537)),
  (537, .inr (.inr (.inl (69, 6, 540, some 7, [])))),
  (540, .inl (o_al 2 541)),
  (541, .inl (o_al 0 542)),
  (542, .inl (o_il 4 544)),
  (544, .inl (o_push (.int 1) 545)),
  (545, .inl (o_bin (fun x y => x + y) 546)),
  (546, .inl (o_ia 547)),
  (547, .inl (o_al 0 548)),
  (548, .inl (o_il 4 550)),
  (550, .inl (o_push (.int 2) 551)),
  (551, .inl (o_bin (fun x y => x + y) 552)),
  (552, .inl (o_ia 553)),
  (553, .inl (o_al 0 554)),
  (554, .inl (o_il 4 556)),
  (556, .inl (o_push (.int 3) 557)),
  (557, .inl (o_bin (fun x y => x + y) 558)),
  (558, .inl (o_ia 559)),
  (559, .inl (o_al 0 560)),
  (560, .inl (o_il 4 562)),
  (562, .inl (o_push (.int 4) 563)),
  (563, .inl (o_bin (fun x y => x + y) 564)),
  (564, .inl (o_ia 565)),
  (565, .inl (o_al 0 566)),
  (566, .inl (o_il 4 568)),
  (568, .inl (o_push (.int 5) 569)),
  (569, .inl (o_bin (fun x y => x + y) 570)),
  (570, .inl (o_ia 571)),
  (571, .inr (.inr (.inl (135, 6, 574, some 8, [])))),
  (574, .inl (o_ic (fun x y => decide (x = y)) 801 577)),
  (577, .inl (o_push (.int 0) 578)),
  (578, .inr (.inl (some k_bool))),
  (579, .inl (o_al 1 580)),
  (580, .inl (o_al 0 581)),
  (581, .inl (o_il 4 583)),
  (583, .inl (o_push (.int 1) 584)),
  (584, .inl (o_bin (fun x y => x + y) 585)),
  (585, .inl (o_ia 586)),
  (586, .inl (o_al 0 587)),
  (587, .inl (o_il 4 589)),
  (589, .inl (o_push (.int 2) 590)),
  (590, .inl (o_bin (fun x y => x + y) 591)),
  (591, .inl (o_ia 592)),
  (592, .inl (o_al 0 593)),
  (593, .inl (o_il 4 595)),
  (595, .inl (o_push (.int 3) 596)),
  (596, .inl (o_bin (fun x y => x + y) 597)),
  (597, .inl (o_ia 598)),
  (598, .inr (.inr (.inl (70, 4, 601, some 7, [])))),
  (601, .inl (o_al 2 602)),
  (602, .inl (o_al 0 603)),
  (603, .inl (o_il 4 605)),
  (605, .inl (o_push (.int 1) 606)),
  (606, .inl (o_bin (fun x y => x + y) 607)),
  (607, .inl (o_ia 608)),
  (608, .inl (o_al 0 609)),
  (609, .inl (o_il 4 611)),
  (611, .inl (o_push (.int 2) 612)),
  (612, .inl (o_bin (fun x y => x + y) 613)),
  (613, .inl (o_ia 614)),
  (614, .inl (o_al 0 615)),
  (615, .inl (o_il 4 617)),
  (617, .inl (o_push (.int 3) 618)),
  (618, .inl (o_bin (fun x y => x + y) 619)),
  (619, .inl (o_ia 620)),
  (620, .inr (.inr (.inl (136, 4, 623, some 8, [])))),
  (623, .inl (o_ic (fun x y => decide (x = y)) 801 626)),
  (626, .inl (o_push (.int 0) 627)),
  (627, .inr (.inl (some k_bool))),
  (628, .inl (o_al 1 629)),
  (629, .inl (o_al 0 630)),
  (630, .inl (o_il 4 632)),
  (632, .inl (o_push (.int 1) 633)),
  (633, .inl (o_bin (fun x y => x + y) 634)),
  (634, .inl (o_ia 635)),
  (635, .inl (o_al 0 636)),
  (636, .inl (o_il 4 638)),
  (638, .inl (o_push (.int 2) 639)),
  (639, .inl (o_bin (fun x y => x + y) 640)),
  (640, .inl (o_ia 641)),
  (641, .inl (o_al 0 642)),
  (642, .inl (o_il 4 644)),
  (644, .inl (o_push (.int 3) 645)),
  (645, .inl (o_bin (fun x y => x + y) 646)),
  (646, .inl (o_ia 647)),
  (647, .inr (.inr (.inl (71, 4, 650, some 7, [])))),
  (650, .inl (o_al 2 651)),
  (651, .inl (o_al 0 652)),
  (652, .inl (o_il 4 654)),
  (654, .inl (o_push (.int 1) 655)),
  (655, .inl (o_bin (fun x y => x + y) 656)),
  (656, .inl (o_ia 657)),
  (657, .inl (o_al 0 658)),
  (658, .inl (o_il 4 660)),
  (660, .inl (o_push (.int 2) 661)),
  (661, .inl (o_bin (fun x y => x + y) 662)),
  (662, .inl (o_ia 663)),
  (663, .inl (o_al 0 664)),
  (664, .inl (o_il 4 666)),
  (666, .inl (o_push (.int 3) 667)),
  (667, .inl (o_bin (fun x y => x + y) 668)),
  (668, .inl (o_ia 669)),
  (669, .inr (.inr (.inl (137, 4, 672, some 8, [])))),
  (672, .inl (o_ic (fun x y => decide (x = y)) 801 675)),
  (675, .inl (o_push (.int 0) 676)),
  (676, .inr (.inl (some k_bool))),
  (677, .inl (o_al 1 678)),
  (678, .inl (o_al 0 679)),
  (679, .inl (o_il 4 681)),
  (681, .inl (o_push (.int 1) 682)),
  (682, .inl (o_bin (fun x y => x + y) 683)),
  (683, .inl (o_ia 684)),
  (684, .inr (.inr (.inl (72, 2, 687, some 7, [])))),
  (687, .inl (o_al 2 688)),
  (688, .inl (o_al 0 689)),
  (689, .inl (o_il 4 691)),
  (691, .inl (o_push (.int 1) 692)),
  (692, .inl (o_bin (fun x y => x + y) 693)),
  (693, .inl (o_ia 694)),
  (694, .inr (.inr (.inl (138, 2, 697, some 8, [])))),
  (697, .inl (o_ic (fun x y => decide (x = y)) 801 700)),
  (700, .inl (o_push (.int 0) 701)),
  (701, .inr (.inl (some k_bool))),
  (702, .inl (o_al 1 703)),
  (703, .inl (o_al 0 704)),
  (704, .inl (o_il 4 706)),
  (706, .inl (o_push (.int 1) 707)),
  (707, .inl (o_bin (fun x y => x + y) 708)),
  (708, .inl (o_ia 709)),
  (709, .inl (o_al 0 710)),
  (710, .inl (o_il 4 712)),
  (712, .inl (o_push (.int 2) 713)),
  (713, .inl (o_bin (fun x y => x + y) 714)),
  (714, .inl (o_ia 715)),
  (715, .inr (.inr (.inl (73, 3, 718, some 7, [])))),
  (718, .inl (o_al 2 719)),
  (719, .inl (o_al 0 720)),
  (720, .inl (o_il 4 722)),
  (722, .inl (o_push (.int 1) 723)),
  (723, .inl (o_bin (fun x y => x + y) 724)),
  (724, .inl (o_ia 725)),
  (725, .inl (o_al 0 726)),
  (726, .inl (o_il 4 728)),
  (728, .inl (o_push (.int 2) 729)),
  (729, .inl (o_bin (fun x y => x + y) 730)),
  (730, .inl (o_ia 731)),
  (731, .inr (.inr (.inl (139, 3, 734, some 8, [])))),
  (734, .inl (o_ic (fun x y => decide (x = y)) 801 737)),
  (737, .inl (o_push (.int 0) 738)),
  (738, .inr (.inl (some k_bool))),
  (739, .inl (o_al 1 740)),
  (740, .inl (o_al 0 741)),
  (741, .inl (o_il 4 743)),
  (743, .inl (o_push (.int 1) 744)),
  (744, .inl (o_bin (fun x y => x + y) 745)),
  (745, .inl (o_ia 746)),
  (746, .inr (.inr (.inl (74, 2, 749, some 7, [])))),
  (749, .inl (o_al 2 750)),
  (750, .inl (o_al 0 751)),
  (751, .inl (o_il 4 753)),
  (753, .inl (o_push (.int 1) 754)),
  (754, .inl (o_bin (fun x y => x + y) 755)),
  (755, .inl (o_ia 756)),
  (756, .inr (.inr (.inl (140, 2, 759, some 8, [])))),
  (759, .inl (o_ic (fun x y => decide (x = y)) 801 762)),
  (762, .inl (o_push (.int 0) 763)),
  (763, .inr (.inl (some k_bool))),
  (764, .inl (o_al 1 765)),
  (765, .inl (o_al 0 766)),
  (766, .inl (o_il 4 768)),
  (768, .inl (o_push (.int 1) 769)),
  (769, .inl (o_bin (fun x y => x + y) 770)),
  (770, .inl (o_ia 771)),
  (771, .inl (o_al 0 772)),
  (772, .inl (o_il 4 774)),
  (774, .inl (o_push (.int 2) 775)),
  (775, .inl (o_bin (fun x y => x + y) 776)),
  (776, .inl (o_ia 777)),
  (777, .inr (.inr (.inl (75, 3, 780, some 7, [])))),
  (780, .inl (o_al 2 781)),
  (781, .inl (o_al 0 782)),
  (782, .inl (o_il 4 784)),
  (784, .inl (o_push (.int 1) 785)),
  (785, .inl (o_bin (fun x y => x + y) 786)),
  (786, .inl (o_ia 787)),
  (787, .inl (o_al 0 788)),
  (788, .inl (o_il 4 790)),
  (790, .inl (o_push (.int 2) 791)),
  (791, .inl (o_bin (fun x y => x + y) 792)),
  (792, .inl (o_ia 793)),
  (793, .inr (.inr (.inl (141, 3, 796, some 8, [])))),
  (796, .inl (o_ic (fun x y => decide (x = y)) 801 799)),
  (799, .inl (o_push (.int 0) 800)),
  (800, .inr (.inl (some k_bool))),
  (801, .inl (o_inc 4 7 804)),
  (804, .inl (o_goto 23)),
  (807, .inl (o_push (.int 1) 808)),
  (808, .inr (.inl (some k_bool)))]
theorem te_0 : ∀ q ∈ tb_0, ae_E am "TwinNetworkLaw" "law" code 7 ret [] q := by
  unfold tb_0
  refine List.forall_mem_cons.mpr ⟨ae_mk (pu_new cd_Net_cv) (fun X => ok_new X (ci := 7) (index := 8) (fs := cd_Net) rfl aw_c_Net cy_Net cn_Net_ty wd_62 wd_63 wd_46 cd_Net_v (fun _ _ => rfl) cd_Net_cv (by decide +kernel)), ?_⟩
  refine List.forall_mem_cons.mpr ⟨ae_mk pu_dup (fun X => ok_dup X (by decide +kernel)), ?_⟩
  refine List.forall_mem_cons.mpr ⟨ae_mkc (fun X => ok_callI X (mid := 1) (index := 25) (y := my_1) rfl (by decide) ⟨by decide, by decide⟩ (n := 0) (by decide +kernel) wd_66 wd_46 wd_64 wd_65 rfl rfl (ci := 7) (by decide +kernel)), ?_⟩
  refine List.forall_mem_cons.mpr ⟨ae_mk pu_as (fun X => ok_astore_n X (k := 1) rfl (by decide +kernel)), ?_⟩
  refine List.forall_mem_cons.mpr ⟨ae_mk (pu_new cd_Model_cv) (fun X => ok_new X (ci := 8) (index := 26) (fs := cd_Model) rfl aw_c_Model cy_Model cn_Model_ty wd_768 wd_769 wd_51 cd_Model_v (fun _ _ => rfl) cd_Model_cv (by decide +kernel)), ?_⟩
  refine List.forall_mem_cons.mpr ⟨ae_mk pu_dup (fun X => ok_dup X (by decide +kernel)), ?_⟩
  refine List.forall_mem_cons.mpr ⟨ae_mkc (fun X => ok_callI X (mid := 95) (index := 28) (y := my_95) rfl (by decide) ⟨by decide, by decide⟩ (n := 0) (by decide +kernel) wd_772 wd_51 wd_770 wd_771 rfl rfl (ci := 8) (by decide +kernel)), ?_⟩
  refine List.forall_mem_cons.mpr ⟨ae_mk pu_as (fun X => ok_astore_n X (k := 2) rfl (by decide +kernel)), ?_⟩
  refine List.forall_mem_cons.mpr ⟨ae_mk (pu_push (fun _ => trivial)) (fun X => ok_iconst X (n := 1) (by decide) (by decide +kernel)), ?_⟩
  refine List.forall_mem_cons.mpr ⟨ae_mk pu_na (fun X => ok_na X (atype := .long) (t := 3) rfl (fun _ => rfl) wd_1083 (fun _ _ => rfl) (by decide) (fun _ _ => rfl) (by decide +kernel)), ?_⟩
  refine List.forall_mem_cons.mpr ⟨ae_mk pu_as (fun X => ok_astore_n X (k := 3) rfl (by decide +kernel)), ?_⟩
  refine List.forall_mem_cons.mpr ⟨ae_mk (pu_push (fun _ => trivial)) (fun X => ok_iconst X (n := 0) (by decide) (by decide +kernel)), ?_⟩
  refine List.forall_mem_cons.mpr ⟨ae_mk pu_is (fun X => ok_istore X (by decide +kernel)), ?_⟩
  refine List.forall_mem_cons.mpr ⟨ae_mk pu_il (fun X => ok_iload X (by decide +kernel)), ?_⟩
  refine List.forall_mem_cons.mpr ⟨ae_mk pu_al (fun X => ok_aload_n X (k := 0) rfl (by decide +kernel)), ?_⟩
  refine List.forall_mem_cons.mpr ⟨ae_mk pu_len (fun X => ok_len X (by decide +kernel)), ?_⟩
  refine List.forall_mem_cons.mpr ⟨ae_mk (pu_push (fun _ => trivial)) (fun X => ok_bipush X (n := 7) (by decide) (by decide +kernel)), ?_⟩
  refine List.forall_mem_cons.mpr ⟨ae_mk pu_bin (fun X => ok_isub X (by decide +kernel)), ?_⟩
  refine List.forall_mem_cons.mpr ⟨ae_mk pu_ic (fun X => ok_ic_gt X (off := 777) (by decide) (by decide +kernel)), ?_⟩
  refine List.forall_mem_cons.mpr ⟨ae_mk pu_al (fun X => ok_aload_n X (k := 0) rfl (by decide +kernel)), ?_⟩
  refine List.forall_mem_cons.mpr ⟨ae_mk pu_il (fun X => ok_iload X (by decide +kernel)), ?_⟩
  refine List.forall_mem_cons.mpr ⟨ae_mk pu_ia (fun X => ok_ia X (by decide +kernel)), ?_⟩
  refine List.forall_mem_cons.mpr ⟨ae_mk (pu_push (fun _ => trivial)) (fun X => ok_bipush X (n := 15) (by decide) (by decide +kernel)), ?_⟩
  refine List.forall_mem_cons.mpr ⟨ae_mk pu_bin (fun X => ok_iand X (by decide +kernel)), ?_⟩
  refine List.forall_mem_cons.mpr ⟨ae_mk pu_sw (fun X => ok_sw X (dflt := 761) (offs := #[72, 170, 250, 275, 343, 368, 405, 466, 539, 588, 637, 662, 699, 724]) (len := 72) (by decide) (sw_ok (by decide +kernel)) (by decide +kernel)), ?_⟩
  refine List.forall_mem_cons.mpr ⟨ae_mk pu_al (fun X => ok_aload_n X (k := 1) rfl (by decide +kernel)), ?_⟩
  refine List.forall_mem_cons.mpr ⟨ae_mk pu_al (fun X => ok_aload_n X (k := 0) rfl (by decide +kernel)), ?_⟩
  refine List.forall_mem_cons.mpr ⟨ae_mk pu_il (fun X => ok_iload X (by decide +kernel)), ?_⟩
  refine List.forall_mem_cons.mpr ⟨ae_mk (pu_push (fun _ => trivial)) (fun X => ok_iconst X (n := 1) (by decide) (by decide +kernel)), ?_⟩
  refine List.forall_mem_cons.mpr ⟨ae_mk pu_bin (fun X => ok_iadd X (by decide +kernel)), ?_⟩
  refine List.forall_mem_cons.mpr ⟨ae_mk pu_ia (fun X => ok_ia X (by decide +kernel)), ?_⟩
  refine List.forall_mem_cons.mpr ⟨ae_mk pu_al (fun X => ok_aload_n X (k := 0) rfl (by decide +kernel)), ?_⟩
  refine List.forall_mem_cons.mpr ⟨ae_mk pu_il (fun X => ok_iload X (by decide +kernel)), ?_⟩
  refine List.forall_mem_cons.mpr ⟨ae_mk (pu_push (fun _ => trivial)) (fun X => ok_iconst X (n := 2) (by decide) (by decide +kernel)), ?_⟩
  refine List.forall_mem_cons.mpr ⟨ae_mk pu_bin (fun X => ok_iadd X (by decide +kernel)), ?_⟩
  refine List.forall_mem_cons.mpr ⟨ae_mk pu_ia (fun X => ok_ia X (by decide +kernel)), ?_⟩
  refine List.forall_mem_cons.mpr ⟨ae_mk pu_al (fun X => ok_aload_n X (k := 0) rfl (by decide +kernel)), ?_⟩
  refine List.forall_mem_cons.mpr ⟨ae_mk pu_il (fun X => ok_iload X (by decide +kernel)), ?_⟩
  refine List.forall_mem_cons.mpr ⟨ae_mk (pu_push (fun _ => trivial)) (fun X => ok_iconst X (n := 3) (by decide) (by decide +kernel)), ?_⟩
  refine List.forall_mem_cons.mpr ⟨ae_mk pu_bin (fun X => ok_iadd X (by decide +kernel)), ?_⟩
  refine List.forall_mem_cons.mpr ⟨ae_mk pu_ia (fun X => ok_ia X (by decide +kernel)), ?_⟩
  refine List.forall_mem_cons.mpr ⟨ae_mk pu_al (fun X => ok_aload_n X (k := 0) rfl (by decide +kernel)), ?_⟩
  refine List.forall_mem_cons.mpr ⟨ae_mk pu_il (fun X => ok_iload X (by decide +kernel)), ?_⟩
  refine List.forall_mem_cons.mpr ⟨ae_mk (pu_push (fun _ => trivial)) (fun X => ok_iconst X (n := 4) (by decide) (by decide +kernel)), ?_⟩
  refine List.forall_mem_cons.mpr ⟨ae_mk pu_bin (fun X => ok_iadd X (by decide +kernel)), ?_⟩
  refine List.forall_mem_cons.mpr ⟨ae_mk pu_ia (fun X => ok_ia X (by decide +kernel)), ?_⟩
  refine List.forall_mem_cons.mpr ⟨ae_mk pu_al (fun X => ok_aload_n X (k := 0) rfl (by decide +kernel)), ?_⟩
  refine List.forall_mem_cons.mpr ⟨ae_mk pu_il (fun X => ok_iload X (by decide +kernel)), ?_⟩
  refine List.forall_mem_cons.mpr ⟨ae_mk (pu_push (fun _ => trivial)) (fun X => ok_iconst X (n := 5) (by decide) (by decide +kernel)), ?_⟩
  refine List.forall_mem_cons.mpr ⟨ae_mk pu_bin (fun X => ok_iadd X (by decide +kernel)), ?_⟩
  refine List.forall_mem_cons.mpr ⟨ae_mk pu_ia (fun X => ok_ia X (by decide +kernel)), ?_⟩
  refine List.forall_mem_cons.mpr ⟨ae_mk pu_al (fun X => ok_aload_n X (k := 0) rfl (by decide +kernel)), ?_⟩
  refine List.forall_mem_cons.mpr ⟨ae_mk pu_il (fun X => ok_iload X (by decide +kernel)), ?_⟩
  refine List.forall_mem_cons.mpr ⟨ae_mk (pu_push (fun _ => trivial)) (fun X => ok_bipush X (n := 6) (by decide) (by decide +kernel)), ?_⟩
  refine List.forall_mem_cons.mpr ⟨ae_mk pu_bin (fun X => ok_iadd X (by decide +kernel)), ?_⟩
  refine List.forall_mem_cons.mpr ⟨ae_mk pu_ia (fun X => ok_ia X (by decide +kernel)), ?_⟩
  refine List.forall_mem_cons.mpr ⟨ae_mkc (fun X => ok_callSW X (mid := 79) (index := 29) (y := my_79) rfl rfl (by decide) ⟨by decide, by decide⟩ (n := 7) (by decide +kernel) wd_501 wd_45 wd_499 wd_500 (by decide +kernel)), ?_⟩
  refine List.forall_mem_cons.mpr ⟨ae_mk pu_is (fun X => ok_istore X (by decide +kernel)), ?_⟩
  refine List.forall_mem_cons.mpr ⟨ae_mk pu_al (fun X => ok_aload_n X (k := 2) rfl (by decide +kernel)), ?_⟩
  refine List.forall_mem_cons.mpr ⟨ae_mk pu_al (fun X => ok_aload_n X (k := 0) rfl (by decide +kernel)), ?_⟩
  refine List.forall_mem_cons.mpr ⟨ae_mk pu_il (fun X => ok_iload X (by decide +kernel)), ?_⟩
  refine List.forall_mem_cons.mpr ⟨ae_mk (pu_push (fun _ => trivial)) (fun X => ok_iconst X (n := 1) (by decide) (by decide +kernel)), ?_⟩
  refine List.forall_mem_cons.mpr ⟨ae_mk pu_bin (fun X => ok_iadd X (by decide +kernel)), ?_⟩
  refine List.forall_mem_cons.mpr ⟨ae_mk pu_ia (fun X => ok_ia X (by decide +kernel)), ?_⟩
  refine List.forall_mem_cons.mpr ⟨ae_mk pu_al (fun X => ok_aload_n X (k := 0) rfl (by decide +kernel)), ?_⟩
  refine List.forall_mem_cons.mpr ⟨ae_mk pu_il (fun X => ok_iload X (by decide +kernel)), ?_⟩
  refine List.forall_mem_cons.mpr ⟨ae_mk (pu_push (fun _ => trivial)) (fun X => ok_iconst X (n := 2) (by decide) (by decide +kernel)), ?_⟩
  refine List.forall_mem_cons.mpr ⟨ae_mk pu_bin (fun X => ok_iadd X (by decide +kernel)), ?_⟩
  refine List.forall_mem_cons.mpr ⟨ae_mk pu_ia (fun X => ok_ia X (by decide +kernel)), ?_⟩
  refine List.forall_mem_cons.mpr ⟨ae_mk pu_al (fun X => ok_aload_n X (k := 0) rfl (by decide +kernel)), ?_⟩
  refine List.forall_mem_cons.mpr ⟨ae_mk pu_il (fun X => ok_iload X (by decide +kernel)), ?_⟩
  refine List.forall_mem_cons.mpr ⟨ae_mk (pu_push (fun _ => trivial)) (fun X => ok_iconst X (n := 3) (by decide) (by decide +kernel)), ?_⟩
  refine List.forall_mem_cons.mpr ⟨ae_mk pu_bin (fun X => ok_iadd X (by decide +kernel)), ?_⟩
  refine List.forall_mem_cons.mpr ⟨ae_mk pu_ia (fun X => ok_ia X (by decide +kernel)), ?_⟩
  refine List.forall_mem_cons.mpr ⟨ae_mk pu_al (fun X => ok_aload_n X (k := 0) rfl (by decide +kernel)), ?_⟩
  refine List.forall_mem_cons.mpr ⟨ae_mk pu_il (fun X => ok_iload X (by decide +kernel)), ?_⟩
  refine List.forall_mem_cons.mpr ⟨ae_mk (pu_push (fun _ => trivial)) (fun X => ok_iconst X (n := 4) (by decide) (by decide +kernel)), ?_⟩
  refine List.forall_mem_cons.mpr ⟨ae_mk pu_bin (fun X => ok_iadd X (by decide +kernel)), ?_⟩
  refine List.forall_mem_cons.mpr ⟨ae_mk pu_ia (fun X => ok_ia X (by decide +kernel)), ?_⟩
  refine List.forall_mem_cons.mpr ⟨ae_mk pu_al (fun X => ok_aload_n X (k := 0) rfl (by decide +kernel)), ?_⟩
  refine List.forall_mem_cons.mpr ⟨ae_mk pu_il (fun X => ok_iload X (by decide +kernel)), ?_⟩
  refine List.forall_mem_cons.mpr ⟨ae_mk (pu_push (fun _ => trivial)) (fun X => ok_iconst X (n := 5) (by decide) (by decide +kernel)), ?_⟩
  refine List.forall_mem_cons.mpr ⟨ae_mk pu_bin (fun X => ok_iadd X (by decide +kernel)), ?_⟩
  refine List.forall_mem_cons.mpr ⟨ae_mk pu_ia (fun X => ok_ia X (by decide +kernel)), ?_⟩
  refine List.forall_mem_cons.mpr ⟨ae_mk pu_al (fun X => ok_aload_n X (k := 0) rfl (by decide +kernel)), ?_⟩
  refine List.forall_mem_cons.mpr ⟨ae_mk pu_il (fun X => ok_iload X (by decide +kernel)), ?_⟩
  refine List.forall_mem_cons.mpr ⟨ae_mk (pu_push (fun _ => trivial)) (fun X => ok_bipush X (n := 6) (by decide) (by decide +kernel)), ?_⟩
  refine List.forall_mem_cons.mpr ⟨ae_mk pu_bin (fun X => ok_iadd X (by decide +kernel)), ?_⟩
  refine List.forall_mem_cons.mpr ⟨ae_mk pu_ia (fun X => ok_ia X (by decide +kernel)), ?_⟩
  refine List.forall_mem_cons.mpr ⟨ae_mkc (fun X => ok_callV X (mid := 97) (index := 34) (y := my_97) rfl (by decide) ⟨by decide, by decide⟩ (n := 6) (by decide +kernel) wd_908 wd_51 wd_905 wd_906 wd_907 (ci := 8) rfl (by decide +kernel)), ?_⟩
  refine List.forall_mem_cons.mpr ⟨ae_mk pu_al (fun X => ok_aload_n X (k := 2) rfl (by decide +kernel)), ?_⟩
  refine List.forall_mem_cons.mpr ⟨ae_mkc (fun X => ok_callV X (mid := 96) (index := 35) (y := my_96) rfl (by decide) ⟨by decide, by decide⟩ (n := 0) (by decide +kernel) wd_904 wd_51 wd_901 wd_902 wd_903 (ci := 8) rfl (by decide +kernel)), ?_⟩
  refine List.forall_mem_cons.mpr ⟨ae_mk pu_il (fun X => ok_iload X (by decide +kernel)), ?_⟩
  refine List.forall_mem_cons.mpr ⟨ae_mk pu_ic (fun X => ok_ic_eq X (off := 5) (by decide) (by decide +kernel)), ?_⟩
  refine List.forall_mem_cons.mpr ⟨ae_mk (pu_push (fun _ => trivial)) (fun X => ok_iconst X (n := 0) (by decide) (by decide +kernel)), ?_⟩
  refine List.forall_mem_cons.mpr ⟨Or.inr (Or.inl ⟨rfl, (by decide +kernel), rt_bool⟩), ?_⟩
  refine List.forall_mem_cons.mpr ⟨ae_mk pu_goto (fun X => ok_goto X (off := 594) (by decide) (by decide +kernel)), ?_⟩
  refine List.forall_mem_cons.mpr ⟨ae_mk pu_al (fun X => ok_aload_n X (k := 1) rfl (by decide +kernel)), ?_⟩
  refine List.forall_mem_cons.mpr ⟨ae_mk pu_al (fun X => ok_aload_n X (k := 0) rfl (by decide +kernel)), ?_⟩
  refine List.forall_mem_cons.mpr ⟨ae_mk pu_il (fun X => ok_iload X (by decide +kernel)), ?_⟩
  refine List.forall_mem_cons.mpr ⟨ae_mk (pu_push (fun _ => trivial)) (fun X => ok_iconst X (n := 1) (by decide) (by decide +kernel)), ?_⟩
  refine List.forall_mem_cons.mpr ⟨ae_mk pu_bin (fun X => ok_iadd X (by decide +kernel)), ?_⟩
  refine List.forall_mem_cons.mpr ⟨ae_mk pu_ia (fun X => ok_ia X (by decide +kernel)), ?_⟩
  refine List.forall_mem_cons.mpr ⟨ae_mk pu_al (fun X => ok_aload_n X (k := 0) rfl (by decide +kernel)), ?_⟩
  refine List.forall_mem_cons.mpr ⟨ae_mk pu_il (fun X => ok_iload X (by decide +kernel)), ?_⟩
  refine List.forall_mem_cons.mpr ⟨ae_mk (pu_push (fun _ => trivial)) (fun X => ok_iconst X (n := 2) (by decide) (by decide +kernel)), ?_⟩
  refine List.forall_mem_cons.mpr ⟨ae_mk pu_bin (fun X => ok_iadd X (by decide +kernel)), ?_⟩
  refine List.forall_mem_cons.mpr ⟨ae_mk pu_ia (fun X => ok_ia X (by decide +kernel)), ?_⟩
  refine List.forall_mem_cons.mpr ⟨ae_mk pu_al (fun X => ok_aload_n X (k := 0) rfl (by decide +kernel)), ?_⟩
  refine List.forall_mem_cons.mpr ⟨ae_mk pu_il (fun X => ok_iload X (by decide +kernel)), ?_⟩
  refine List.forall_mem_cons.mpr ⟨ae_mk (pu_push (fun _ => trivial)) (fun X => ok_iconst X (n := 3) (by decide) (by decide +kernel)), ?_⟩
  refine List.forall_mem_cons.mpr ⟨ae_mk pu_bin (fun X => ok_iadd X (by decide +kernel)), ?_⟩
  refine List.forall_mem_cons.mpr ⟨ae_mk pu_ia (fun X => ok_ia X (by decide +kernel)), ?_⟩
  refine List.forall_mem_cons.mpr ⟨ae_mk pu_al (fun X => ok_aload_n X (k := 3) rfl (by decide +kernel)), ?_⟩
  refine List.forall_mem_cons.mpr ⟨ae_mkc (fun X => ok_callSW X (mid := 86) (index := 39) (y := my_86) rfl rfl (by decide) ⟨by decide, by decide⟩ (n := 5) (by decide +kernel) wd_733 wd_45 wd_731 wd_732 (by decide +kernel)), ?_⟩
  refine List.forall_mem_cons.mpr ⟨ae_mk pu_is (fun X => ok_istore X (by decide +kernel)), ?_⟩
  refine List.forall_mem_cons.mpr ⟨ae_mk pu_al (fun X => ok_aload_n X (k := 2) rfl (by decide +kernel)), ?_⟩
  refine List.forall_mem_cons.mpr ⟨ae_mk pu_al (fun X => ok_aload_n X (k := 0) rfl (by decide +kernel)), ?_⟩
  refine List.forall_mem_cons.mpr ⟨ae_mk pu_il (fun X => ok_iload X (by decide +kernel)), ?_⟩
  refine List.forall_mem_cons.mpr ⟨ae_mk (pu_push (fun _ => trivial)) (fun X => ok_iconst X (n := 1) (by decide) (by decide +kernel)), ?_⟩
  refine List.forall_mem_cons.mpr ⟨ae_mk pu_bin (fun X => ok_iadd X (by decide +kernel)), ?_⟩
  refine List.forall_mem_cons.mpr ⟨ae_mk pu_ia (fun X => ok_ia X (by decide +kernel)), ?_⟩
  refine List.forall_mem_cons.mpr ⟨ae_mk pu_al (fun X => ok_aload_n X (k := 0) rfl (by decide +kernel)), ?_⟩
  refine List.forall_mem_cons.mpr ⟨ae_mk pu_il (fun X => ok_iload X (by decide +kernel)), ?_⟩
  refine List.forall_mem_cons.mpr ⟨ae_mk (pu_push (fun _ => trivial)) (fun X => ok_iconst X (n := 2) (by decide) (by decide +kernel)), ?_⟩
  refine List.forall_mem_cons.mpr ⟨ae_mk pu_bin (fun X => ok_iadd X (by decide +kernel)), ?_⟩
  refine List.forall_mem_cons.mpr ⟨ae_mk pu_ia (fun X => ok_ia X (by decide +kernel)), ?_⟩
  refine List.forall_mem_cons.mpr ⟨ae_mk pu_al (fun X => ok_aload_n X (k := 0) rfl (by decide +kernel)), ?_⟩
  refine List.forall_mem_cons.mpr ⟨ae_mk pu_il (fun X => ok_iload X (by decide +kernel)), ?_⟩
  refine List.forall_mem_cons.mpr ⟨ae_mk (pu_push (fun _ => trivial)) (fun X => ok_iconst X (n := 3) (by decide) (by decide +kernel)), ?_⟩
  refine List.forall_mem_cons.mpr ⟨ae_mk pu_bin (fun X => ok_iadd X (by decide +kernel)), ?_⟩
  refine List.forall_mem_cons.mpr ⟨ae_mk pu_ia (fun X => ok_ia X (by decide +kernel)), ?_⟩
  refine List.forall_mem_cons.mpr ⟨ae_mkc (fun X => ok_callV X (mid := 98) (index := 42) (y := my_98) rfl (by decide) ⟨by decide, by decide⟩ (n := 3) (by decide +kernel) wd_912 wd_51 wd_909 wd_910 wd_911 (ci := 8) rfl (by decide +kernel)), ?_⟩
  refine List.forall_mem_cons.mpr ⟨ae_mk pu_is (fun X => ok_istore X (by decide +kernel)), ?_⟩
  refine List.forall_mem_cons.mpr ⟨ae_mk pu_al (fun X => ok_aload_n X (k := 2) rfl (by decide +kernel)), ?_⟩
  refine List.forall_mem_cons.mpr ⟨ae_mkc (fun X => ok_callV X (mid := 96) (index := 35) (y := my_96) rfl (by decide) ⟨by decide, by decide⟩ (n := 0) (by decide +kernel) wd_904 wd_51 wd_901 wd_902 wd_903 (ci := 8) rfl (by decide +kernel)), ?_⟩
  refine List.forall_mem_cons.mpr ⟨ae_mk pu_il (fun X => ok_iload X (by decide +kernel)), ?_⟩
  refine List.forall_mem_cons.mpr ⟨ae_mk pu_ic (fun X => ok_ic_eq X (off := 5) (by decide) (by decide +kernel)), ?_⟩
  refine List.forall_mem_cons.mpr ⟨ae_mk (pu_push (fun _ => trivial)) (fun X => ok_iconst X (n := 0) (by decide) (by decide +kernel)), ?_⟩
  refine List.forall_mem_cons.mpr ⟨Or.inr (Or.inl ⟨rfl, (by decide +kernel), rt_bool⟩), ?_⟩
  refine List.forall_mem_cons.mpr ⟨ae_mk pu_il (fun X => ok_iload X (by decide +kernel)), ?_⟩
  refine List.forall_mem_cons.mpr ⟨ae_mk pu_if (fun X => ok_if_ne X (off := 15) (by decide) (by decide +kernel)), ?_⟩
  refine List.forall_mem_cons.mpr ⟨ae_mk pu_al (fun X => ok_aload_n X (k := 3) rfl (by decide +kernel)), ?_⟩
  refine List.forall_mem_cons.mpr ⟨ae_mk (pu_push (fun _ => trivial)) (fun X => ok_iconst X (n := 0) (by decide) (by decide +kernel)), ?_⟩
  refine List.forall_mem_cons.mpr ⟨ae_mk pu_la (fun X => ok_la X (by decide +kernel)), ?_⟩
  refine List.forall_mem_cons.mpr ⟨ae_mk pu_il (fun X => ok_iload X (by decide +kernel)), ?_⟩
  refine List.forall_mem_cons.mpr ⟨ae_mk pu_i2l (fun X => ok_i2l X (by decide +kernel)), ?_⟩
  refine List.forall_mem_cons.mpr ⟨ae_mk pu_lcmp (fun X => ok_lcmp X (by decide +kernel)), ?_⟩
  refine List.forall_mem_cons.mpr ⟨ae_mk pu_if (fun X => ok_if_eq X (off := 5) (by decide) (by decide +kernel)), ?_⟩
  refine List.forall_mem_cons.mpr ⟨ae_mk (pu_push (fun _ => trivial)) (fun X => ok_iconst X (n := 0) (by decide) (by decide +kernel)), ?_⟩
  refine List.forall_mem_cons.mpr ⟨Or.inr (Or.inl ⟨rfl, (by decide +kernel), rt_bool⟩), ?_⟩
  refine List.forall_mem_cons.mpr ⟨ae_mk pu_goto (fun X => ok_goto X (off := 514) (by decide) (by decide +kernel)), ?_⟩
  refine List.forall_mem_cons.mpr ⟨ae_mk pu_al (fun X => ok_aload_n X (k := 1) rfl (by decide +kernel)), ?_⟩
  refine List.forall_mem_cons.mpr ⟨ae_mk pu_al (fun X => ok_aload_n X (k := 0) rfl (by decide +kernel)), ?_⟩
  refine List.forall_mem_cons.mpr ⟨ae_mk pu_il (fun X => ok_iload X (by decide +kernel)), ?_⟩
  refine List.forall_mem_cons.mpr ⟨ae_mk (pu_push (fun _ => trivial)) (fun X => ok_iconst X (n := 1) (by decide) (by decide +kernel)), ?_⟩
  refine List.forall_mem_cons.mpr ⟨ae_mk pu_bin (fun X => ok_iadd X (by decide +kernel)), ?_⟩
  refine List.forall_mem_cons.mpr ⟨ae_mk pu_ia (fun X => ok_ia X (by decide +kernel)), ?_⟩
  refine List.forall_mem_cons.mpr ⟨ae_mkc (fun X => ok_callV X (mid := 6) (index := 43) (y := my_6) rfl (by decide) ⟨by decide, by decide⟩ (n := 1) (by decide +kernel) wd_186 wd_46 wd_183 wd_184 wd_185 (ci := 7) rfl (by decide +kernel)), ?_⟩
  refine List.forall_mem_cons.mpr ⟨ae_mk pu_al (fun X => ok_aload_n X (k := 2) rfl (by decide +kernel)), ?_⟩
  refine List.forall_mem_cons.mpr ⟨ae_mk pu_al (fun X => ok_aload_n X (k := 0) rfl (by decide +kernel)), ?_⟩
  refine List.forall_mem_cons.mpr ⟨ae_mk pu_il (fun X => ok_iload X (by decide +kernel)), ?_⟩
  refine List.forall_mem_cons.mpr ⟨ae_mk (pu_push (fun _ => trivial)) (fun X => ok_iconst X (n := 1) (by decide) (by decide +kernel)), ?_⟩
  refine List.forall_mem_cons.mpr ⟨ae_mk pu_bin (fun X => ok_iadd X (by decide +kernel)), ?_⟩
  refine List.forall_mem_cons.mpr ⟨ae_mk pu_ia (fun X => ok_ia X (by decide +kernel)), ?_⟩
  refine List.forall_mem_cons.mpr ⟨ae_mkc (fun X => ok_callV X (mid := 101) (index := 47) (y := my_101) rfl (by decide) ⟨by decide, by decide⟩ (n := 1) (by decide +kernel) wd_925 wd_51 wd_922 wd_923 wd_924 (ci := 8) rfl (by decide +kernel)), ?_⟩
  refine List.forall_mem_cons.mpr ⟨ae_mk pu_ic (fun X => ok_ic_eq X (off := 491) (by decide) (by decide +kernel)), ?_⟩
  refine List.forall_mem_cons.mpr ⟨ae_mk (pu_push (fun _ => trivial)) (fun X => ok_iconst X (n := 0) (by decide) (by decide +kernel)), ?_⟩
  refine List.forall_mem_cons.mpr ⟨Or.inr (Or.inl ⟨rfl, (by decide +kernel), rt_bool⟩), ?_⟩
  refine List.forall_mem_cons.mpr ⟨ae_mk pu_al (fun X => ok_aload_n X (k := 1) rfl (by decide +kernel)), ?_⟩
  refine List.forall_mem_cons.mpr ⟨ae_mk pu_al (fun X => ok_aload_n X (k := 0) rfl (by decide +kernel)), ?_⟩
  refine List.forall_mem_cons.mpr ⟨ae_mk pu_il (fun X => ok_iload X (by decide +kernel)), ?_⟩
  refine List.forall_mem_cons.mpr ⟨ae_mk (pu_push (fun _ => trivial)) (fun X => ok_iconst X (n := 1) (by decide) (by decide +kernel)), ?_⟩
  refine List.forall_mem_cons.mpr ⟨ae_mk pu_bin (fun X => ok_iadd X (by decide +kernel)), ?_⟩
  refine List.forall_mem_cons.mpr ⟨ae_mk pu_ia (fun X => ok_ia X (by decide +kernel)), ?_⟩
  refine List.forall_mem_cons.mpr ⟨ae_mk pu_al (fun X => ok_aload_n X (k := 0) rfl (by decide +kernel)), ?_⟩
  refine List.forall_mem_cons.mpr ⟨ae_mk pu_il (fun X => ok_iload X (by decide +kernel)), ?_⟩
  refine List.forall_mem_cons.mpr ⟨ae_mk (pu_push (fun _ => trivial)) (fun X => ok_iconst X (n := 2) (by decide) (by decide +kernel)), ?_⟩
  refine List.forall_mem_cons.mpr ⟨ae_mk pu_bin (fun X => ok_iadd X (by decide +kernel)), ?_⟩
  refine List.forall_mem_cons.mpr ⟨ae_mk pu_ia (fun X => ok_ia X (by decide +kernel)), ?_⟩
  refine List.forall_mem_cons.mpr ⟨ae_mk pu_al (fun X => ok_aload_n X (k := 3) rfl (by decide +kernel)), ?_⟩
  refine List.forall_mem_cons.mpr ⟨ae_mkc (fun X => ok_callSW X (mid := 91) (index := 48) (y := my_91) rfl rfl (by decide) ⟨by decide, by decide⟩ (n := 4) (by decide +kernel) wd_754 wd_45 wd_752 wd_753 (by decide +kernel)), ?_⟩
  refine List.forall_mem_cons.mpr ⟨ae_mk pu_is (fun X => ok_istore X (by decide +kernel)), ?_⟩
  refine List.forall_mem_cons.mpr ⟨ae_mk pu_al (fun X => ok_aload_n X (k := 2) rfl (by decide +kernel)), ?_⟩
  refine List.forall_mem_cons.mpr ⟨ae_mk pu_al (fun X => ok_aload_n X (k := 0) rfl (by decide +kernel)), ?_⟩
  refine List.forall_mem_cons.mpr ⟨ae_mk pu_il (fun X => ok_iload X (by decide +kernel)), ?_⟩
  refine List.forall_mem_cons.mpr ⟨ae_mk (pu_push (fun _ => trivial)) (fun X => ok_iconst X (n := 1) (by decide) (by decide +kernel)), ?_⟩
  refine List.forall_mem_cons.mpr ⟨ae_mk pu_bin (fun X => ok_iadd X (by decide +kernel)), ?_⟩
  refine List.forall_mem_cons.mpr ⟨ae_mk pu_ia (fun X => ok_ia X (by decide +kernel)), ?_⟩
  refine List.forall_mem_cons.mpr ⟨ae_mk pu_al (fun X => ok_aload_n X (k := 0) rfl (by decide +kernel)), ?_⟩
  refine List.forall_mem_cons.mpr ⟨ae_mk pu_il (fun X => ok_iload X (by decide +kernel)), ?_⟩
  refine List.forall_mem_cons.mpr ⟨ae_mk (pu_push (fun _ => trivial)) (fun X => ok_iconst X (n := 2) (by decide) (by decide +kernel)), ?_⟩
  refine List.forall_mem_cons.mpr ⟨ae_mk pu_bin (fun X => ok_iadd X (by decide +kernel)), ?_⟩
  refine List.forall_mem_cons.mpr ⟨ae_mk pu_ia (fun X => ok_ia X (by decide +kernel)), ?_⟩
  refine List.forall_mem_cons.mpr ⟨ae_mkc (fun X => ok_callV X (mid := 130) (index := 51) (y := my_130) rfl (by decide) ⟨by decide, by decide⟩ (n := 2) (by decide +kernel) wd_1038 wd_51 wd_1035 wd_1036 wd_1037 (ci := 8) rfl (by decide +kernel)), ?_⟩
  refine List.forall_mem_cons.mpr ⟨ae_mk pu_is (fun X => ok_istore X (by decide +kernel)), ?_⟩
  refine List.forall_mem_cons.mpr ⟨ae_mk pu_al (fun X => ok_aload_n X (k := 2) rfl (by decide +kernel)), ?_⟩
  refine List.forall_mem_cons.mpr ⟨ae_mkc (fun X => ok_callV X (mid := 96) (index := 35) (y := my_96) rfl (by decide) ⟨by decide, by decide⟩ (n := 0) (by decide +kernel) wd_904 wd_51 wd_901 wd_902 wd_903 (ci := 8) rfl (by decide +kernel)), ?_⟩
  refine List.forall_mem_cons.mpr ⟨ae_mk pu_il (fun X => ok_iload X (by decide +kernel)), ?_⟩
  refine List.forall_mem_cons.mpr ⟨ae_mk pu_ic (fun X => ok_ic_eq X (off := 5) (by decide) (by decide +kernel)), ?_⟩
  refine List.forall_mem_cons.mpr ⟨ae_mk (pu_push (fun _ => trivial)) (fun X => ok_iconst X (n := 0) (by decide) (by decide +kernel)), ?_⟩
  refine List.forall_mem_cons.mpr ⟨Or.inr (Or.inl ⟨rfl, (by decide +kernel), rt_bool⟩), ?_⟩
  refine List.forall_mem_cons.mpr ⟨ae_mk pu_il (fun X => ok_iload X (by decide +kernel)), ?_⟩
  refine List.forall_mem_cons.mpr ⟨ae_mk pu_if (fun X => ok_if_ne X (off := 15) (by decide) (by decide +kernel)), ?_⟩
  refine List.forall_mem_cons.mpr ⟨ae_mk pu_al (fun X => ok_aload_n X (k := 3) rfl (by decide +kernel)), ?_⟩
  refine List.forall_mem_cons.mpr ⟨ae_mk (pu_push (fun _ => trivial)) (fun X => ok_iconst X (n := 0) (by decide) (by decide +kernel)), ?_⟩
  refine List.forall_mem_cons.mpr ⟨ae_mk pu_la (fun X => ok_la X (by decide +kernel)), ?_⟩
  refine List.forall_mem_cons.mpr ⟨ae_mk pu_il (fun X => ok_iload X (by decide +kernel)), ?_⟩
  refine List.forall_mem_cons.mpr ⟨ae_mk pu_i2l (fun X => ok_i2l X (by decide +kernel)), ?_⟩
  refine List.forall_mem_cons.mpr ⟨ae_mk pu_lcmp (fun X => ok_lcmp X (by decide +kernel)), ?_⟩
  refine List.forall_mem_cons.mpr ⟨ae_mk pu_if (fun X => ok_if_eq X (off := 5) (by decide) (by decide +kernel)), ?_⟩
  refine List.forall_mem_cons.mpr ⟨ae_mk (pu_push (fun _ => trivial)) (fun X => ok_iconst X (n := 0) (by decide) (by decide +kernel)), ?_⟩
  refine List.forall_mem_cons.mpr ⟨Or.inr (Or.inl ⟨rfl, (by decide +kernel), rt_bool⟩), ?_⟩
  refine List.forall_mem_cons.mpr ⟨ae_mk pu_goto (fun X => ok_goto X (off := 421) (by decide) (by decide +kernel)), ?_⟩
  refine List.forall_mem_cons.mpr ⟨ae_mk pu_al (fun X => ok_aload_n X (k := 1) rfl (by decide +kernel)), ?_⟩
  refine List.forall_mem_cons.mpr ⟨ae_mk pu_al (fun X => ok_aload_n X (k := 0) rfl (by decide +kernel)), ?_⟩
  refine List.forall_mem_cons.mpr ⟨ae_mk pu_il (fun X => ok_iload X (by decide +kernel)), ?_⟩
  refine List.forall_mem_cons.mpr ⟨ae_mk (pu_push (fun _ => trivial)) (fun X => ok_iconst X (n := 1) (by decide) (by decide +kernel)), ?_⟩
  refine List.forall_mem_cons.mpr ⟨ae_mk pu_bin (fun X => ok_iadd X (by decide +kernel)), ?_⟩
  refine List.forall_mem_cons.mpr ⟨ae_mk pu_ia (fun X => ok_ia X (by decide +kernel)), ?_⟩
  refine List.forall_mem_cons.mpr ⟨ae_mkc (fun X => ok_callV X (mid := 63) (index := 52) (y := my_63) rfl (by decide) ⟨by decide, by decide⟩ (n := 1) (by decide +kernel) wd_435 wd_46 wd_432 wd_433 wd_434 (ci := 7) rfl (by decide +kernel)), ?_⟩
  refine List.forall_mem_cons.mpr ⟨ae_mk pu_al (fun X => ok_aload_n X (k := 2) rfl (by decide +kernel)), ?_⟩
  refine List.forall_mem_cons.mpr ⟨ae_mk pu_al (fun X => ok_aload_n X (k := 0) rfl (by decide +kernel)), ?_⟩
  refine List.forall_mem_cons.mpr ⟨ae_mk pu_il (fun X => ok_iload X (by decide +kernel)), ?_⟩
  refine List.forall_mem_cons.mpr ⟨ae_mk (pu_push (fun _ => trivial)) (fun X => ok_iconst X (n := 1) (by decide) (by decide +kernel)), ?_⟩
  refine List.forall_mem_cons.mpr ⟨ae_mk pu_bin (fun X => ok_iadd X (by decide +kernel)), ?_⟩
  refine List.forall_mem_cons.mpr ⟨ae_mk pu_ia (fun X => ok_ia X (by decide +kernel)), ?_⟩
  refine List.forall_mem_cons.mpr ⟨ae_mkc (fun X => ok_callV X (mid := 131) (index := 55) (y := my_131) rfl (by decide) ⟨by decide, by decide⟩ (n := 1) (by decide +kernel) wd_1042 wd_51 wd_1039 wd_1040 wd_1041 (ci := 8) rfl (by decide +kernel)), ?_⟩
  refine List.forall_mem_cons.mpr ⟨ae_mk pu_ic (fun X => ok_ic_eq X (off := 398) (by decide) (by decide +kernel)), ?_⟩
  refine List.forall_mem_cons.mpr ⟨ae_mk (pu_push (fun _ => trivial)) (fun X => ok_iconst X (n := 0) (by decide) (by decide +kernel)), ?_⟩
  refine List.forall_mem_cons.mpr ⟨Or.inr (Or.inl ⟨rfl, (by decide +kernel), rt_bool⟩), ?_⟩
  refine List.forall_mem_cons.mpr ⟨ae_mk pu_al (fun X => ok_aload_n X (k := 1) rfl (by decide +kernel)), ?_⟩
  refine List.forall_mem_cons.mpr ⟨ae_mk pu_al (fun X => ok_aload_n X (k := 0) rfl (by decide +kernel)), ?_⟩
  refine List.forall_mem_cons.mpr ⟨ae_mk pu_il (fun X => ok_iload X (by decide +kernel)), ?_⟩
  refine List.forall_mem_cons.mpr ⟨ae_mk (pu_push (fun _ => trivial)) (fun X => ok_iconst X (n := 1) (by decide) (by decide +kernel)), ?_⟩
  refine List.forall_mem_cons.mpr ⟨ae_mk pu_bin (fun X => ok_iadd X (by decide +kernel)), ?_⟩
  refine List.forall_mem_cons.mpr ⟨ae_mk pu_ia (fun X => ok_ia X (by decide +kernel)), ?_⟩
  refine List.forall_mem_cons.mpr ⟨ae_mk pu_al (fun X => ok_aload_n X (k := 0) rfl (by decide +kernel)), ?_⟩
  refine List.forall_mem_cons.mpr ⟨ae_mk pu_il (fun X => ok_iload X (by decide +kernel)), ?_⟩
  refine List.forall_mem_cons.mpr ⟨ae_mk (pu_push (fun _ => trivial)) (fun X => ok_iconst X (n := 2) (by decide) (by decide +kernel)), ?_⟩
  refine List.forall_mem_cons.mpr ⟨ae_mk pu_bin (fun X => ok_iadd X (by decide +kernel)), ?_⟩
  refine List.forall_mem_cons.mpr ⟨ae_mk pu_ia (fun X => ok_ia X (by decide +kernel)), ?_⟩
  refine List.forall_mem_cons.mpr ⟨ae_mkc (fun X => ok_callV X (mid := 64) (index := 56) (y := my_64) rfl (by decide) ⟨by decide, by decide⟩ (n := 2) (by decide +kernel) wd_440 wd_46 wd_437 wd_438 wd_439 (ci := 7) rfl (by decide +kernel)), ?_⟩
  refine List.forall_mem_cons.mpr ⟨ae_mk pu_al (fun X => ok_aload_n X (k := 2) rfl (by decide +kernel)), ?_⟩
  refine List.forall_mem_cons.mpr ⟨ae_mk pu_al (fun X => ok_aload_n X (k := 0) rfl (by decide +kernel)), ?_⟩
  refine List.forall_mem_cons.mpr ⟨ae_mk pu_il (fun X => ok_iload X (by decide +kernel)), ?_⟩
  refine List.forall_mem_cons.mpr ⟨ae_mk (pu_push (fun _ => trivial)) (fun X => ok_iconst X (n := 1) (by decide) (by decide +kernel)), ?_⟩
  refine List.forall_mem_cons.mpr ⟨ae_mk pu_bin (fun X => ok_iadd X (by decide +kernel)), ?_⟩
  refine List.forall_mem_cons.mpr ⟨ae_mk pu_ia (fun X => ok_ia X (by decide +kernel)), ?_⟩
  refine List.forall_mem_cons.mpr ⟨ae_mk pu_al (fun X => ok_aload_n X (k := 0) rfl (by decide +kernel)), ?_⟩
  refine List.forall_mem_cons.mpr ⟨ae_mk pu_il (fun X => ok_iload X (by decide +kernel)), ?_⟩
  refine List.forall_mem_cons.mpr ⟨ae_mk (pu_push (fun _ => trivial)) (fun X => ok_iconst X (n := 2) (by decide) (by decide +kernel)), ?_⟩
  refine List.forall_mem_cons.mpr ⟨ae_mk pu_bin (fun X => ok_iadd X (by decide +kernel)), ?_⟩
  refine List.forall_mem_cons.mpr ⟨ae_mk pu_ia (fun X => ok_ia X (by decide +kernel)), ?_⟩
  refine List.forall_mem_cons.mpr ⟨ae_mkc (fun X => ok_callV X (mid := 132) (index := 59) (y := my_132) rfl (by decide) ⟨by decide, by decide⟩ (n := 2) (by decide +kernel) wd_1046 wd_51 wd_1043 wd_1044 wd_1045 (ci := 8) rfl (by decide +kernel)), ?_⟩
  refine List.forall_mem_cons.mpr ⟨ae_mk pu_ic (fun X => ok_ic_eq X (off := 361) (by decide) (by decide +kernel)), ?_⟩
  refine List.forall_mem_cons.mpr ⟨ae_mk (pu_push (fun _ => trivial)) (fun X => ok_iconst X (n := 0) (by decide) (by decide +kernel)), ?_⟩
  refine List.forall_mem_cons.mpr ⟨Or.inr (Or.inl ⟨rfl, (by decide +kernel), rt_bool⟩), ?_⟩
  refine List.forall_mem_cons.mpr ⟨ae_mk pu_al (fun X => ok_aload_n X (k := 1) rfl (by decide +kernel)), ?_⟩
  refine List.forall_mem_cons.mpr ⟨ae_mk pu_al (fun X => ok_aload_n X (k := 0) rfl (by decide +kernel)), ?_⟩
  refine List.forall_mem_cons.mpr ⟨ae_mk pu_il (fun X => ok_iload X (by decide +kernel)), ?_⟩
  refine List.forall_mem_cons.mpr ⟨ae_mk (pu_push (fun _ => trivial)) (fun X => ok_iconst X (n := 1) (by decide) (by decide +kernel)), ?_⟩
  refine List.forall_mem_cons.mpr ⟨ae_mk pu_bin (fun X => ok_iadd X (by decide +kernel)), ?_⟩
  refine List.forall_mem_cons.mpr ⟨ae_mk pu_ia (fun X => ok_ia X (by decide +kernel)), ?_⟩
  refine List.forall_mem_cons.mpr ⟨ae_mk pu_al (fun X => ok_aload_n X (k := 0) rfl (by decide +kernel)), ?_⟩
  refine List.forall_mem_cons.mpr ⟨ae_mk pu_il (fun X => ok_iload X (by decide +kernel)), ?_⟩
  refine List.forall_mem_cons.mpr ⟨ae_mk (pu_push (fun _ => trivial)) (fun X => ok_iconst X (n := 2) (by decide) (by decide +kernel)), ?_⟩
  refine List.forall_mem_cons.mpr ⟨ae_mk pu_bin (fun X => ok_iadd X (by decide +kernel)), ?_⟩
  refine List.forall_mem_cons.mpr ⟨ae_mk pu_ia (fun X => ok_ia X (by decide +kernel)), ?_⟩
  refine List.forall_mem_cons.mpr ⟨ae_mk pu_al (fun X => ok_aload_n X (k := 0) rfl (by decide +kernel)), ?_⟩
  refine List.forall_mem_cons.mpr ⟨ae_mk pu_il (fun X => ok_iload X (by decide +kernel)), ?_⟩
  refine List.forall_mem_cons.mpr ⟨ae_mk (pu_push (fun _ => trivial)) (fun X => ok_iconst X (n := 3) (by decide) (by decide +kernel)), ?_⟩
  refine List.forall_mem_cons.mpr ⟨ae_mk pu_bin (fun X => ok_iadd X (by decide +kernel)), ?_⟩
  refine List.forall_mem_cons.mpr ⟨ae_mk pu_ia (fun X => ok_ia X (by decide +kernel)), ?_⟩
  refine List.forall_mem_cons.mpr ⟨ae_mk pu_al (fun X => ok_aload_n X (k := 0) rfl (by decide +kernel)), ?_⟩
  refine List.forall_mem_cons.mpr ⟨ae_mk pu_il (fun X => ok_iload X (by decide +kernel)), ?_⟩
  refine List.forall_mem_cons.mpr ⟨ae_mk (pu_push (fun _ => trivial)) (fun X => ok_iconst X (n := 4) (by decide) (by decide +kernel)), ?_⟩
  refine List.forall_mem_cons.mpr ⟨ae_mk pu_bin (fun X => ok_iadd X (by decide +kernel)), ?_⟩
  refine List.forall_mem_cons.mpr ⟨ae_mk pu_ia (fun X => ok_ia X (by decide +kernel)), ?_⟩
  refine List.forall_mem_cons.mpr ⟨ae_mkc (fun X => ok_callV X (mid := 67) (index := 60) (y := my_67) rfl (by decide) ⟨by decide, by decide⟩ (n := 4) (by decide +kernel) wd_452 wd_46 wd_449 wd_450 wd_451 (ci := 7) rfl (by decide +kernel)), ?_⟩
  refine List.forall_mem_cons.mpr ⟨ae_mk pu_al (fun X => ok_aload_n X (k := 2) rfl (by decide +kernel)), ?_⟩
  refine List.forall_mem_cons.mpr ⟨ae_mk pu_al (fun X => ok_aload_n X (k := 0) rfl (by decide +kernel)), ?_⟩
  refine List.forall_mem_cons.mpr ⟨ae_mk pu_il (fun X => ok_iload X (by decide +kernel)), ?_⟩
  refine List.forall_mem_cons.mpr ⟨ae_mk (pu_push (fun _ => trivial)) (fun X => ok_iconst X (n := 1) (by decide) (by decide +kernel)), ?_⟩
  refine List.forall_mem_cons.mpr ⟨ae_mk pu_bin (fun X => ok_iadd X (by decide +kernel)), ?_⟩
  refine List.forall_mem_cons.mpr ⟨ae_mk pu_ia (fun X => ok_ia X (by decide +kernel)), ?_⟩
  refine List.forall_mem_cons.mpr ⟨ae_mk pu_al (fun X => ok_aload_n X (k := 0) rfl (by decide +kernel)), ?_⟩
  refine List.forall_mem_cons.mpr ⟨ae_mk pu_il (fun X => ok_iload X (by decide +kernel)), ?_⟩
  refine List.forall_mem_cons.mpr ⟨ae_mk (pu_push (fun _ => trivial)) (fun X => ok_iconst X (n := 2) (by decide) (by decide +kernel)), ?_⟩
  refine List.forall_mem_cons.mpr ⟨ae_mk pu_bin (fun X => ok_iadd X (by decide +kernel)), ?_⟩
  refine List.forall_mem_cons.mpr ⟨ae_mk pu_ia (fun X => ok_ia X (by decide +kernel)), ?_⟩
  refine List.forall_mem_cons.mpr ⟨ae_mk pu_al (fun X => ok_aload_n X (k := 0) rfl (by decide +kernel)), ?_⟩
  refine List.forall_mem_cons.mpr ⟨ae_mk pu_il (fun X => ok_iload X (by decide +kernel)), ?_⟩
  refine List.forall_mem_cons.mpr ⟨ae_mk (pu_push (fun _ => trivial)) (fun X => ok_iconst X (n := 3) (by decide) (by decide +kernel)), ?_⟩
  refine List.forall_mem_cons.mpr ⟨ae_mk pu_bin (fun X => ok_iadd X (by decide +kernel)), ?_⟩
  refine List.forall_mem_cons.mpr ⟨ae_mk pu_ia (fun X => ok_ia X (by decide +kernel)), ?_⟩
  refine List.forall_mem_cons.mpr ⟨ae_mk pu_al (fun X => ok_aload_n X (k := 0) rfl (by decide +kernel)), ?_⟩
  refine List.forall_mem_cons.mpr ⟨ae_mk pu_il (fun X => ok_iload X (by decide +kernel)), ?_⟩
  refine List.forall_mem_cons.mpr ⟨ae_mk (pu_push (fun _ => trivial)) (fun X => ok_iconst X (n := 4) (by decide) (by decide +kernel)), ?_⟩
  refine List.forall_mem_cons.mpr ⟨ae_mk pu_bin (fun X => ok_iadd X (by decide +kernel)), ?_⟩
  refine List.forall_mem_cons.mpr ⟨ae_mk pu_ia (fun X => ok_ia X (by decide +kernel)), ?_⟩
  refine List.forall_mem_cons.mpr ⟨ae_mkc (fun X => ok_callV X (mid := 133) (index := 64) (y := my_133) rfl (by decide) ⟨by decide, by decide⟩ (n := 4) (by decide +kernel) wd_1050 wd_51 wd_1047 wd_1048 wd_1049 (ci := 8) rfl (by decide +kernel)), ?_⟩
  refine List.forall_mem_cons.mpr ⟨ae_mk pu_ic (fun X => ok_ic_eq X (off := 300) (by decide) (by decide +kernel)), ?_⟩
  refine List.forall_mem_cons.mpr ⟨ae_mk (pu_push (fun _ => trivial)) (fun X => ok_iconst X (n := 0) (by decide) (by decide +kernel)), ?_⟩
  refine List.forall_mem_cons.mpr ⟨Or.inr (Or.inl ⟨rfl, (by decide +kernel), rt_bool⟩), ?_⟩
  refine List.forall_mem_cons.mpr ⟨ae_mk pu_al (fun X => ok_aload_n X (k := 1) rfl (by decide +kernel)), ?_⟩
  refine List.forall_mem_cons.mpr ⟨ae_mk pu_al (fun X => ok_aload_n X (k := 0) rfl (by decide +kernel)), ?_⟩
  refine List.forall_mem_cons.mpr ⟨ae_mk pu_il (fun X => ok_iload X (by decide +kernel)), ?_⟩
  refine List.forall_mem_cons.mpr ⟨ae_mk (pu_push (fun _ => trivial)) (fun X => ok_iconst X (n := 1) (by decide) (by decide +kernel)), ?_⟩
  refine List.forall_mem_cons.mpr ⟨ae_mk pu_bin (fun X => ok_iadd X (by decide +kernel)), ?_⟩
  refine List.forall_mem_cons.mpr ⟨ae_mk pu_ia (fun X => ok_ia X (by decide +kernel)), ?_⟩
  refine List.forall_mem_cons.mpr ⟨ae_mk pu_al (fun X => ok_aload_n X (k := 0) rfl (by decide +kernel)), ?_⟩
  refine List.forall_mem_cons.mpr ⟨ae_mk pu_il (fun X => ok_iload X (by decide +kernel)), ?_⟩
  refine List.forall_mem_cons.mpr ⟨ae_mk (pu_push (fun _ => trivial)) (fun X => ok_iconst X (n := 2) (by decide) (by decide +kernel)), ?_⟩
  refine List.forall_mem_cons.mpr ⟨ae_mk pu_bin (fun X => ok_iadd X (by decide +kernel)), ?_⟩
  refine List.forall_mem_cons.mpr ⟨ae_mk pu_ia (fun X => ok_ia X (by decide +kernel)), ?_⟩
  refine List.forall_mem_cons.mpr ⟨ae_mk pu_al (fun X => ok_aload_n X (k := 0) rfl (by decide +kernel)), ?_⟩
  refine List.forall_mem_cons.mpr ⟨ae_mk pu_il (fun X => ok_iload X (by decide +kernel)), ?_⟩
  refine List.forall_mem_cons.mpr ⟨ae_mk (pu_push (fun _ => trivial)) (fun X => ok_iconst X (n := 3) (by decide) (by decide +kernel)), ?_⟩
  refine List.forall_mem_cons.mpr ⟨ae_mk pu_bin (fun X => ok_iadd X (by decide +kernel)), ?_⟩
  refine List.forall_mem_cons.mpr ⟨ae_mk pu_ia (fun X => ok_ia X (by decide +kernel)), ?_⟩
  refine List.forall_mem_cons.mpr ⟨ae_mk pu_al (fun X => ok_aload_n X (k := 0) rfl (by decide +kernel)), ?_⟩
  refine List.forall_mem_cons.mpr ⟨ae_mk pu_il (fun X => ok_iload X (by decide +kernel)), ?_⟩
  refine List.forall_mem_cons.mpr ⟨ae_mk (pu_push (fun _ => trivial)) (fun X => ok_iconst X (n := 4) (by decide) (by decide +kernel)), ?_⟩
  refine List.forall_mem_cons.mpr ⟨ae_mk pu_bin (fun X => ok_iadd X (by decide +kernel)), ?_⟩
  refine List.forall_mem_cons.mpr ⟨ae_mk pu_ia (fun X => ok_ia X (by decide +kernel)), ?_⟩
  refine List.forall_mem_cons.mpr ⟨ae_mk pu_al (fun X => ok_aload_n X (k := 0) rfl (by decide +kernel)), ?_⟩
  refine List.forall_mem_cons.mpr ⟨ae_mk pu_il (fun X => ok_iload X (by decide +kernel)), ?_⟩
  refine List.forall_mem_cons.mpr ⟨ae_mk (pu_push (fun _ => trivial)) (fun X => ok_iconst X (n := 5) (by decide) (by decide +kernel)), ?_⟩
  refine List.forall_mem_cons.mpr ⟨ae_mk pu_bin (fun X => ok_iadd X (by decide +kernel)), ?_⟩
  refine List.forall_mem_cons.mpr ⟨ae_mk pu_ia (fun X => ok_ia X (by decide +kernel)), ?_⟩
  refine List.forall_mem_cons.mpr ⟨ae_mkc (fun X => ok_callV X (mid := 69) (index := 65) (y := my_69) rfl (by decide) ⟨by decide, by decide⟩ (n := 5) (by decide +kernel) wd_461 wd_46 wd_458 wd_459 wd_460 (ci := 7) rfl (by decide +kernel)), ?_⟩
  refine List.forall_mem_cons.mpr ⟨ae_mk pu_al (fun X => ok_aload_n X (k := 2) rfl (by decide +kernel)), ?_⟩
  refine List.forall_mem_cons.mpr ⟨ae_mk pu_al (fun X => ok_aload_n X (k := 0) rfl (by decide +kernel)), ?_⟩
  refine List.forall_mem_cons.mpr ⟨ae_mk pu_il (fun X => ok_iload X (by decide +kernel)), ?_⟩
  refine List.forall_mem_cons.mpr ⟨ae_mk (pu_push (fun _ => trivial)) (fun X => ok_iconst X (n := 1) (by decide) (by decide +kernel)), ?_⟩
  refine List.forall_mem_cons.mpr ⟨ae_mk pu_bin (fun X => ok_iadd X (by decide +kernel)), ?_⟩
  refine List.forall_mem_cons.mpr ⟨ae_mk pu_ia (fun X => ok_ia X (by decide +kernel)), ?_⟩
  refine List.forall_mem_cons.mpr ⟨ae_mk pu_al (fun X => ok_aload_n X (k := 0) rfl (by decide +kernel)), ?_⟩
  refine List.forall_mem_cons.mpr ⟨ae_mk pu_il (fun X => ok_iload X (by decide +kernel)), ?_⟩
  refine List.forall_mem_cons.mpr ⟨ae_mk (pu_push (fun _ => trivial)) (fun X => ok_iconst X (n := 2) (by decide) (by decide +kernel)), ?_⟩
  refine List.forall_mem_cons.mpr ⟨ae_mk pu_bin (fun X => ok_iadd X (by decide +kernel)), ?_⟩
  refine List.forall_mem_cons.mpr ⟨ae_mk pu_ia (fun X => ok_ia X (by decide +kernel)), ?_⟩
  refine List.forall_mem_cons.mpr ⟨ae_mk pu_al (fun X => ok_aload_n X (k := 0) rfl (by decide +kernel)), ?_⟩
  refine List.forall_mem_cons.mpr ⟨ae_mk pu_il (fun X => ok_iload X (by decide +kernel)), ?_⟩
  refine List.forall_mem_cons.mpr ⟨ae_mk (pu_push (fun _ => trivial)) (fun X => ok_iconst X (n := 3) (by decide) (by decide +kernel)), ?_⟩
  refine List.forall_mem_cons.mpr ⟨ae_mk pu_bin (fun X => ok_iadd X (by decide +kernel)), ?_⟩
  refine List.forall_mem_cons.mpr ⟨ae_mk pu_ia (fun X => ok_ia X (by decide +kernel)), ?_⟩
  refine List.forall_mem_cons.mpr ⟨ae_mk pu_al (fun X => ok_aload_n X (k := 0) rfl (by decide +kernel)), ?_⟩
  refine List.forall_mem_cons.mpr ⟨ae_mk pu_il (fun X => ok_iload X (by decide +kernel)), ?_⟩
  refine List.forall_mem_cons.mpr ⟨ae_mk (pu_push (fun _ => trivial)) (fun X => ok_iconst X (n := 4) (by decide) (by decide +kernel)), ?_⟩
  refine List.forall_mem_cons.mpr ⟨ae_mk pu_bin (fun X => ok_iadd X (by decide +kernel)), ?_⟩
  refine List.forall_mem_cons.mpr ⟨ae_mk pu_ia (fun X => ok_ia X (by decide +kernel)), ?_⟩
  refine List.forall_mem_cons.mpr ⟨ae_mk pu_al (fun X => ok_aload_n X (k := 0) rfl (by decide +kernel)), ?_⟩
  refine List.forall_mem_cons.mpr ⟨ae_mk pu_il (fun X => ok_iload X (by decide +kernel)), ?_⟩
  refine List.forall_mem_cons.mpr ⟨ae_mk (pu_push (fun _ => trivial)) (fun X => ok_iconst X (n := 5) (by decide) (by decide +kernel)), ?_⟩
  refine List.forall_mem_cons.mpr ⟨ae_mk pu_bin (fun X => ok_iadd X (by decide +kernel)), ?_⟩
  refine List.forall_mem_cons.mpr ⟨ae_mk pu_ia (fun X => ok_ia X (by decide +kernel)), ?_⟩
  refine List.forall_mem_cons.mpr ⟨ae_mkc (fun X => ok_callV X (mid := 135) (index := 69) (y := my_135) rfl (by decide) ⟨by decide, by decide⟩ (n := 5) (by decide +kernel) wd_1058 wd_51 wd_1055 wd_1056 wd_1057 (ci := 8) rfl (by decide +kernel)), ?_⟩
  refine List.forall_mem_cons.mpr ⟨ae_mk pu_ic (fun X => ok_ic_eq X (off := 227) (by decide) (by decide +kernel)), ?_⟩
  refine List.forall_mem_cons.mpr ⟨ae_mk (pu_push (fun _ => trivial)) (fun X => ok_iconst X (n := 0) (by decide) (by decide +kernel)), ?_⟩
  refine List.forall_mem_cons.mpr ⟨Or.inr (Or.inl ⟨rfl, (by decide +kernel), rt_bool⟩), ?_⟩
  refine List.forall_mem_cons.mpr ⟨ae_mk pu_al (fun X => ok_aload_n X (k := 1) rfl (by decide +kernel)), ?_⟩
  refine List.forall_mem_cons.mpr ⟨ae_mk pu_al (fun X => ok_aload_n X (k := 0) rfl (by decide +kernel)), ?_⟩
  refine List.forall_mem_cons.mpr ⟨ae_mk pu_il (fun X => ok_iload X (by decide +kernel)), ?_⟩
  refine List.forall_mem_cons.mpr ⟨ae_mk (pu_push (fun _ => trivial)) (fun X => ok_iconst X (n := 1) (by decide) (by decide +kernel)), ?_⟩
  refine List.forall_mem_cons.mpr ⟨ae_mk pu_bin (fun X => ok_iadd X (by decide +kernel)), ?_⟩
  refine List.forall_mem_cons.mpr ⟨ae_mk pu_ia (fun X => ok_ia X (by decide +kernel)), ?_⟩
  refine List.forall_mem_cons.mpr ⟨ae_mk pu_al (fun X => ok_aload_n X (k := 0) rfl (by decide +kernel)), ?_⟩
  refine List.forall_mem_cons.mpr ⟨ae_mk pu_il (fun X => ok_iload X (by decide +kernel)), ?_⟩
  refine List.forall_mem_cons.mpr ⟨ae_mk (pu_push (fun _ => trivial)) (fun X => ok_iconst X (n := 2) (by decide) (by decide +kernel)), ?_⟩
  refine List.forall_mem_cons.mpr ⟨ae_mk pu_bin (fun X => ok_iadd X (by decide +kernel)), ?_⟩
  refine List.forall_mem_cons.mpr ⟨ae_mk pu_ia (fun X => ok_ia X (by decide +kernel)), ?_⟩
  refine List.forall_mem_cons.mpr ⟨ae_mk pu_al (fun X => ok_aload_n X (k := 0) rfl (by decide +kernel)), ?_⟩
  refine List.forall_mem_cons.mpr ⟨ae_mk pu_il (fun X => ok_iload X (by decide +kernel)), ?_⟩
  refine List.forall_mem_cons.mpr ⟨ae_mk (pu_push (fun _ => trivial)) (fun X => ok_iconst X (n := 3) (by decide) (by decide +kernel)), ?_⟩
  refine List.forall_mem_cons.mpr ⟨ae_mk pu_bin (fun X => ok_iadd X (by decide +kernel)), ?_⟩
  refine List.forall_mem_cons.mpr ⟨ae_mk pu_ia (fun X => ok_ia X (by decide +kernel)), ?_⟩
  refine List.forall_mem_cons.mpr ⟨ae_mkc (fun X => ok_callV X (mid := 70) (index := 70) (y := my_70) rfl (by decide) ⟨by decide, by decide⟩ (n := 3) (by decide +kernel) wd_467 wd_46 wd_464 wd_465 wd_466 (ci := 7) rfl (by decide +kernel)), ?_⟩
  refine List.forall_mem_cons.mpr ⟨ae_mk pu_al (fun X => ok_aload_n X (k := 2) rfl (by decide +kernel)), ?_⟩
  refine List.forall_mem_cons.mpr ⟨ae_mk pu_al (fun X => ok_aload_n X (k := 0) rfl (by decide +kernel)), ?_⟩
  refine List.forall_mem_cons.mpr ⟨ae_mk pu_il (fun X => ok_iload X (by decide +kernel)), ?_⟩
  refine List.forall_mem_cons.mpr ⟨ae_mk (pu_push (fun _ => trivial)) (fun X => ok_iconst X (n := 1) (by decide) (by decide +kernel)), ?_⟩
  refine List.forall_mem_cons.mpr ⟨ae_mk pu_bin (fun X => ok_iadd X (by decide +kernel)), ?_⟩
  refine List.forall_mem_cons.mpr ⟨ae_mk pu_ia (fun X => ok_ia X (by decide +kernel)), ?_⟩
  refine List.forall_mem_cons.mpr ⟨ae_mk pu_al (fun X => ok_aload_n X (k := 0) rfl (by decide +kernel)), ?_⟩
  refine List.forall_mem_cons.mpr ⟨ae_mk pu_il (fun X => ok_iload X (by decide +kernel)), ?_⟩
  refine List.forall_mem_cons.mpr ⟨ae_mk (pu_push (fun _ => trivial)) (fun X => ok_iconst X (n := 2) (by decide) (by decide +kernel)), ?_⟩
  refine List.forall_mem_cons.mpr ⟨ae_mk pu_bin (fun X => ok_iadd X (by decide +kernel)), ?_⟩
  refine List.forall_mem_cons.mpr ⟨ae_mk pu_ia (fun X => ok_ia X (by decide +kernel)), ?_⟩
  refine List.forall_mem_cons.mpr ⟨ae_mk pu_al (fun X => ok_aload_n X (k := 0) rfl (by decide +kernel)), ?_⟩
  refine List.forall_mem_cons.mpr ⟨ae_mk pu_il (fun X => ok_iload X (by decide +kernel)), ?_⟩
  refine List.forall_mem_cons.mpr ⟨ae_mk (pu_push (fun _ => trivial)) (fun X => ok_iconst X (n := 3) (by decide) (by decide +kernel)), ?_⟩
  refine List.forall_mem_cons.mpr ⟨ae_mk pu_bin (fun X => ok_iadd X (by decide +kernel)), ?_⟩
  refine List.forall_mem_cons.mpr ⟨ae_mk pu_ia (fun X => ok_ia X (by decide +kernel)), ?_⟩
  refine List.forall_mem_cons.mpr ⟨ae_mkc (fun X => ok_callV X (mid := 136) (index := 73) (y := my_136) rfl (by decide) ⟨by decide, by decide⟩ (n := 3) (by decide +kernel) wd_1062 wd_51 wd_1059 wd_1060 wd_1061 (ci := 8) rfl (by decide +kernel)), ?_⟩
  refine List.forall_mem_cons.mpr ⟨ae_mk pu_ic (fun X => ok_ic_eq X (off := 178) (by decide) (by decide +kernel)), ?_⟩
  refine List.forall_mem_cons.mpr ⟨ae_mk (pu_push (fun _ => trivial)) (fun X => ok_iconst X (n := 0) (by decide) (by decide +kernel)), ?_⟩
  refine List.forall_mem_cons.mpr ⟨Or.inr (Or.inl ⟨rfl, (by decide +kernel), rt_bool⟩), ?_⟩
  refine List.forall_mem_cons.mpr ⟨ae_mk pu_al (fun X => ok_aload_n X (k := 1) rfl (by decide +kernel)), ?_⟩
  refine List.forall_mem_cons.mpr ⟨ae_mk pu_al (fun X => ok_aload_n X (k := 0) rfl (by decide +kernel)), ?_⟩
  refine List.forall_mem_cons.mpr ⟨ae_mk pu_il (fun X => ok_iload X (by decide +kernel)), ?_⟩
  refine List.forall_mem_cons.mpr ⟨ae_mk (pu_push (fun _ => trivial)) (fun X => ok_iconst X (n := 1) (by decide) (by decide +kernel)), ?_⟩
  refine List.forall_mem_cons.mpr ⟨ae_mk pu_bin (fun X => ok_iadd X (by decide +kernel)), ?_⟩
  refine List.forall_mem_cons.mpr ⟨ae_mk pu_ia (fun X => ok_ia X (by decide +kernel)), ?_⟩
  refine List.forall_mem_cons.mpr ⟨ae_mk pu_al (fun X => ok_aload_n X (k := 0) rfl (by decide +kernel)), ?_⟩
  refine List.forall_mem_cons.mpr ⟨ae_mk pu_il (fun X => ok_iload X (by decide +kernel)), ?_⟩
  refine List.forall_mem_cons.mpr ⟨ae_mk (pu_push (fun _ => trivial)) (fun X => ok_iconst X (n := 2) (by decide) (by decide +kernel)), ?_⟩
  refine List.forall_mem_cons.mpr ⟨ae_mk pu_bin (fun X => ok_iadd X (by decide +kernel)), ?_⟩
  refine List.forall_mem_cons.mpr ⟨ae_mk pu_ia (fun X => ok_ia X (by decide +kernel)), ?_⟩
  refine List.forall_mem_cons.mpr ⟨ae_mk pu_al (fun X => ok_aload_n X (k := 0) rfl (by decide +kernel)), ?_⟩
  refine List.forall_mem_cons.mpr ⟨ae_mk pu_il (fun X => ok_iload X (by decide +kernel)), ?_⟩
  refine List.forall_mem_cons.mpr ⟨ae_mk (pu_push (fun _ => trivial)) (fun X => ok_iconst X (n := 3) (by decide) (by decide +kernel)), ?_⟩
  refine List.forall_mem_cons.mpr ⟨ae_mk pu_bin (fun X => ok_iadd X (by decide +kernel)), ?_⟩
  refine List.forall_mem_cons.mpr ⟨ae_mk pu_ia (fun X => ok_ia X (by decide +kernel)), ?_⟩
  refine List.forall_mem_cons.mpr ⟨ae_mkc (fun X => ok_callV X (mid := 71) (index := 74) (y := my_71) rfl (by decide) ⟨by decide, by decide⟩ (n := 3) (by decide +kernel) wd_472 wd_46 wd_469 wd_470 wd_471 (ci := 7) rfl (by decide +kernel)), ?_⟩
  refine List.forall_mem_cons.mpr ⟨ae_mk pu_al (fun X => ok_aload_n X (k := 2) rfl (by decide +kernel)), ?_⟩
  refine List.forall_mem_cons.mpr ⟨ae_mk pu_al (fun X => ok_aload_n X (k := 0) rfl (by decide +kernel)), ?_⟩
  refine List.forall_mem_cons.mpr ⟨ae_mk pu_il (fun X => ok_iload X (by decide +kernel)), ?_⟩
  refine List.forall_mem_cons.mpr ⟨ae_mk (pu_push (fun _ => trivial)) (fun X => ok_iconst X (n := 1) (by decide) (by decide +kernel)), ?_⟩
  refine List.forall_mem_cons.mpr ⟨ae_mk pu_bin (fun X => ok_iadd X (by decide +kernel)), ?_⟩
  refine List.forall_mem_cons.mpr ⟨ae_mk pu_ia (fun X => ok_ia X (by decide +kernel)), ?_⟩
  refine List.forall_mem_cons.mpr ⟨ae_mk pu_al (fun X => ok_aload_n X (k := 0) rfl (by decide +kernel)), ?_⟩
  refine List.forall_mem_cons.mpr ⟨ae_mk pu_il (fun X => ok_iload X (by decide +kernel)), ?_⟩
  refine List.forall_mem_cons.mpr ⟨ae_mk (pu_push (fun _ => trivial)) (fun X => ok_iconst X (n := 2) (by decide) (by decide +kernel)), ?_⟩
  refine List.forall_mem_cons.mpr ⟨ae_mk pu_bin (fun X => ok_iadd X (by decide +kernel)), ?_⟩
  refine List.forall_mem_cons.mpr ⟨ae_mk pu_ia (fun X => ok_ia X (by decide +kernel)), ?_⟩
  refine List.forall_mem_cons.mpr ⟨ae_mk pu_al (fun X => ok_aload_n X (k := 0) rfl (by decide +kernel)), ?_⟩
  refine List.forall_mem_cons.mpr ⟨ae_mk pu_il (fun X => ok_iload X (by decide +kernel)), ?_⟩
  refine List.forall_mem_cons.mpr ⟨ae_mk (pu_push (fun _ => trivial)) (fun X => ok_iconst X (n := 3) (by decide) (by decide +kernel)), ?_⟩
  refine List.forall_mem_cons.mpr ⟨ae_mk pu_bin (fun X => ok_iadd X (by decide +kernel)), ?_⟩
  refine List.forall_mem_cons.mpr ⟨ae_mk pu_ia (fun X => ok_ia X (by decide +kernel)), ?_⟩
  refine List.forall_mem_cons.mpr ⟨ae_mkc (fun X => ok_callV X (mid := 137) (index := 77) (y := my_137) rfl (by decide) ⟨by decide, by decide⟩ (n := 3) (by decide +kernel) wd_1066 wd_51 wd_1063 wd_1064 wd_1065 (ci := 8) rfl (by decide +kernel)), ?_⟩
  refine List.forall_mem_cons.mpr ⟨ae_mk pu_ic (fun X => ok_ic_eq X (off := 129) (by decide) (by decide +kernel)), ?_⟩
  refine List.forall_mem_cons.mpr ⟨ae_mk (pu_push (fun _ => trivial)) (fun X => ok_iconst X (n := 0) (by decide) (by decide +kernel)), ?_⟩
  refine List.forall_mem_cons.mpr ⟨Or.inr (Or.inl ⟨rfl, (by decide +kernel), rt_bool⟩), ?_⟩
  refine List.forall_mem_cons.mpr ⟨ae_mk pu_al (fun X => ok_aload_n X (k := 1) rfl (by decide +kernel)), ?_⟩
  refine List.forall_mem_cons.mpr ⟨ae_mk pu_al (fun X => ok_aload_n X (k := 0) rfl (by decide +kernel)), ?_⟩
  refine List.forall_mem_cons.mpr ⟨ae_mk pu_il (fun X => ok_iload X (by decide +kernel)), ?_⟩
  refine List.forall_mem_cons.mpr ⟨ae_mk (pu_push (fun _ => trivial)) (fun X => ok_iconst X (n := 1) (by decide) (by decide +kernel)), ?_⟩
  refine List.forall_mem_cons.mpr ⟨ae_mk pu_bin (fun X => ok_iadd X (by decide +kernel)), ?_⟩
  refine List.forall_mem_cons.mpr ⟨ae_mk pu_ia (fun X => ok_ia X (by decide +kernel)), ?_⟩
  refine List.forall_mem_cons.mpr ⟨ae_mkc (fun X => ok_callV X (mid := 72) (index := 78) (y := my_72) rfl (by decide) ⟨by decide, by decide⟩ (n := 1) (by decide +kernel) wd_476 wd_46 wd_473 wd_474 wd_475 (ci := 7) rfl (by decide +kernel)), ?_⟩
  refine List.forall_mem_cons.mpr ⟨ae_mk pu_al (fun X => ok_aload_n X (k := 2) rfl (by decide +kernel)), ?_⟩
  refine List.forall_mem_cons.mpr ⟨ae_mk pu_al (fun X => ok_aload_n X (k := 0) rfl (by decide +kernel)), ?_⟩
  refine List.forall_mem_cons.mpr ⟨ae_mk pu_il (fun X => ok_iload X (by decide +kernel)), ?_⟩
  refine List.forall_mem_cons.mpr ⟨ae_mk (pu_push (fun _ => trivial)) (fun X => ok_iconst X (n := 1) (by decide) (by decide +kernel)), ?_⟩
  refine List.forall_mem_cons.mpr ⟨ae_mk pu_bin (fun X => ok_iadd X (by decide +kernel)), ?_⟩
  refine List.forall_mem_cons.mpr ⟨ae_mk pu_ia (fun X => ok_ia X (by decide +kernel)), ?_⟩
  refine List.forall_mem_cons.mpr ⟨ae_mkc (fun X => ok_callV X (mid := 138) (index := 81) (y := my_138) rfl (by decide) ⟨by decide, by decide⟩ (n := 1) (by decide +kernel) wd_1070 wd_51 wd_1067 wd_1068 wd_1069 (ci := 8) rfl (by decide +kernel)), ?_⟩
  refine List.forall_mem_cons.mpr ⟨ae_mk pu_ic (fun X => ok_ic_eq X (off := 104) (by decide) (by decide +kernel)), ?_⟩
  refine List.forall_mem_cons.mpr ⟨ae_mk (pu_push (fun _ => trivial)) (fun X => ok_iconst X (n := 0) (by decide) (by decide +kernel)), ?_⟩
  refine List.forall_mem_cons.mpr ⟨Or.inr (Or.inl ⟨rfl, (by decide +kernel), rt_bool⟩), ?_⟩
  refine List.forall_mem_cons.mpr ⟨ae_mk pu_al (fun X => ok_aload_n X (k := 1) rfl (by decide +kernel)), ?_⟩
  refine List.forall_mem_cons.mpr ⟨ae_mk pu_al (fun X => ok_aload_n X (k := 0) rfl (by decide +kernel)), ?_⟩
  refine List.forall_mem_cons.mpr ⟨ae_mk pu_il (fun X => ok_iload X (by decide +kernel)), ?_⟩
  refine List.forall_mem_cons.mpr ⟨ae_mk (pu_push (fun _ => trivial)) (fun X => ok_iconst X (n := 1) (by decide) (by decide +kernel)), ?_⟩
  refine List.forall_mem_cons.mpr ⟨ae_mk pu_bin (fun X => ok_iadd X (by decide +kernel)), ?_⟩
  refine List.forall_mem_cons.mpr ⟨ae_mk pu_ia (fun X => ok_ia X (by decide +kernel)), ?_⟩
  refine List.forall_mem_cons.mpr ⟨ae_mk pu_al (fun X => ok_aload_n X (k := 0) rfl (by decide +kernel)), ?_⟩
  refine List.forall_mem_cons.mpr ⟨ae_mk pu_il (fun X => ok_iload X (by decide +kernel)), ?_⟩
  refine List.forall_mem_cons.mpr ⟨ae_mk (pu_push (fun _ => trivial)) (fun X => ok_iconst X (n := 2) (by decide) (by decide +kernel)), ?_⟩
  refine List.forall_mem_cons.mpr ⟨ae_mk pu_bin (fun X => ok_iadd X (by decide +kernel)), ?_⟩
  refine List.forall_mem_cons.mpr ⟨ae_mk pu_ia (fun X => ok_ia X (by decide +kernel)), ?_⟩
  refine List.forall_mem_cons.mpr ⟨ae_mkc (fun X => ok_callV X (mid := 73) (index := 82) (y := my_73) rfl (by decide) ⟨by decide, by decide⟩ (n := 2) (by decide +kernel) wd_480 wd_46 wd_477 wd_478 wd_479 (ci := 7) rfl (by decide +kernel)), ?_⟩
  refine List.forall_mem_cons.mpr ⟨ae_mk pu_al (fun X => ok_aload_n X (k := 2) rfl (by decide +kernel)), ?_⟩
  refine List.forall_mem_cons.mpr ⟨ae_mk pu_al (fun X => ok_aload_n X (k := 0) rfl (by decide +kernel)), ?_⟩
  refine List.forall_mem_cons.mpr ⟨ae_mk pu_il (fun X => ok_iload X (by decide +kernel)), ?_⟩
  refine List.forall_mem_cons.mpr ⟨ae_mk (pu_push (fun _ => trivial)) (fun X => ok_iconst X (n := 1) (by decide) (by decide +kernel)), ?_⟩
  refine List.forall_mem_cons.mpr ⟨ae_mk pu_bin (fun X => ok_iadd X (by decide +kernel)), ?_⟩
  refine List.forall_mem_cons.mpr ⟨ae_mk pu_ia (fun X => ok_ia X (by decide +kernel)), ?_⟩
  refine List.forall_mem_cons.mpr ⟨ae_mk pu_al (fun X => ok_aload_n X (k := 0) rfl (by decide +kernel)), ?_⟩
  refine List.forall_mem_cons.mpr ⟨ae_mk pu_il (fun X => ok_iload X (by decide +kernel)), ?_⟩
  refine List.forall_mem_cons.mpr ⟨ae_mk (pu_push (fun _ => trivial)) (fun X => ok_iconst X (n := 2) (by decide) (by decide +kernel)), ?_⟩
  refine List.forall_mem_cons.mpr ⟨ae_mk pu_bin (fun X => ok_iadd X (by decide +kernel)), ?_⟩
  refine List.forall_mem_cons.mpr ⟨ae_mk pu_ia (fun X => ok_ia X (by decide +kernel)), ?_⟩
  refine List.forall_mem_cons.mpr ⟨ae_mkc (fun X => ok_callV X (mid := 139) (index := 85) (y := my_139) rfl (by decide) ⟨by decide, by decide⟩ (n := 2) (by decide +kernel) wd_1074 wd_51 wd_1071 wd_1072 wd_1073 (ci := 8) rfl (by decide +kernel)), ?_⟩
  refine List.forall_mem_cons.mpr ⟨ae_mk pu_ic (fun X => ok_ic_eq X (off := 67) (by decide) (by decide +kernel)), ?_⟩
  refine List.forall_mem_cons.mpr ⟨ae_mk (pu_push (fun _ => trivial)) (fun X => ok_iconst X (n := 0) (by decide) (by decide +kernel)), ?_⟩
  refine List.forall_mem_cons.mpr ⟨Or.inr (Or.inl ⟨rfl, (by decide +kernel), rt_bool⟩), ?_⟩
  refine List.forall_mem_cons.mpr ⟨ae_mk pu_al (fun X => ok_aload_n X (k := 1) rfl (by decide +kernel)), ?_⟩
  refine List.forall_mem_cons.mpr ⟨ae_mk pu_al (fun X => ok_aload_n X (k := 0) rfl (by decide +kernel)), ?_⟩
  refine List.forall_mem_cons.mpr ⟨ae_mk pu_il (fun X => ok_iload X (by decide +kernel)), ?_⟩
  refine List.forall_mem_cons.mpr ⟨ae_mk (pu_push (fun _ => trivial)) (fun X => ok_iconst X (n := 1) (by decide) (by decide +kernel)), ?_⟩
  refine List.forall_mem_cons.mpr ⟨ae_mk pu_bin (fun X => ok_iadd X (by decide +kernel)), ?_⟩
  refine List.forall_mem_cons.mpr ⟨ae_mk pu_ia (fun X => ok_ia X (by decide +kernel)), ?_⟩
  refine List.forall_mem_cons.mpr ⟨ae_mkc (fun X => ok_callV X (mid := 74) (index := 86) (y := my_74) rfl (by decide) ⟨by decide, by decide⟩ (n := 1) (by decide +kernel) wd_484 wd_46 wd_481 wd_482 wd_483 (ci := 7) rfl (by decide +kernel)), ?_⟩
  refine List.forall_mem_cons.mpr ⟨ae_mk pu_al (fun X => ok_aload_n X (k := 2) rfl (by decide +kernel)), ?_⟩
  refine List.forall_mem_cons.mpr ⟨ae_mk pu_al (fun X => ok_aload_n X (k := 0) rfl (by decide +kernel)), ?_⟩
  refine List.forall_mem_cons.mpr ⟨ae_mk pu_il (fun X => ok_iload X (by decide +kernel)), ?_⟩
  refine List.forall_mem_cons.mpr ⟨ae_mk (pu_push (fun _ => trivial)) (fun X => ok_iconst X (n := 1) (by decide) (by decide +kernel)), ?_⟩
  refine List.forall_mem_cons.mpr ⟨ae_mk pu_bin (fun X => ok_iadd X (by decide +kernel)), ?_⟩
  refine List.forall_mem_cons.mpr ⟨ae_mk pu_ia (fun X => ok_ia X (by decide +kernel)), ?_⟩
  refine List.forall_mem_cons.mpr ⟨ae_mkc (fun X => ok_callV X (mid := 140) (index := 89) (y := my_140) rfl (by decide) ⟨by decide, by decide⟩ (n := 1) (by decide +kernel) wd_1078 wd_51 wd_1075 wd_1076 wd_1077 (ci := 8) rfl (by decide +kernel)), ?_⟩
  refine List.forall_mem_cons.mpr ⟨ae_mk pu_ic (fun X => ok_ic_eq X (off := 42) (by decide) (by decide +kernel)), ?_⟩
  refine List.forall_mem_cons.mpr ⟨ae_mk (pu_push (fun _ => trivial)) (fun X => ok_iconst X (n := 0) (by decide) (by decide +kernel)), ?_⟩
  refine List.forall_mem_cons.mpr ⟨Or.inr (Or.inl ⟨rfl, (by decide +kernel), rt_bool⟩), ?_⟩
  refine List.forall_mem_cons.mpr ⟨ae_mk pu_al (fun X => ok_aload_n X (k := 1) rfl (by decide +kernel)), ?_⟩
  refine List.forall_mem_cons.mpr ⟨ae_mk pu_al (fun X => ok_aload_n X (k := 0) rfl (by decide +kernel)), ?_⟩
  refine List.forall_mem_cons.mpr ⟨ae_mk pu_il (fun X => ok_iload X (by decide +kernel)), ?_⟩
  refine List.forall_mem_cons.mpr ⟨ae_mk (pu_push (fun _ => trivial)) (fun X => ok_iconst X (n := 1) (by decide) (by decide +kernel)), ?_⟩
  refine List.forall_mem_cons.mpr ⟨ae_mk pu_bin (fun X => ok_iadd X (by decide +kernel)), ?_⟩
  refine List.forall_mem_cons.mpr ⟨ae_mk pu_ia (fun X => ok_ia X (by decide +kernel)), ?_⟩
  refine List.forall_mem_cons.mpr ⟨ae_mk pu_al (fun X => ok_aload_n X (k := 0) rfl (by decide +kernel)), ?_⟩
  refine List.forall_mem_cons.mpr ⟨ae_mk pu_il (fun X => ok_iload X (by decide +kernel)), ?_⟩
  refine List.forall_mem_cons.mpr ⟨ae_mk (pu_push (fun _ => trivial)) (fun X => ok_iconst X (n := 2) (by decide) (by decide +kernel)), ?_⟩
  refine List.forall_mem_cons.mpr ⟨ae_mk pu_bin (fun X => ok_iadd X (by decide +kernel)), ?_⟩
  refine List.forall_mem_cons.mpr ⟨ae_mk pu_ia (fun X => ok_ia X (by decide +kernel)), ?_⟩
  refine List.forall_mem_cons.mpr ⟨ae_mkc (fun X => ok_callV X (mid := 75) (index := 90) (y := my_75) rfl (by decide) ⟨by decide, by decide⟩ (n := 2) (by decide +kernel) wd_488 wd_46 wd_485 wd_486 wd_487 (ci := 7) rfl (by decide +kernel)), ?_⟩
  refine List.forall_mem_cons.mpr ⟨ae_mk pu_al (fun X => ok_aload_n X (k := 2) rfl (by decide +kernel)), ?_⟩
  refine List.forall_mem_cons.mpr ⟨ae_mk pu_al (fun X => ok_aload_n X (k := 0) rfl (by decide +kernel)), ?_⟩
  refine List.forall_mem_cons.mpr ⟨ae_mk pu_il (fun X => ok_iload X (by decide +kernel)), ?_⟩
  refine List.forall_mem_cons.mpr ⟨ae_mk (pu_push (fun _ => trivial)) (fun X => ok_iconst X (n := 1) (by decide) (by decide +kernel)), ?_⟩
  refine List.forall_mem_cons.mpr ⟨ae_mk pu_bin (fun X => ok_iadd X (by decide +kernel)), ?_⟩
  refine List.forall_mem_cons.mpr ⟨ae_mk pu_ia (fun X => ok_ia X (by decide +kernel)), ?_⟩
  refine List.forall_mem_cons.mpr ⟨ae_mk pu_al (fun X => ok_aload_n X (k := 0) rfl (by decide +kernel)), ?_⟩
  refine List.forall_mem_cons.mpr ⟨ae_mk pu_il (fun X => ok_iload X (by decide +kernel)), ?_⟩
  refine List.forall_mem_cons.mpr ⟨ae_mk (pu_push (fun _ => trivial)) (fun X => ok_iconst X (n := 2) (by decide) (by decide +kernel)), ?_⟩
  refine List.forall_mem_cons.mpr ⟨ae_mk pu_bin (fun X => ok_iadd X (by decide +kernel)), ?_⟩
  refine List.forall_mem_cons.mpr ⟨ae_mk pu_ia (fun X => ok_ia X (by decide +kernel)), ?_⟩
  refine List.forall_mem_cons.mpr ⟨ae_mkc (fun X => ok_callV X (mid := 141) (index := 93) (y := my_141) rfl (by decide) ⟨by decide, by decide⟩ (n := 2) (by decide +kernel) wd_1082 wd_51 wd_1079 wd_1080 wd_1081 (ci := 8) rfl (by decide +kernel)), ?_⟩
  refine List.forall_mem_cons.mpr ⟨ae_mk pu_ic (fun X => ok_ic_eq X (off := 5) (by decide) (by decide +kernel)), ?_⟩
  refine List.forall_mem_cons.mpr ⟨ae_mk (pu_push (fun _ => trivial)) (fun X => ok_iconst X (n := 0) (by decide) (by decide +kernel)), ?_⟩
  refine List.forall_mem_cons.mpr ⟨Or.inr (Or.inl ⟨rfl, (by decide +kernel), rt_bool⟩), ?_⟩
  refine List.forall_mem_cons.mpr ⟨ae_mk pu_inc (fun X => ok_iinc X (n := 7) (by decide) (by decide +kernel)), ?_⟩
  refine List.forall_mem_cons.mpr ⟨ae_mk pu_goto (fun X => ok_goto X (off := (-781)) (by decide) (by decide +kernel)), ?_⟩
  refine List.forall_mem_cons.mpr ⟨ae_mk (pu_push (fun _ => trivial)) (fun X => ok_iconst X (n := 1) (by decide) (by decide +kernel)), ?_⟩
  refine List.forall_mem_cons.mpr ⟨Or.inr (Or.inl ⟨rfl, (by decide +kernel), rt_bool⟩), ?_⟩
  exact fun _ h => absurd h List.not_mem_nil
