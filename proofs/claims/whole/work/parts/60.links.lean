/-! ===== the links, by their places in the words ===== -/
def fm_big : List Cond := lw_tbl.filter goodWord
theorem fm_bigOf {w : Cond} {i : Nat} (h : lw_tbl[i]? = some w) (hg : goodWord w = true) : w ∈ fm_big := List.mem_filter.mpr ⟨List.mem_of_getElem? h, hg⟩
theorem fm_bigT {w : Cond} (h : w ∈ fm_big) : w ∈ lw_tbl := (List.mem_filter.mp h).1
theorem fm_bigG {w : Cond} (h : w ∈ fm_big) : goodWord w = true := (List.mem_filter.mp h).2
abbrev fm_cnm (c : Nat) : String := fm_cn.getD c ""
def fm_clT (c : Nat) : u_T := (fm_cls.getD c (RX0, TX0, 13)).2.1
/-- whose class, which entry, of which class, which field, which word -/
def fm_fl : List (Nat × Nat × Nat × Nat × Nat) := [(5, 9, 5, 0, 81), (5, 15, 5, 1, 82), (7, 73, 5, 1, 83), (6, 15, 6, 0, 157), (6, 35, 6, 1, 158), (6, 9, 6, 2, 159), (6, 42, 6, 3, 160), (6, 45, 6, 4, 161), (6, 51, 6, 5, 162), (7, 87, 6, 6, 163), (6, 140, 6, 6, 164), (6, 38, 6, 7, 165), (6, 87, 6, 8, 166), (6, 118, 6, 9, 167), (0, 9, 0, 0, 204), (4, 57, 0, 0, 205), (1, 68, 0, 0, 206), (7, 205, 0, 0, 207), (0, 15, 0, 1, 208), (1, 53, 0, 1, 209), (7, 110, 0, 1, 210), (0, 19, 0, 2, 211), (1, 78, 0, 2, 212), (7, 113, 0, 2, 213), (0, 22, 0, 3, 214), (7, 106, 0, 3, 215), (0, 25, 0, 4, 216), (7, 116, 0, 4, 217), (0, 28, 0, 5, 218), (7, 119, 0, 5, 219), (0, 31, 0, 6, 220), (4, 71, 0, 6, 221), (7, 122, 0, 6, 222), (0, 34, 0, 7, 223), (7, 125, 0, 7, 224), (0, 37, 0, 8, 225), (4, 62, 0, 8, 226), (7, 128, 0, 8, 227), (0, 40, 0, 9, 228), (4, 68, 0, 9, 229), (2, 61, 0, 9, 230), (0, 43, 0, 10, 231), (2, 71, 0, 10, 232), (0, 46, 0, 11, 233), (0, 49, 0, 12, 234), (1, 9, 1, 0, 269), (1, 15, 1, 1, 270), (1, 18, 1, 2, 271), (1, 21, 1, 3, 272), (1, 25, 1, 4, 273), (2, 55, 1, 4, 274), (1, 41, 1, 5, 275), (2, 50, 1, 5, 276), (2, 9, 2, 0, 296), (7, 150, 2, 0, 297), (2, 15, 2, 1, 298), (7, 168, 2, 1, 299), (2, 19, 2, 2, 300), (7, 171, 2, 2, 301), (2, 22, 2, 3, 302), (7, 174, 2, 3, 303), (2, 25, 2, 4, 304), (7, 177, 2, 4, 305), (2, 28, 2, 5, 306), (2, 31, 2, 6, 307), (2, 34, 2, 7, 308), (4, 9, 4, 0, 337), (4, 15, 4, 1, 338), (4, 18, 4, 2, 339), (4, 21, 4, 3, 340), (4, 24, 4, 4, 341), (4, 27, 4, 5, 342), (4, 30, 4, 6, 343), (7, 196, 4, 6, 344), (4, 33, 4, 7, 345), (7, 199, 4, 7, 346), (4, 36, 4, 8, 347), (7, 202, 4, 8, 348), (4, 48, 4, 9, 349), (7, 206, 4, 9, 350), (3, 9, 3, 0, 390), (3, 15, 3, 1, 391), (3, 59, 3, 2, 392), (3, 62, 3, 3, 393), (7, 209, 3, 3, 394), (3, 37, 3, 4, 395), (4, 52, 3, 4, 396), (6, 94, 3, 4, 397), (7, 212, 3, 4, 398), (3, 41, 3, 5, 399), (4, 69, 3, 5, 400), (6, 97, 3, 5, 401), (7, 215, 3, 5, 402), (3, 44, 3, 6, 403), (4, 65, 3, 6, 404), (6, 100, 3, 6, 405), (7, 218, 3, 6, 406), (3, 47, 3, 7, 407), (7, 95, 3, 7, 408), (6, 112, 3, 7, 409), (3, 18, 3, 8, 410), (2, 45, 3, 8, 411), (7, 137, 3, 8, 412), (3, 21, 3, 9, 413), (1, 32, 3, 9, 414), (2, 54, 3, 9, 415), (7, 140, 3, 9, 416), (3, 24, 3, 10, 417), (3, 50, 3, 11, 418), (6, 106, 3, 11, 419), (7, 221, 3, 11, 420), (3, 53, 3, 12, 421), (6, 108, 3, 12, 422), (2, 84, 3, 12, 423), (7, 160, 3, 12, 424), (3, 56, 3, 13, 425), (6, 110, 3, 13, 426), (7, 224, 3, 13, 427), (7, 10, 7, 0, 457), (7, 21, 7, 1, 458), (7, 28, 7, 2, 459), (7, 35, 7, 3, 460), (7, 42, 7, 4, 461), (7, 49, 7, 5, 462), (7, 56, 7, 6, 463), (7, 60, 7, 7, 464), (7, 63, 7, 8, 465), (7, 67, 7, 9, 466), (7, 70, 7, 10, 467), (8, 7, 8, 0, 823), (8, 147, 8, 1, 824), (8, 167, 8, 2, 825), (8, 161, 8, 3, 826), (8, 174, 8, 4, 827), (8, 170, 8, 5, 828), (8, 181, 8, 6, 829), (8, 158, 8, 7, 830), (8, 164, 8, 8, 831), (8, 13, 8, 9, 832), (8, 17, 8, 10, 833), (8, 20, 8, 11, 834), (8, 238, 8, 12, 835), (8, 24, 8, 13, 836), (8, 28, 8, 14, 837), (8, 222, 8, 15, 838), (8, 225, 8, 16, 839), (8, 228, 8, 17, 840), (8, 31, 8, 18, 841), (8, 243, 8, 19, 842), (8, 34, 8, 20, 843), (8, 38, 8, 21, 844), (8, 41, 8, 22, 845), (8, 44, 8, 23, 846), (8, 47, 8, 24, 847), (8, 50, 8, 25, 848), (8, 53, 8, 26, 849), (8, 56, 8, 27, 850), (8, 263, 8, 28, 851), (8, 266, 8, 29, 852), (8, 269, 8, 30, 853), (8, 272, 8, 31, 854), (8, 275, 8, 32, 855), (8, 260, 8, 33, 856), (8, 59, 8, 34, 857), (8, 62, 8, 35, 858), (8, 65, 8, 36, 859), (8, 287, 8, 37, 860), (8, 68, 8, 38, 861), (8, 71, 8, 39, 862), (8, 74, 8, 40, 863), (8, 77, 8, 41, 864), (8, 80, 8, 42, 865), (8, 83, 8, 43, 866), (8, 86, 8, 44, 867), (8, 89, 8, 45, 868), (8, 92, 8, 46, 869), (8, 95, 8, 47, 870), (8, 98, 8, 48, 871), (8, 101, 8, 49, 872), (8, 278, 8, 50, 873), (8, 281, 8, 51, 874), (8, 104, 8, 52, 875), (8, 107, 8, 53, 876), (8, 110, 8, 54, 877), (8, 113, 8, 55, 878), (8, 116, 8, 56, 879), (8, 284, 8, 57, 880), (8, 119, 8, 58, 881), (8, 122, 8, 59, 882), (8, 125, 8, 60, 883), (8, 129, 8, 61, 884), (8, 132, 8, 62, 885), (8, 135, 8, 63, 886), (8, 138, 8, 64, 887), (8, 141, 8, 65, 888), (8, 144, 8, 66, 889)]
theorem fm_fl_ok : ∀ q ∈ fm_fl, lw_tbl[q.2.2.2.2]? = some (Cond.fieldLink (fm_cnm q.1) q.2.1 (fm_clT q.2.2.1 q.2.2.2.1).1 (fm_clT q.2.2.1 q.2.2.2.1).2.1 (fm_clT q.2.2.1 q.2.2.2.1).2.2.1) := by decide +kernel
def fm_ml : List (Nat × Nat × Nat × Nat) := [(11, 9, 74, 69), (7, 18, 53, 92), (6, 21, 69, 97), (6, 157, 70, 149), (7, 27, 0, 193), (0, 53, 1, 197), (0, 56, 139, 201), (7, 48, 44, 328), (4, 39, 45, 332), (4, 42, 139, 336), (7, 55, 35, 374), (3, 27, 36, 378), (3, 30, 37, 382), (3, 33, 38, 386), (11, 13, 75, 491), (7, 76, 51, 495), (11, 18, 76, 499), (11, 23, 77, 503), (7, 80, 36, 507), (7, 83, 54, 508), (6, 48, 65, 512), (6, 131, 52, 516), (6, 137, 73, 520), (6, 143, 71, 523), (6, 146, 66, 526), (6, 160, 67, 530), (6, 149, 72, 534), (6, 152, 68, 537), (6, 165, 138, 542), (6, 54, 56, 545), (6, 58, 60, 549), (6, 103, 63, 553), (6, 64, 55, 557), (6, 115, 61, 561), (6, 83, 64, 565), (6, 122, 41, 569), (6, 61, 62, 573), (6, 128, 42, 578), (6, 68, 57, 582), (6, 78, 37, 586), (6, 90, 38, 587), (6, 71, 58, 588), (6, 74, 59, 592), (7, 90, 1, 596), (7, 93, 26, 597), (7, 94, 45, 601), (11, 28, 78, 602), (11, 32, 79, 606), (7, 98, 2, 610), (11, 37, 80, 614), (7, 102, 3, 618), (11, 42, 81, 622), (7, 131, 6, 626), (0, 62, 3, 630), (11, 46, 82, 631), (7, 134, 40, 635), (7, 143, 43, 639), (3, 65, 40, 643), (11, 50, 83, 644), (7, 146, 39, 648), (11, 54, 84, 652), (7, 153, 19, 656), (1, 28, 20, 660), (1, 58, 139, 664), (1, 45, 43, 665), (1, 64, 22, 666), (1, 70, 8, 669), (0, 66, 4, 673), (0, 69, 7, 677), (1, 74, 21, 681), (1, 37, 23, 685), (1, 81, 137, 689), (1, 49, 24, 692), (1, 86, 5, 696), (7, 157, 31, 700), (2, 58, 3, 704), (7, 163, 32, 705), (2, 37, 27, 709), (2, 64, 43, 713), (2, 68, 9, 714), (0, 72, 8, 718), (0, 75, 5, 719), (0, 79, 6, 720), (11, 58, 85, 721), (7, 167, 27, 725), (7, 180, 29, 726), (2, 41, 28, 730), (7, 183, 30, 734), (11, 62, 86, 738), (7, 186, 18, 742), (11, 66, 87, 746), (7, 190, 90, 750), (7, 227, 11, 754), (7, 230, 12, 758), (7, 234, 13, 762), (0, 83, 14, 766), (7, 237, 15, 770), (7, 240, 47, 774), (7, 244, 33, 778), (2, 74, 34, 782), (2, 78, 29, 786), (2, 81, 30, 787), (2, 87, 10, 788), (7, 248, 48, 792), (4, 74, 49, 796), (7, 251, 16, 800), (11, 70, 88, 804), (7, 193, 46, 808), (11, 74, 89, 812), (11, 12, 91, 818), (11, 17, 94, 1025), (8, 150, 93, 1029), (11, 22, 95, 1033), (8, 154, 92, 1037), (11, 27, 107, 1040), (8, 210, 98, 1044), (8, 188, 99, 1052), (8, 202, 96, 1060), (8, 255, 103, 1064), (8, 213, 97, 1068), (8, 216, 104, 1072), (8, 218, 102, 1077), (8, 231, 105, 1081), (8, 234, 101, 1085), (8, 206, 100, 1089), (8, 246, 106, 1093), (8, 258, 108, 1100), (11, 31, 109, 1104), (11, 36, 111, 1108), (11, 41, 112, 1113), (8, 292, 110, 1117), (11, 45, 113, 1122), (11, 49, 114, 1127), (11, 53, 116, 1132), (8, 303, 115, 1137), (11, 57, 121, 1141), (8, 313, 119, 1145), (8, 309, 118, 1149), (8, 306, 117, 1153), (8, 317, 122, 1158), (8, 320, 120, 1161), (8, 323, 123, 1165), (11, 61, 124, 1169), (11, 65, 125, 1174), (8, 328, 126, 1178), (8, 331, 127, 1182), (11, 69, 134, 1186), (8, 349, 130, 1190), (8, 334, 129, 1194), (8, 337, 128, 1198), (8, 340, 131, 1202), (8, 343, 132, 1206), (8, 346, 133, 1210), (11, 73, 135, 1214), (11, 77, 136, 1218)]
theorem fm_ml_ok : ∀ q ∈ fm_ml, lw_tbl[q.2.2.2]? = some (Cond.methodLink (fm_cnm q.1) q.2.1 (fm_nm q.2.2.1)) := by decide +kernel
def fm_nl3 : List (Nat × Nat × Nat × Nat) := [(7, 9, 50, 77), (7, 34, 17, 265), (7, 41, 25, 292)]
theorem fm_nl3_ok : ∀ q ∈ fm_nl3, lw_tbl[q.2.2.2]? = some (Cond.methodLinkNest (fm_cnm q.1) q.2.1 (fm_nm q.2.2.1) "WatchBill") := by decide +kernel
def fm_oi : List (Nat × Nat × Nat) := [(7, 1, 72), (5, 3, 80), (6, 3, 95), (0, 3, 196), (1, 3, 268), (2, 3, 295), (4, 3, 331), (3, 3, 377), (8, 1, 821)]
theorem fm_oi_ok : ∀ q ∈ fm_oi, lw_tbl[q.2.2]? = some (Cond.methodLink (fm_cnm q.1) q.2.1 Lib.objectInit) := by decide +kernel
def fm_kc : List (Nat × Nat × Nat × Nat) := [(11, 7, 7, 67), (7, 7, 5, 75), (7, 16, 6, 90), (7, 25, 0, 191), (7, 32, 1, 263), (7, 39, 2, 290), (7, 46, 4, 326), (7, 53, 3, 372), (11, 10, 8, 816)]
theorem fm_kc_ok : ∀ q ∈ fm_kc, lw_tbl[q.2.2.2]? = some (Cond.classLink (fm_cnm q.1) q.2.1 (fm_cnm q.2.2.1)) := by decide +kernel
def fm_ki : List (Nat × Nat × Int × Nat) := [(6, 164, 100000, 541), (8, 128, 851968, 822), (8, 316, 65536, 1157)]
theorem fm_ki_ok : ∀ q ∈ fm_ki, lw_tbl[q.2.2.2]? = some (Cond.constant (fm_cnm q.1) q.2.1 (fm_i q.2.2.1)) := by decide +kernel
def fm_kl : List (Nat × Nat × Int × Nat) := [(6, 155, 32, 110), (6, 126, 6, 577), (8, 177, 97, 1048), (8, 179, 122, 1049), (8, 184, 32, 1050), (8, 186, 96, 1051), (8, 192, 48, 1055), (8, 194, 57, 1056), (8, 196, 99999, 1057), (8, 198, 100000, 1058), (8, 200, 10, 1059), (8, 241, 2, 1076), (8, 249, 6, 1097), (8, 251, 8, 1098), (8, 253, 12, 1099), (8, 290, 63, 1112), (8, 295, 480, 1121), (8, 297, 15, 1126), (8, 299, 100, 1131), (8, 301, 1000, 1136), (8, 326, 200, 1173)]
theorem fm_kl_ok : ∀ q ∈ fm_kl, lw_tbl[q.2.2.2]? = some (Cond.constantLong (fm_cnm q.1) q.2.1 (fm_l q.2.2.1)) := by decide +kernel
/-- a method: static or not, which words say so -/
def fm_mw : List (Nat × Nat × Nat) := [(0, 194, 59), (1, 198, 59), (2, 611, 59), (3, 619, 59), (4, 674, 59), (5, 697, 59), (6, 627, 59), (7, 679, 59), (8, 670, 59), (9, 715, 59), (10, 789, 59), (11, 755, 59), (12, 759, 59), (13, 763, 59), (14, 768, 59), (15, 771, 59), (16, 801, 59), (17, 266, 61), (18, 743, 61), (19, 657, 61), (20, 662, 61), (21, 683, 61), (22, 667, 61), (23, 687, 61), (24, 694, 61), (25, 293, 62), (26, 598, 62), (27, 710, 62), (28, 732, 62), (29, 727, 62), (30, 735, 62), (31, 701, 62), (32, 706, 62), (33, 779, 62), (34, 784, 62), (35, 375, 64), (36, 379, 64), (37, 383, 64), (38, 387, 64), (39, 649, 64), (40, 636, 64), (41, 570, 64), (42, 579, 64), (43, 640, 64), (44, 329, 63), (45, 333, 63), (46, 809, 63), (47, 775, 63), (48, 793, 63), (49, 798, 63), (50, 78, 53), (51, 496, 53), (52, 517, 53), (53, 93, 54), (54, 509, 54), (55, 559, 54), (56, 547, 54), (57, 584, 54), (58, 590, 54), (59, 594, 54), (60, 551, 54), (61, 563, 54), (62, 575, 54), (63, 555, 54), (64, 567, 54), (65, 514, 54), (66, 528, 54), (67, 532, 54), (68, 539, 54), (69, 98, 54), (70, 150, 54), (71, 524, 54), (72, 535, 54), (73, 521, 54), (74, 70, 52), (75, 492, 52), (76, 500, 52), (77, 504, 52), (78, 603, 52), (79, 607, 52), (80, 615, 52), (81, 623, 52), (82, 632, 52), (83, 645, 52), (84, 653, 52), (85, 722, 52), (86, 739, 52), (87, 747, 52), (88, 805, 52), (89, 813, 52), (90, 752, 52), (91, 819, 65), (92, 1038, 65), (93, 1031, 65), (94, 1026, 65), (95, 1034, 65), (96, 1062, 65), (97, 1070, 65), (98, 1046, 65), (99, 1053, 65), (100, 1091, 65), (101, 1087, 65), (102, 1079, 65), (103, 1066, 65), (104, 1074, 65), (105, 1083, 65), (106, 1095, 65), (107, 1041, 65), (108, 1102, 65), (109, 1105, 65), (110, 1119, 65), (111, 1109, 65), (112, 1114, 65), (113, 1123, 65), (114, 1128, 65), (115, 1139, 65), (116, 1133, 65), (117, 1155, 65), (118, 1151, 65), (119, 1147, 65), (120, 1163, 65), (121, 1142, 65), (122, 1159, 65), (123, 1167, 65), (124, 1170, 65), (125, 1175, 65), (126, 1180, 65), (127, 1184, 65), (128, 1200, 65), (129, 1196, 65), (130, 1192, 65), (131, 1204, 65), (132, 1208, 65), (133, 1212, 65), (134, 1187, 65), (135, 1215, 65), (136, 1219, 65), (137, 690, 66), (138, 543, 66), (139, 202, 60)]
theorem fm_mw_ok : ∀ q ∈ fm_mw, lw_tbl[q.2.1]? = some (if fm_stc q.1 = true then Cond.static (fm_nm q.1) else Cond.instanceMethod (fm_nm q.1)) ∧ lw_tbl[q.2.2]? = some (Cond.initialized (fm_nm q.1).cls) := by decide +kernel
def fm_sv : List (Nat × Nat) := [(1, 199), (2, 612), (3, 620), (4, 675), (5, 698), (6, 628), (7, 15), (8, 671), (9, 716), (10, 790), (11, 756), (12, 760), (13, 764), (14, 21), (15, 772), (16, 802), (18, 744), (19, 658), (20, 14), (21, 16), (23, 17), (24, 18), (26, 599), (27, 711), (28, 19), (29, 728), (30, 736), (31, 702), (32, 707), (33, 780), (34, 22), (36, 380), (37, 384), (38, 388), (39, 650), (40, 637), (41, 571), (42, 580), (43, 641), (45, 334), (46, 810), (47, 776), (48, 794), (49, 23), (51, 497), (52, 518), (54, 510), (55, 7), (56, 4), (57, 11), (58, 12), (59, 13), (60, 5), (61, 8), (62, 10), (63, 6), (64, 9), (65, 0), (66, 1), (67, 2), (68, 3), (75, 493), (76, 501), (77, 505), (78, 604), (79, 608), (80, 616), (81, 624), (82, 633), (83, 646), (84, 654), (85, 723), (86, 740), (87, 748), (88, 806), (89, 814), (90, 20), (93, 24), (94, 1027), (95, 1035), (96, 26), (97, 28), (98, 25), (100, 33), (101, 32), (102, 30), (103, 27), (104, 29), (105, 31), (106, 34), (107, 1042), (108, 35), (109, 1106), (110, 36), (111, 1110), (112, 1115), (113, 1124), (114, 1129), (115, 37), (116, 1134), (117, 40), (118, 39), (119, 38), (120, 41), (121, 1143), (123, 42), (124, 1171), (125, 1176), (126, 43), (127, 44), (128, 47), (129, 46), (130, 45), (131, 48), (132, 49), (133, 50), (134, 1188), (135, 1216), (136, 1220)]
theorem fm_sv_ok : ∀ q ∈ fm_sv, lw_tbl[q.2]? = some (Cond.selects (fm_nm q.1).cls (fm_nm q.1) (fm_nm q.1)) := by decide +kernel
set_option maxRecDepth 100000 in
theorem fm_cw0 : lw_tbl[195]? = some (Cond.code (fm_nm 0) (fm_by 0) (fm_maxL 0) (fm_ret 0)) := rfl
set_option maxRecDepth 100000 in
theorem fm_cw1 : lw_tbl[200]? = some (Cond.code (fm_nm 1) (fm_by 1) (fm_maxL 1) (fm_ret 1)) := rfl
set_option maxRecDepth 100000 in
theorem fm_cw2 : lw_tbl[613]? = some (Cond.code (fm_nm 2) (fm_by 2) (fm_maxL 2) (fm_ret 2)) := rfl
set_option maxRecDepth 100000 in
theorem fm_cw3 : lw_tbl[621]? = some (Cond.code (fm_nm 3) (fm_by 3) (fm_maxL 3) (fm_ret 3)) := rfl
set_option maxRecDepth 100000 in
theorem fm_cw4 : lw_tbl[676]? = some (Cond.code (fm_nm 4) (fm_by 4) (fm_maxL 4) (fm_ret 4)) := rfl
set_option maxRecDepth 100000 in
theorem fm_cw5 : lw_tbl[699]? = some (Cond.code (fm_nm 5) (fm_by 5) (fm_maxL 5) (fm_ret 5)) := rfl
set_option maxRecDepth 100000 in
theorem fm_cw6 : lw_tbl[629]? = some (Cond.code (fm_nm 6) (fm_by 6) (fm_maxL 6) (fm_ret 6)) := rfl
set_option maxRecDepth 100000 in
theorem fm_cw7 : lw_tbl[680]? = some (Cond.code (fm_nm 7) (fm_by 7) (fm_maxL 7) (fm_ret 7)) := rfl
set_option maxRecDepth 100000 in
theorem fm_cw8 : lw_tbl[672]? = some (Cond.code (fm_nm 8) (fm_by 8) (fm_maxL 8) (fm_ret 8)) := rfl
set_option maxRecDepth 100000 in
theorem fm_cw9 : lw_tbl[717]? = some (Cond.code (fm_nm 9) (fm_by 9) (fm_maxL 9) (fm_ret 9)) := rfl
set_option maxRecDepth 100000 in
theorem fm_cw10 : lw_tbl[791]? = some (Cond.code (fm_nm 10) (fm_by 10) (fm_maxL 10) (fm_ret 10)) := rfl
set_option maxRecDepth 100000 in
theorem fm_cw11 : lw_tbl[757]? = some (Cond.code (fm_nm 11) (fm_by 11) (fm_maxL 11) (fm_ret 11)) := rfl
set_option maxRecDepth 100000 in
theorem fm_cw12 : lw_tbl[761]? = some (Cond.code (fm_nm 12) (fm_by 12) (fm_maxL 12) (fm_ret 12)) := rfl
set_option maxRecDepth 100000 in
theorem fm_cw13 : lw_tbl[765]? = some (Cond.code (fm_nm 13) (fm_by 13) (fm_maxL 13) (fm_ret 13)) := rfl
set_option maxRecDepth 100000 in
theorem fm_cw14 : lw_tbl[769]? = some (Cond.code (fm_nm 14) (fm_by 14) (fm_maxL 14) (fm_ret 14)) := rfl
set_option maxRecDepth 100000 in
theorem fm_cw15 : lw_tbl[773]? = some (Cond.code (fm_nm 15) (fm_by 15) (fm_maxL 15) (fm_ret 15)) := rfl
set_option maxRecDepth 100000 in
theorem fm_cw16 : lw_tbl[803]? = some (Cond.code (fm_nm 16) (fm_by 16) (fm_maxL 16) (fm_ret 16)) := rfl
set_option maxRecDepth 100000 in
theorem fm_cw17 : lw_tbl[267]? = some (Cond.code (fm_nm 17) (fm_by 17) (fm_maxL 17) (fm_ret 17)) := rfl
set_option maxRecDepth 100000 in
theorem fm_cw18 : lw_tbl[745]? = some (Cond.code (fm_nm 18) (fm_by 18) (fm_maxL 18) (fm_ret 18)) := rfl
set_option maxRecDepth 100000 in
theorem fm_cw19 : lw_tbl[659]? = some (Cond.code (fm_nm 19) (fm_by 19) (fm_maxL 19) (fm_ret 19)) := rfl
set_option maxRecDepth 100000 in
theorem fm_cw20 : lw_tbl[663]? = some (Cond.code (fm_nm 20) (fm_by 20) (fm_maxL 20) (fm_ret 20)) := rfl
set_option maxRecDepth 100000 in
theorem fm_cw21 : lw_tbl[684]? = some (Cond.code (fm_nm 21) (fm_by 21) (fm_maxL 21) (fm_ret 21)) := rfl
set_option maxRecDepth 100000 in
theorem fm_cw22 : lw_tbl[668]? = some (Cond.code (fm_nm 22) (fm_by 22) (fm_maxL 22) (fm_ret 22)) := rfl
set_option maxRecDepth 100000 in
theorem fm_cw23 : lw_tbl[688]? = some (Cond.code (fm_nm 23) (fm_by 23) (fm_maxL 23) (fm_ret 23)) := rfl
set_option maxRecDepth 100000 in
theorem fm_cw24 : lw_tbl[695]? = some (Cond.code (fm_nm 24) (fm_by 24) (fm_maxL 24) (fm_ret 24)) := rfl
set_option maxRecDepth 100000 in
theorem fm_cw25 : lw_tbl[294]? = some (Cond.code (fm_nm 25) (fm_by 25) (fm_maxL 25) (fm_ret 25)) := rfl
set_option maxRecDepth 100000 in
theorem fm_cw26 : lw_tbl[600]? = some (Cond.code (fm_nm 26) (fm_by 26) (fm_maxL 26) (fm_ret 26)) := rfl
set_option maxRecDepth 100000 in
theorem fm_cw27 : lw_tbl[712]? = some (Cond.code (fm_nm 27) (fm_by 27) (fm_maxL 27) (fm_ret 27)) := rfl
set_option maxRecDepth 100000 in
theorem fm_cw28 : lw_tbl[733]? = some (Cond.code (fm_nm 28) (fm_by 28) (fm_maxL 28) (fm_ret 28)) := rfl
set_option maxRecDepth 100000 in
theorem fm_cw29 : lw_tbl[729]? = some (Cond.code (fm_nm 29) (fm_by 29) (fm_maxL 29) (fm_ret 29)) := rfl
set_option maxRecDepth 100000 in
theorem fm_cw30 : lw_tbl[737]? = some (Cond.code (fm_nm 30) (fm_by 30) (fm_maxL 30) (fm_ret 30)) := rfl
set_option maxRecDepth 100000 in
theorem fm_cw31 : lw_tbl[703]? = some (Cond.code (fm_nm 31) (fm_by 31) (fm_maxL 31) (fm_ret 31)) := rfl
set_option maxRecDepth 100000 in
theorem fm_cw32 : lw_tbl[708]? = some (Cond.code (fm_nm 32) (fm_by 32) (fm_maxL 32) (fm_ret 32)) := rfl
set_option maxRecDepth 100000 in
theorem fm_cw33 : lw_tbl[781]? = some (Cond.code (fm_nm 33) (fm_by 33) (fm_maxL 33) (fm_ret 33)) := rfl
set_option maxRecDepth 100000 in
theorem fm_cw34 : lw_tbl[785]? = some (Cond.code (fm_nm 34) (fm_by 34) (fm_maxL 34) (fm_ret 34)) := rfl
set_option maxRecDepth 100000 in
theorem fm_cw35 : lw_tbl[376]? = some (Cond.code (fm_nm 35) (fm_by 35) (fm_maxL 35) (fm_ret 35)) := rfl
set_option maxRecDepth 100000 in
theorem fm_cw36 : lw_tbl[381]? = some (Cond.code (fm_nm 36) (fm_by 36) (fm_maxL 36) (fm_ret 36)) := rfl
set_option maxRecDepth 100000 in
theorem fm_cw37 : lw_tbl[385]? = some (Cond.code (fm_nm 37) (fm_by 37) (fm_maxL 37) (fm_ret 37)) := rfl
set_option maxRecDepth 100000 in
theorem fm_cw38 : lw_tbl[389]? = some (Cond.code (fm_nm 38) (fm_by 38) (fm_maxL 38) (fm_ret 38)) := rfl
set_option maxRecDepth 100000 in
theorem fm_cw39 : lw_tbl[651]? = some (Cond.code (fm_nm 39) (fm_by 39) (fm_maxL 39) (fm_ret 39)) := rfl
set_option maxRecDepth 100000 in
theorem fm_cw40 : lw_tbl[638]? = some (Cond.code (fm_nm 40) (fm_by 40) (fm_maxL 40) (fm_ret 40)) := rfl
set_option maxRecDepth 100000 in
theorem fm_cw41 : lw_tbl[572]? = some (Cond.code (fm_nm 41) (fm_by 41) (fm_maxL 41) (fm_ret 41)) := rfl
set_option maxRecDepth 100000 in
theorem fm_cw42 : lw_tbl[581]? = some (Cond.code (fm_nm 42) (fm_by 42) (fm_maxL 42) (fm_ret 42)) := rfl
set_option maxRecDepth 100000 in
theorem fm_cw43 : lw_tbl[642]? = some (Cond.code (fm_nm 43) (fm_by 43) (fm_maxL 43) (fm_ret 43)) := rfl
set_option maxRecDepth 100000 in
theorem fm_cw44 : lw_tbl[330]? = some (Cond.code (fm_nm 44) (fm_by 44) (fm_maxL 44) (fm_ret 44)) := rfl
set_option maxRecDepth 100000 in
theorem fm_cw45 : lw_tbl[335]? = some (Cond.code (fm_nm 45) (fm_by 45) (fm_maxL 45) (fm_ret 45)) := rfl
set_option maxRecDepth 100000 in
theorem fm_cw46 : lw_tbl[811]? = some (Cond.code (fm_nm 46) (fm_by 46) (fm_maxL 46) (fm_ret 46)) := rfl
set_option maxRecDepth 100000 in
theorem fm_cw47 : lw_tbl[777]? = some (Cond.code (fm_nm 47) (fm_by 47) (fm_maxL 47) (fm_ret 47)) := rfl
set_option maxRecDepth 100000 in
theorem fm_cw48 : lw_tbl[795]? = some (Cond.code (fm_nm 48) (fm_by 48) (fm_maxL 48) (fm_ret 48)) := rfl
set_option maxRecDepth 100000 in
theorem fm_cw49 : lw_tbl[799]? = some (Cond.code (fm_nm 49) (fm_by 49) (fm_maxL 49) (fm_ret 49)) := rfl
set_option maxRecDepth 100000 in
theorem fm_cw50 : lw_tbl[79]? = some (Cond.code (fm_nm 50) (fm_by 50) (fm_maxL 50) (fm_ret 50)) := rfl
set_option maxRecDepth 100000 in
theorem fm_cw51 : lw_tbl[498]? = some (Cond.code (fm_nm 51) (fm_by 51) (fm_maxL 51) (fm_ret 51)) := rfl
set_option maxRecDepth 100000 in
theorem fm_cw52 : lw_tbl[519]? = some (Cond.code (fm_nm 52) (fm_by 52) (fm_maxL 52) (fm_ret 52)) := rfl
set_option maxRecDepth 100000 in
theorem fm_cw53 : lw_tbl[94]? = some (Cond.code (fm_nm 53) (fm_by 53) (fm_maxL 53) (fm_ret 53)) := rfl
set_option maxRecDepth 100000 in
theorem fm_cw54 : lw_tbl[511]? = some (Cond.code (fm_nm 54) (fm_by 54) (fm_maxL 54) (fm_ret 54)) := rfl
set_option maxRecDepth 100000 in
theorem fm_cw55 : lw_tbl[560]? = some (Cond.code (fm_nm 55) (fm_by 55) (fm_maxL 55) (fm_ret 55)) := rfl
set_option maxRecDepth 100000 in
theorem fm_cw56 : lw_tbl[548]? = some (Cond.code (fm_nm 56) (fm_by 56) (fm_maxL 56) (fm_ret 56)) := rfl
set_option maxRecDepth 100000 in
theorem fm_cw57 : lw_tbl[585]? = some (Cond.code (fm_nm 57) (fm_by 57) (fm_maxL 57) (fm_ret 57)) := rfl
set_option maxRecDepth 100000 in
theorem fm_cw58 : lw_tbl[591]? = some (Cond.code (fm_nm 58) (fm_by 58) (fm_maxL 58) (fm_ret 58)) := rfl
set_option maxRecDepth 100000 in
theorem fm_cw59 : lw_tbl[595]? = some (Cond.code (fm_nm 59) (fm_by 59) (fm_maxL 59) (fm_ret 59)) := rfl
set_option maxRecDepth 100000 in
theorem fm_cw60 : lw_tbl[552]? = some (Cond.code (fm_nm 60) (fm_by 60) (fm_maxL 60) (fm_ret 60)) := rfl
set_option maxRecDepth 100000 in
theorem fm_cw61 : lw_tbl[564]? = some (Cond.code (fm_nm 61) (fm_by 61) (fm_maxL 61) (fm_ret 61)) := rfl
set_option maxRecDepth 100000 in
theorem fm_cw62 : lw_tbl[576]? = some (Cond.code (fm_nm 62) (fm_by 62) (fm_maxL 62) (fm_ret 62)) := rfl
set_option maxRecDepth 100000 in
theorem fm_cw63 : lw_tbl[556]? = some (Cond.code (fm_nm 63) (fm_by 63) (fm_maxL 63) (fm_ret 63)) := rfl
set_option maxRecDepth 100000 in
theorem fm_cw64 : lw_tbl[568]? = some (Cond.code (fm_nm 64) (fm_by 64) (fm_maxL 64) (fm_ret 64)) := rfl
set_option maxRecDepth 100000 in
theorem fm_cw65 : lw_tbl[515]? = some (Cond.code (fm_nm 65) (fm_by 65) (fm_maxL 65) (fm_ret 65)) := rfl
set_option maxRecDepth 100000 in
theorem fm_cw66 : lw_tbl[529]? = some (Cond.code (fm_nm 66) (fm_by 66) (fm_maxL 66) (fm_ret 66)) := rfl
set_option maxRecDepth 100000 in
theorem fm_cw67 : lw_tbl[533]? = some (Cond.code (fm_nm 67) (fm_by 67) (fm_maxL 67) (fm_ret 67)) := rfl
set_option maxRecDepth 100000 in
theorem fm_cw68 : lw_tbl[540]? = some (Cond.code (fm_nm 68) (fm_by 68) (fm_maxL 68) (fm_ret 68)) := rfl
set_option maxRecDepth 100000 in
theorem fm_cw69 : lw_tbl[99]? = some (Cond.code (fm_nm 69) (fm_by 69) (fm_maxL 69) (fm_ret 69)) := rfl
set_option maxRecDepth 100000 in
theorem fm_cw70 : lw_tbl[151]? = some (Cond.code (fm_nm 70) (fm_by 70) (fm_maxL 70) (fm_ret 70)) := rfl
set_option maxRecDepth 100000 in
theorem fm_cw71 : lw_tbl[525]? = some (Cond.code (fm_nm 71) (fm_by 71) (fm_maxL 71) (fm_ret 71)) := rfl
set_option maxRecDepth 100000 in
theorem fm_cw72 : lw_tbl[536]? = some (Cond.code (fm_nm 72) (fm_by 72) (fm_maxL 72) (fm_ret 72)) := rfl
set_option maxRecDepth 100000 in
theorem fm_cw73 : lw_tbl[522]? = some (Cond.code (fm_nm 73) (fm_by 73) (fm_maxL 73) (fm_ret 73)) := rfl
set_option maxRecDepth 100000 in
theorem fm_cw74 : lw_tbl[71]? = some (Cond.code (fm_nm 74) (fm_by 74) (fm_maxL 74) (fm_ret 74)) := rfl
set_option maxRecDepth 100000 in
theorem fm_cw75 : lw_tbl[494]? = some (Cond.code (fm_nm 75) (fm_by 75) (fm_maxL 75) (fm_ret 75)) := rfl
set_option maxRecDepth 100000 in
theorem fm_cw76 : lw_tbl[502]? = some (Cond.code (fm_nm 76) (fm_by 76) (fm_maxL 76) (fm_ret 76)) := rfl
set_option maxRecDepth 100000 in
theorem fm_cw77 : lw_tbl[506]? = some (Cond.code (fm_nm 77) (fm_by 77) (fm_maxL 77) (fm_ret 77)) := rfl
set_option maxRecDepth 100000 in
theorem fm_cw78 : lw_tbl[605]? = some (Cond.code (fm_nm 78) (fm_by 78) (fm_maxL 78) (fm_ret 78)) := rfl
set_option maxRecDepth 100000 in
theorem fm_cw79 : lw_tbl[609]? = some (Cond.code (fm_nm 79) (fm_by 79) (fm_maxL 79) (fm_ret 79)) := rfl
set_option maxRecDepth 100000 in
theorem fm_cw80 : lw_tbl[617]? = some (Cond.code (fm_nm 80) (fm_by 80) (fm_maxL 80) (fm_ret 80)) := rfl
set_option maxRecDepth 100000 in
theorem fm_cw81 : lw_tbl[625]? = some (Cond.code (fm_nm 81) (fm_by 81) (fm_maxL 81) (fm_ret 81)) := rfl
set_option maxRecDepth 100000 in
theorem fm_cw82 : lw_tbl[634]? = some (Cond.code (fm_nm 82) (fm_by 82) (fm_maxL 82) (fm_ret 82)) := rfl
set_option maxRecDepth 100000 in
theorem fm_cw83 : lw_tbl[647]? = some (Cond.code (fm_nm 83) (fm_by 83) (fm_maxL 83) (fm_ret 83)) := rfl
set_option maxRecDepth 100000 in
theorem fm_cw84 : lw_tbl[655]? = some (Cond.code (fm_nm 84) (fm_by 84) (fm_maxL 84) (fm_ret 84)) := rfl
set_option maxRecDepth 100000 in
theorem fm_cw85 : lw_tbl[724]? = some (Cond.code (fm_nm 85) (fm_by 85) (fm_maxL 85) (fm_ret 85)) := rfl
set_option maxRecDepth 100000 in
theorem fm_cw86 : lw_tbl[741]? = some (Cond.code (fm_nm 86) (fm_by 86) (fm_maxL 86) (fm_ret 86)) := rfl
set_option maxRecDepth 100000 in
theorem fm_cw87 : lw_tbl[749]? = some (Cond.code (fm_nm 87) (fm_by 87) (fm_maxL 87) (fm_ret 87)) := rfl
set_option maxRecDepth 100000 in
theorem fm_cw88 : lw_tbl[807]? = some (Cond.code (fm_nm 88) (fm_by 88) (fm_maxL 88) (fm_ret 88)) := rfl
set_option maxRecDepth 100000 in
theorem fm_cw89 : lw_tbl[815]? = some (Cond.code (fm_nm 89) (fm_by 89) (fm_maxL 89) (fm_ret 89)) := rfl
set_option maxRecDepth 100000 in
theorem fm_cw90 : lw_tbl[753]? = some (Cond.code (fm_nm 90) (fm_by 90) (fm_maxL 90) (fm_ret 90)) := rfl
set_option maxRecDepth 100000 in
theorem fm_cw91 : lw_tbl[820]? = some (Cond.code (fm_nm 91) (fm_by 91) (fm_maxL 91) (fm_ret 91)) := rfl
set_option maxRecDepth 100000 in
theorem fm_cw92 : lw_tbl[1039]? = some (Cond.code (fm_nm 92) (fm_by 92) (fm_maxL 92) (fm_ret 92)) := rfl
set_option maxRecDepth 100000 in
theorem fm_cw93 : lw_tbl[1032]? = some (Cond.code (fm_nm 93) (fm_by 93) (fm_maxL 93) (fm_ret 93)) := rfl
set_option maxRecDepth 100000 in
theorem fm_cw94 : lw_tbl[1028]? = some (Cond.code (fm_nm 94) (fm_by 94) (fm_maxL 94) (fm_ret 94)) := rfl
set_option maxRecDepth 100000 in
theorem fm_cw95 : lw_tbl[1036]? = some (Cond.code (fm_nm 95) (fm_by 95) (fm_maxL 95) (fm_ret 95)) := rfl
set_option maxRecDepth 100000 in
theorem fm_cw96 : lw_tbl[1063]? = some (Cond.code (fm_nm 96) (fm_by 96) (fm_maxL 96) (fm_ret 96)) := rfl
set_option maxRecDepth 100000 in
theorem fm_cw97 : lw_tbl[1071]? = some (Cond.code (fm_nm 97) (fm_by 97) (fm_maxL 97) (fm_ret 97)) := rfl
set_option maxRecDepth 100000 in
theorem fm_cw98 : lw_tbl[1047]? = some (Cond.code (fm_nm 98) (fm_by 98) (fm_maxL 98) (fm_ret 98)) := rfl
set_option maxRecDepth 100000 in
theorem fm_cw99 : lw_tbl[1054]? = some (Cond.code (fm_nm 99) (fm_by 99) (fm_maxL 99) (fm_ret 99)) := rfl
set_option maxRecDepth 100000 in
theorem fm_cw100 : lw_tbl[1092]? = some (Cond.code (fm_nm 100) (fm_by 100) (fm_maxL 100) (fm_ret 100)) := rfl
set_option maxRecDepth 100000 in
theorem fm_cw101 : lw_tbl[1088]? = some (Cond.code (fm_nm 101) (fm_by 101) (fm_maxL 101) (fm_ret 101)) := rfl
set_option maxRecDepth 100000 in
theorem fm_cw102 : lw_tbl[1080]? = some (Cond.code (fm_nm 102) (fm_by 102) (fm_maxL 102) (fm_ret 102)) := rfl
set_option maxRecDepth 100000 in
theorem fm_cw103 : lw_tbl[1067]? = some (Cond.code (fm_nm 103) (fm_by 103) (fm_maxL 103) (fm_ret 103)) := rfl
set_option maxRecDepth 100000 in
theorem fm_cw104 : lw_tbl[1075]? = some (Cond.code (fm_nm 104) (fm_by 104) (fm_maxL 104) (fm_ret 104)) := rfl
set_option maxRecDepth 100000 in
theorem fm_cw105 : lw_tbl[1084]? = some (Cond.code (fm_nm 105) (fm_by 105) (fm_maxL 105) (fm_ret 105)) := rfl
set_option maxRecDepth 100000 in
theorem fm_cw106 : lw_tbl[1096]? = some (Cond.code (fm_nm 106) (fm_by 106) (fm_maxL 106) (fm_ret 106)) := rfl
set_option maxRecDepth 100000 in
theorem fm_cw107 : lw_tbl[1043]? = some (Cond.code (fm_nm 107) (fm_by 107) (fm_maxL 107) (fm_ret 107)) := rfl
set_option maxRecDepth 100000 in
theorem fm_cw108 : lw_tbl[1103]? = some (Cond.code (fm_nm 108) (fm_by 108) (fm_maxL 108) (fm_ret 108)) := rfl
set_option maxRecDepth 100000 in
theorem fm_cw109 : lw_tbl[1107]? = some (Cond.code (fm_nm 109) (fm_by 109) (fm_maxL 109) (fm_ret 109)) := rfl
set_option maxRecDepth 100000 in
theorem fm_cw110 : lw_tbl[1120]? = some (Cond.code (fm_nm 110) (fm_by 110) (fm_maxL 110) (fm_ret 110)) := rfl
set_option maxRecDepth 100000 in
theorem fm_cw111 : lw_tbl[1111]? = some (Cond.code (fm_nm 111) (fm_by 111) (fm_maxL 111) (fm_ret 111)) := rfl
set_option maxRecDepth 100000 in
theorem fm_cw112 : lw_tbl[1116]? = some (Cond.code (fm_nm 112) (fm_by 112) (fm_maxL 112) (fm_ret 112)) := rfl
set_option maxRecDepth 100000 in
theorem fm_cw113 : lw_tbl[1125]? = some (Cond.code (fm_nm 113) (fm_by 113) (fm_maxL 113) (fm_ret 113)) := rfl
set_option maxRecDepth 100000 in
theorem fm_cw114 : lw_tbl[1130]? = some (Cond.code (fm_nm 114) (fm_by 114) (fm_maxL 114) (fm_ret 114)) := rfl
set_option maxRecDepth 100000 in
theorem fm_cw115 : lw_tbl[1140]? = some (Cond.code (fm_nm 115) (fm_by 115) (fm_maxL 115) (fm_ret 115)) := rfl
set_option maxRecDepth 100000 in
theorem fm_cw116 : lw_tbl[1135]? = some (Cond.code (fm_nm 116) (fm_by 116) (fm_maxL 116) (fm_ret 116)) := rfl
set_option maxRecDepth 100000 in
theorem fm_cw117 : lw_tbl[1156]? = some (Cond.code (fm_nm 117) (fm_by 117) (fm_maxL 117) (fm_ret 117)) := rfl
set_option maxRecDepth 100000 in
theorem fm_cw118 : lw_tbl[1152]? = some (Cond.code (fm_nm 118) (fm_by 118) (fm_maxL 118) (fm_ret 118)) := rfl
set_option maxRecDepth 100000 in
theorem fm_cw119 : lw_tbl[1148]? = some (Cond.code (fm_nm 119) (fm_by 119) (fm_maxL 119) (fm_ret 119)) := rfl
set_option maxRecDepth 100000 in
theorem fm_cw120 : lw_tbl[1164]? = some (Cond.code (fm_nm 120) (fm_by 120) (fm_maxL 120) (fm_ret 120)) := rfl
set_option maxRecDepth 100000 in
theorem fm_cw121 : lw_tbl[1144]? = some (Cond.code (fm_nm 121) (fm_by 121) (fm_maxL 121) (fm_ret 121)) := rfl
set_option maxRecDepth 100000 in
theorem fm_cw122 : lw_tbl[1160]? = some (Cond.code (fm_nm 122) (fm_by 122) (fm_maxL 122) (fm_ret 122)) := rfl
set_option maxRecDepth 100000 in
theorem fm_cw123 : lw_tbl[1168]? = some (Cond.code (fm_nm 123) (fm_by 123) (fm_maxL 123) (fm_ret 123)) := rfl
set_option maxRecDepth 100000 in
theorem fm_cw124 : lw_tbl[1172]? = some (Cond.code (fm_nm 124) (fm_by 124) (fm_maxL 124) (fm_ret 124)) := rfl
set_option maxRecDepth 100000 in
theorem fm_cw125 : lw_tbl[1177]? = some (Cond.code (fm_nm 125) (fm_by 125) (fm_maxL 125) (fm_ret 125)) := rfl
set_option maxRecDepth 100000 in
theorem fm_cw126 : lw_tbl[1181]? = some (Cond.code (fm_nm 126) (fm_by 126) (fm_maxL 126) (fm_ret 126)) := rfl
set_option maxRecDepth 100000 in
theorem fm_cw127 : lw_tbl[1185]? = some (Cond.code (fm_nm 127) (fm_by 127) (fm_maxL 127) (fm_ret 127)) := rfl
set_option maxRecDepth 100000 in
theorem fm_cw128 : lw_tbl[1201]? = some (Cond.code (fm_nm 128) (fm_by 128) (fm_maxL 128) (fm_ret 128)) := rfl
set_option maxRecDepth 100000 in
theorem fm_cw129 : lw_tbl[1197]? = some (Cond.code (fm_nm 129) (fm_by 129) (fm_maxL 129) (fm_ret 129)) := rfl
set_option maxRecDepth 100000 in
theorem fm_cw130 : lw_tbl[1193]? = some (Cond.code (fm_nm 130) (fm_by 130) (fm_maxL 130) (fm_ret 130)) := rfl
set_option maxRecDepth 100000 in
theorem fm_cw131 : lw_tbl[1205]? = some (Cond.code (fm_nm 131) (fm_by 131) (fm_maxL 131) (fm_ret 131)) := rfl
set_option maxRecDepth 100000 in
theorem fm_cw132 : lw_tbl[1209]? = some (Cond.code (fm_nm 132) (fm_by 132) (fm_maxL 132) (fm_ret 132)) := rfl
set_option maxRecDepth 100000 in
theorem fm_cw133 : lw_tbl[1213]? = some (Cond.code (fm_nm 133) (fm_by 133) (fm_maxL 133) (fm_ret 133)) := rfl
set_option maxRecDepth 100000 in
theorem fm_cw134 : lw_tbl[1189]? = some (Cond.code (fm_nm 134) (fm_by 134) (fm_maxL 134) (fm_ret 134)) := rfl
set_option maxRecDepth 100000 in
theorem fm_cw135 : lw_tbl[1217]? = some (Cond.code (fm_nm 135) (fm_by 135) (fm_maxL 135) (fm_ret 135)) := rfl
set_option maxRecDepth 100000 in
theorem fm_cw136 : lw_tbl[1221]? = some (Cond.code (fm_nm 136) (fm_by 136) (fm_maxL 136) (fm_ret 136)) := rfl
set_option maxRecDepth 100000 in
theorem fm_cw137 : lw_tbl[691]? = some (Cond.code (fm_nm 137) (fm_by 137) (fm_maxL 137) (fm_ret 137)) := rfl
set_option maxRecDepth 100000 in
theorem fm_cw138 : lw_tbl[544]? = some (Cond.code (fm_nm 138) (fm_by 138) (fm_maxL 138) (fm_ret 138)) := rfl
set_option maxRecDepth 100000 in
theorem fm_cw139 : lw_tbl[203]? = some (Cond.code (fm_nm 139) (fm_by 139) (fm_maxL 139) (fm_ret 139)) := rfl
theorem fm_cw_ok : ∀ y : Nat, y < 140 → Cond.code (fm_nm y) (fm_by y) (fm_maxL y) (fm_ret y) ∈ lw_tbl := by
  intro y hy
  match y, hy with
  | 0, _ => exact List.mem_of_getElem? fm_cw0
  | 1, _ => exact List.mem_of_getElem? fm_cw1
  | 2, _ => exact List.mem_of_getElem? fm_cw2
  | 3, _ => exact List.mem_of_getElem? fm_cw3
  | 4, _ => exact List.mem_of_getElem? fm_cw4
  | 5, _ => exact List.mem_of_getElem? fm_cw5
  | 6, _ => exact List.mem_of_getElem? fm_cw6
  | 7, _ => exact List.mem_of_getElem? fm_cw7
  | 8, _ => exact List.mem_of_getElem? fm_cw8
  | 9, _ => exact List.mem_of_getElem? fm_cw9
  | 10, _ => exact List.mem_of_getElem? fm_cw10
  | 11, _ => exact List.mem_of_getElem? fm_cw11
  | 12, _ => exact List.mem_of_getElem? fm_cw12
  | 13, _ => exact List.mem_of_getElem? fm_cw13
  | 14, _ => exact List.mem_of_getElem? fm_cw14
  | 15, _ => exact List.mem_of_getElem? fm_cw15
  | 16, _ => exact List.mem_of_getElem? fm_cw16
  | 17, _ => exact List.mem_of_getElem? fm_cw17
  | 18, _ => exact List.mem_of_getElem? fm_cw18
  | 19, _ => exact List.mem_of_getElem? fm_cw19
  | 20, _ => exact List.mem_of_getElem? fm_cw20
  | 21, _ => exact List.mem_of_getElem? fm_cw21
  | 22, _ => exact List.mem_of_getElem? fm_cw22
  | 23, _ => exact List.mem_of_getElem? fm_cw23
  | 24, _ => exact List.mem_of_getElem? fm_cw24
  | 25, _ => exact List.mem_of_getElem? fm_cw25
  | 26, _ => exact List.mem_of_getElem? fm_cw26
  | 27, _ => exact List.mem_of_getElem? fm_cw27
  | 28, _ => exact List.mem_of_getElem? fm_cw28
  | 29, _ => exact List.mem_of_getElem? fm_cw29
  | 30, _ => exact List.mem_of_getElem? fm_cw30
  | 31, _ => exact List.mem_of_getElem? fm_cw31
  | 32, _ => exact List.mem_of_getElem? fm_cw32
  | 33, _ => exact List.mem_of_getElem? fm_cw33
  | 34, _ => exact List.mem_of_getElem? fm_cw34
  | 35, _ => exact List.mem_of_getElem? fm_cw35
  | 36, _ => exact List.mem_of_getElem? fm_cw36
  | 37, _ => exact List.mem_of_getElem? fm_cw37
  | 38, _ => exact List.mem_of_getElem? fm_cw38
  | 39, _ => exact List.mem_of_getElem? fm_cw39
  | 40, _ => exact List.mem_of_getElem? fm_cw40
  | 41, _ => exact List.mem_of_getElem? fm_cw41
  | 42, _ => exact List.mem_of_getElem? fm_cw42
  | 43, _ => exact List.mem_of_getElem? fm_cw43
  | 44, _ => exact List.mem_of_getElem? fm_cw44
  | 45, _ => exact List.mem_of_getElem? fm_cw45
  | 46, _ => exact List.mem_of_getElem? fm_cw46
  | 47, _ => exact List.mem_of_getElem? fm_cw47
  | 48, _ => exact List.mem_of_getElem? fm_cw48
  | 49, _ => exact List.mem_of_getElem? fm_cw49
  | 50, _ => exact List.mem_of_getElem? fm_cw50
  | 51, _ => exact List.mem_of_getElem? fm_cw51
  | 52, _ => exact List.mem_of_getElem? fm_cw52
  | 53, _ => exact List.mem_of_getElem? fm_cw53
  | 54, _ => exact List.mem_of_getElem? fm_cw54
  | 55, _ => exact List.mem_of_getElem? fm_cw55
  | 56, _ => exact List.mem_of_getElem? fm_cw56
  | 57, _ => exact List.mem_of_getElem? fm_cw57
  | 58, _ => exact List.mem_of_getElem? fm_cw58
  | 59, _ => exact List.mem_of_getElem? fm_cw59
  | 60, _ => exact List.mem_of_getElem? fm_cw60
  | 61, _ => exact List.mem_of_getElem? fm_cw61
  | 62, _ => exact List.mem_of_getElem? fm_cw62
  | 63, _ => exact List.mem_of_getElem? fm_cw63
  | 64, _ => exact List.mem_of_getElem? fm_cw64
  | 65, _ => exact List.mem_of_getElem? fm_cw65
  | 66, _ => exact List.mem_of_getElem? fm_cw66
  | 67, _ => exact List.mem_of_getElem? fm_cw67
  | 68, _ => exact List.mem_of_getElem? fm_cw68
  | 69, _ => exact List.mem_of_getElem? fm_cw69
  | 70, _ => exact List.mem_of_getElem? fm_cw70
  | 71, _ => exact List.mem_of_getElem? fm_cw71
  | 72, _ => exact List.mem_of_getElem? fm_cw72
  | 73, _ => exact List.mem_of_getElem? fm_cw73
  | 74, _ => exact List.mem_of_getElem? fm_cw74
  | 75, _ => exact List.mem_of_getElem? fm_cw75
  | 76, _ => exact List.mem_of_getElem? fm_cw76
  | 77, _ => exact List.mem_of_getElem? fm_cw77
  | 78, _ => exact List.mem_of_getElem? fm_cw78
  | 79, _ => exact List.mem_of_getElem? fm_cw79
  | 80, _ => exact List.mem_of_getElem? fm_cw80
  | 81, _ => exact List.mem_of_getElem? fm_cw81
  | 82, _ => exact List.mem_of_getElem? fm_cw82
  | 83, _ => exact List.mem_of_getElem? fm_cw83
  | 84, _ => exact List.mem_of_getElem? fm_cw84
  | 85, _ => exact List.mem_of_getElem? fm_cw85
  | 86, _ => exact List.mem_of_getElem? fm_cw86
  | 87, _ => exact List.mem_of_getElem? fm_cw87
  | 88, _ => exact List.mem_of_getElem? fm_cw88
  | 89, _ => exact List.mem_of_getElem? fm_cw89
  | 90, _ => exact List.mem_of_getElem? fm_cw90
  | 91, _ => exact List.mem_of_getElem? fm_cw91
  | 92, _ => exact List.mem_of_getElem? fm_cw92
  | 93, _ => exact List.mem_of_getElem? fm_cw93
  | 94, _ => exact List.mem_of_getElem? fm_cw94
  | 95, _ => exact List.mem_of_getElem? fm_cw95
  | 96, _ => exact List.mem_of_getElem? fm_cw96
  | 97, _ => exact List.mem_of_getElem? fm_cw97
  | 98, _ => exact List.mem_of_getElem? fm_cw98
  | 99, _ => exact List.mem_of_getElem? fm_cw99
  | 100, _ => exact List.mem_of_getElem? fm_cw100
  | 101, _ => exact List.mem_of_getElem? fm_cw101
  | 102, _ => exact List.mem_of_getElem? fm_cw102
  | 103, _ => exact List.mem_of_getElem? fm_cw103
  | 104, _ => exact List.mem_of_getElem? fm_cw104
  | 105, _ => exact List.mem_of_getElem? fm_cw105
  | 106, _ => exact List.mem_of_getElem? fm_cw106
  | 107, _ => exact List.mem_of_getElem? fm_cw107
  | 108, _ => exact List.mem_of_getElem? fm_cw108
  | 109, _ => exact List.mem_of_getElem? fm_cw109
  | 110, _ => exact List.mem_of_getElem? fm_cw110
  | 111, _ => exact List.mem_of_getElem? fm_cw111
  | 112, _ => exact List.mem_of_getElem? fm_cw112
  | 113, _ => exact List.mem_of_getElem? fm_cw113
  | 114, _ => exact List.mem_of_getElem? fm_cw114
  | 115, _ => exact List.mem_of_getElem? fm_cw115
  | 116, _ => exact List.mem_of_getElem? fm_cw116
  | 117, _ => exact List.mem_of_getElem? fm_cw117
  | 118, _ => exact List.mem_of_getElem? fm_cw118
  | 119, _ => exact List.mem_of_getElem? fm_cw119
  | 120, _ => exact List.mem_of_getElem? fm_cw120
  | 121, _ => exact List.mem_of_getElem? fm_cw121
  | 122, _ => exact List.mem_of_getElem? fm_cw122
  | 123, _ => exact List.mem_of_getElem? fm_cw123
  | 124, _ => exact List.mem_of_getElem? fm_cw124
  | 125, _ => exact List.mem_of_getElem? fm_cw125
  | 126, _ => exact List.mem_of_getElem? fm_cw126
  | 127, _ => exact List.mem_of_getElem? fm_cw127
  | 128, _ => exact List.mem_of_getElem? fm_cw128
  | 129, _ => exact List.mem_of_getElem? fm_cw129
  | 130, _ => exact List.mem_of_getElem? fm_cw130
  | 131, _ => exact List.mem_of_getElem? fm_cw131
  | 132, _ => exact List.mem_of_getElem? fm_cw132
  | 133, _ => exact List.mem_of_getElem? fm_cw133
  | 134, _ => exact List.mem_of_getElem? fm_cw134
  | 135, _ => exact List.mem_of_getElem? fm_cw135
  | 136, _ => exact List.mem_of_getElem? fm_cw136
  | 137, _ => exact List.mem_of_getElem? fm_cw137
  | 138, _ => exact List.mem_of_getElem? fm_cw138
  | 139, _ => exact List.mem_of_getElem? fm_cw139
  | k + 140, h => exact absurd h (by omega)
