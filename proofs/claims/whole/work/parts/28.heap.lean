/-! References that stay: by program (wip/whole/gen/emit_heap.py) -/
def hrT : List (Nat × Nat × Nat) := [(43, 0, 44), (43, 1, 46), (43, 2, 48), (43, 3, 49), (43, 4, 78), (43, 5, 85), (43, 6, 90), (43, 7, 91), (43, 8, 98), (43, 9, 99), (43, 13, 105), (43, 14, 112), (43, 15, 113), (43, 16, 152), (43, 17, 157), (43, 18, 158), (44, 0, 45), (48, 0, 159), (48, 1, 188), (48, 2, 217), (48, 3, 246), (48, 4, 275), (48, 5, 304), (48, 6, 333), (48, 7, 362), (48, 8, 391), (48, 9, 420), (48, 10, 449), (48, 11, 478), (48, 12, 507), (48, 13, 536), (48, 14, 565), (48, 15, 594), (49, 0, 50), (49, 2, 51), (49, 3, 52), (49, 4, 53), (50, 0, 54), (50, 1, 57), (50, 2, 60), (50, 3, 63), (50, 4, 66), (50, 5, 69), (50, 6, 72), (50, 7, 75), (54, 2, 55), (54, 3, 56), (57, 2, 58), (57, 3, 59), (60, 2, 61), (60, 3, 62), (63, 2, 64), (63, 3, 65), (66, 2, 67), (66, 3, 68), (69, 2, 70), (69, 3, 71), (72, 2, 73), (72, 3, 74), (75, 2, 76), (75, 3, 77), (78, 0, 79), (78, 1, 80), (78, 2, 81), (78, 3, 82), (78, 6, 83), (78, 7, 84), (85, 0, 86), (85, 1, 87), (85, 2, 88), (85, 3, 89), (90, 0, 623), (90, 1, 626), (90, 2, 629), (90, 3, 632), (91, 0, 92), (91, 1, 93), (91, 3, 94), (91, 4, 95), (91, 5, 96), (91, 6, 97), (98, 0, 635), (98, 1, 641), (98, 2, 647), (98, 3, 653), (98, 4, 659), (98, 5, 665), (98, 6, 671), (98, 7, 677), (98, 8, 683), (98, 9, 689), (99, 3, 100), (99, 4, 103), (99, 5, 104), (100, 0, 101), (100, 1, 102), (105, 0, 106), (105, 1, 107), (105, 2, 108), (105, 3, 109), (105, 5, 110), (105, 6, 111), (112, 0, 695), (112, 1, 698), (112, 2, 701), (113, 0, 114), (113, 1, 115), (113, 3, 127), (113, 4, 138), (113, 5, 139), (113, 6, 140), (113, 7, 141), (113, 8, 142), (113, 9, 143), (115, 0, 116), (115, 1, 117), (115, 2, 118), (115, 3, 119), (115, 4, 120), (115, 5, 121), (115, 6, 122), (115, 7, 123), (115, 8, 124), (115, 9, 125), (115, 10, 126), (127, 0, 128), (127, 1, 129), (127, 2, 130), (127, 3, 131), (127, 4, 132), (127, 5, 133), (127, 6, 134), (127, 7, 135), (127, 8, 136), (127, 9, 137), (143, 0, 144), (143, 1, 145), (143, 2, 146), (143, 3, 147), (143, 4, 148), (143, 5, 149), (143, 6, 150), (143, 7, 151), (152, 0, 153), (152, 1, 154), (152, 2, 155), (152, 3, 156), (159, 0, 160), (159, 2, 161), (159, 3, 162), (159, 4, 163), (164, 2, 165), (164, 3, 166), (167, 2, 168), (167, 3, 169), (170, 2, 171), (170, 3, 172), (173, 2, 174), (173, 3, 175), (176, 2, 177), (176, 3, 178), (179, 2, 180), (179, 3, 181), (182, 2, 183), (182, 3, 184), (185, 2, 186), (185, 3, 187), (188, 0, 189), (188, 2, 190), (188, 3, 191), (188, 4, 192), (193, 2, 194), (193, 3, 195), (196, 2, 197), (196, 3, 198), (199, 2, 200), (199, 3, 201), (202, 2, 203), (202, 3, 204), (205, 2, 206), (205, 3, 207), (208, 2, 209), (208, 3, 210), (211, 2, 212), (211, 3, 213), (214, 2, 215), (214, 3, 216), (217, 0, 218), (217, 2, 219), (217, 3, 220), (217, 4, 221), (222, 2, 223), (222, 3, 224), (225, 2, 226), (225, 3, 227), (228, 2, 229), (228, 3, 230), (231, 2, 232), (231, 3, 233), (234, 2, 235), (234, 3, 236), (237, 2, 238), (237, 3, 239), (240, 2, 241), (240, 3, 242), (243, 2, 244), (243, 3, 245), (246, 0, 247), (246, 2, 248), (246, 3, 249), (246, 4, 250), (251, 2, 252), (251, 3, 253), (254, 2, 255), (254, 3, 256), (257, 2, 258), (257, 3, 259), (260, 2, 261), (260, 3, 262), (263, 2, 264), (263, 3, 265), (266, 2, 267), (266, 3, 268), (269, 2, 270), (269, 3, 271), (272, 2, 273), (272, 3, 274), (275, 0, 276), (275, 2, 277), (275, 3, 278), (275, 4, 279), (280, 2, 281), (280, 3, 282), (283, 2, 284), (283, 3, 285), (286, 2, 287), (286, 3, 288), (289, 2, 290), (289, 3, 291), (292, 2, 293), (292, 3, 294), (295, 2, 296), (295, 3, 297), (298, 2, 299), (298, 3, 300), (301, 2, 302), (301, 3, 303), (304, 0, 305), (304, 2, 306), (304, 3, 307), (304, 4, 308), (309, 2, 310), (309, 3, 311), (312, 2, 313), (312, 3, 314), (315, 2, 316), (315, 3, 317), (318, 2, 319), (318, 3, 320), (321, 2, 322), (321, 3, 323), (324, 2, 325), (324, 3, 326), (327, 2, 328), (327, 3, 329), (330, 2, 331), (330, 3, 332), (333, 0, 334), (333, 2, 335), (333, 3, 336), (333, 4, 337), (338, 2, 339), (338, 3, 340), (341, 2, 342), (341, 3, 343), (344, 2, 345), (344, 3, 346), (347, 2, 348), (347, 3, 349), (350, 2, 351), (350, 3, 352), (353, 2, 354), (353, 3, 355), (356, 2, 357), (356, 3, 358), (359, 2, 360), (359, 3, 361), (362, 0, 363), (362, 2, 364), (362, 3, 365), (362, 4, 366), (367, 2, 368), (367, 3, 369), (370, 2, 371), (370, 3, 372), (373, 2, 374), (373, 3, 375), (376, 2, 377), (376, 3, 378), (379, 2, 380), (379, 3, 381), (382, 2, 383), (382, 3, 384), (385, 2, 386), (385, 3, 387), (388, 2, 389), (388, 3, 390), (391, 0, 392), (391, 2, 393), (391, 3, 394), (391, 4, 395), (396, 2, 397), (396, 3, 398), (399, 2, 400), (399, 3, 401), (402, 2, 403), (402, 3, 404), (405, 2, 406), (405, 3, 407), (408, 2, 409), (408, 3, 410), (411, 2, 412), (411, 3, 413), (414, 2, 415), (414, 3, 416), (417, 2, 418), (417, 3, 419), (420, 0, 421), (420, 2, 422), (420, 3, 423), (420, 4, 424), (425, 2, 426), (425, 3, 427), (428, 2, 429), (428, 3, 430), (431, 2, 432), (431, 3, 433), (434, 2, 435), (434, 3, 436), (437, 2, 438), (437, 3, 439), (440, 2, 441), (440, 3, 442), (443, 2, 444), (443, 3, 445), (446, 2, 447), (446, 3, 448), (449, 0, 450), (449, 2, 451), (449, 3, 452), (449, 4, 453), (454, 2, 455), (454, 3, 456), (457, 2, 458), (457, 3, 459), (460, 2, 461), (460, 3, 462), (463, 2, 464), (463, 3, 465), (466, 2, 467), (466, 3, 468), (469, 2, 470), (469, 3, 471), (472, 2, 473), (472, 3, 474), (475, 2, 476), (475, 3, 477), (478, 0, 479), (478, 2, 480), (478, 3, 481), (478, 4, 482), (483, 2, 484), (483, 3, 485), (486, 2, 487), (486, 3, 488), (489, 2, 490), (489, 3, 491), (492, 2, 493), (492, 3, 494), (495, 2, 496), (495, 3, 497), (498, 2, 499), (498, 3, 500), (501, 2, 502), (501, 3, 503), (504, 2, 505), (504, 3, 506), (507, 0, 508), (507, 2, 509), (507, 3, 510), (507, 4, 511), (512, 2, 513), (512, 3, 514), (515, 2, 516), (515, 3, 517), (518, 2, 519), (518, 3, 520), (521, 2, 522), (521, 3, 523), (524, 2, 525), (524, 3, 526), (527, 2, 528), (527, 3, 529), (530, 2, 531), (530, 3, 532), (533, 2, 534), (533, 3, 535), (536, 0, 537), (536, 2, 538), (536, 3, 539), (536, 4, 540), (541, 2, 542), (541, 3, 543), (544, 2, 545), (544, 3, 546), (547, 2, 548), (547, 3, 549), (550, 2, 551), (550, 3, 552), (553, 2, 554), (553, 3, 555), (556, 2, 557), (556, 3, 558), (559, 2, 560), (559, 3, 561), (562, 2, 563), (562, 3, 564), (565, 0, 566), (565, 2, 567), (565, 3, 568), (565, 4, 569), (570, 2, 571), (570, 3, 572), (573, 2, 574), (573, 3, 575), (576, 2, 577), (576, 3, 578), (579, 2, 580), (579, 3, 581), (582, 2, 583), (582, 3, 584), (585, 2, 586), (585, 3, 587), (588, 2, 589), (588, 3, 590), (591, 2, 592), (591, 3, 593), (594, 0, 595), (594, 2, 596), (594, 3, 597), (594, 4, 598), (599, 2, 600), (599, 3, 601), (602, 2, 603), (602, 3, 604), (605, 2, 606), (605, 3, 607), (608, 2, 609), (608, 3, 610), (611, 2, 612), (611, 3, 613), (614, 2, 615), (614, 3, 616), (617, 2, 618), (617, 3, 619), (620, 2, 621), (620, 3, 622), (623, 0, 624), (623, 2, 625), (626, 0, 627), (626, 2, 628), (629, 0, 630), (629, 2, 631), (632, 0, 633), (632, 2, 634), (635, 3, 636), (635, 4, 639), (635, 5, 640), (636, 0, 637), (636, 1, 638), (641, 3, 642), (641, 4, 645), (641, 5, 646), (642, 0, 643), (642, 1, 644), (647, 3, 648), (647, 4, 651), (647, 5, 652), (648, 0, 649), (648, 1, 650), (653, 3, 654), (653, 4, 657), (653, 5, 658), (654, 0, 655), (654, 1, 656), (659, 3, 660), (659, 4, 663), (659, 5, 664), (660, 0, 661), (660, 1, 662), (665, 3, 666), (665, 4, 669), (665, 5, 670), (666, 0, 667), (666, 1, 668), (671, 3, 672), (671, 4, 675), (671, 5, 676), (672, 0, 673), (672, 1, 674), (677, 3, 678), (677, 4, 681), (677, 5, 682), (678, 0, 679), (678, 1, 680), (683, 3, 684), (683, 4, 687), (683, 5, 688), (684, 0, 685), (684, 1, 686), (689, 3, 690), (689, 4, 693), (689, 5, 694), (690, 0, 691), (690, 1, 692), (695, 0, 696), (695, 1, 697), (698, 0, 699), (698, 1, 700), (701, 0, 702), (701, 1, 703), (704, 0, 705), (704, 1, 706), (704, 6, 707), (704, 8, 708), (704, 9, 709), (704, 10, 710), (704, 11, 711), (704, 12, 712), (704, 13, 713), (704, 14, 714), (704, 18, 715), (704, 19, 716), (704, 20, 717), (704, 21, 718), (704, 22, 719), (704, 23, 720), (704, 24, 721), (704, 25, 722), (704, 26, 723), (704, 27, 724), (704, 28, 725), (704, 29, 726), (704, 30, 727), (704, 31, 728), (704, 32, 729), (704, 33, 730), (704, 34, 731), (704, 35, 732), (704, 38, 733), (704, 39, 734), (704, 40, 735), (704, 41, 736), (704, 43, 737), (704, 44, 738), (704, 46, 739), (704, 47, 740), (704, 48, 741), (704, 53, 742), (704, 54, 743), (704, 55, 744), (704, 56, 745), (704, 57, 746), (704, 58, 747), (704, 59, 748), (704, 60, 749), (704, 63, 750), (704, 64, 751), (704, 66, 752), (704, 67, 753), (704, 68, 754), (704, 69, 755), (704, 71, 756), (704, 72, 757), (704, 73, 758), (704, 74, 759), (704, 75, 760), (704, 76, 761), (704, 77, 762), (704, 78, 763), (704, 83, 764), (704, 84, 765), (704, 85, 766), (704, 86, 767), (704, 89, 768), (704, 90, 769), (704, 91, 770), (704, 92, 771), (704, 93, 772), (704, 94, 773), (704, 95, 774)]
def HR0 (a k : Nat) : Option Nat := (hrT.find? (fun e => Nat.beq e.1 a && Nat.beq e.2.1 k)).map (fun e => e.2.2)
def dyn (a k : Nat) : Bool := (Nat.beq a 46 && Nat.beq k 0) || (Nat.ble 160 a && Nat.blt a 624 && Nat.beq ((a - 160) % 29) 0) || (Nat.ble 635 a && Nat.blt a 695 && Nat.beq ((a - 635) % 6) 0 && Nat.beq k 0) || Nat.beq a 114
/-- the references that stay are there -/
def FH (hr : AHr) : Prop := ∀ a k, dyn a k = false → hr a k = HR0 a k
theorem hR_o {h : AHr} {a k b : Nat} {v : Option Nat} (e : b ≠ a) : hR h a k v b = h b := va_up_ne _ _ e
theorem hR_s {h : AHr} {a k : Nat} {v : Option Nat} : hR h a k v a k = v := by unfold hR; rw [va_up_self, va_up_self]
theorem hR_k {h : AHr} {a k j : Nat} {v : Option Nat} (e : j ≠ k) : hR h a k v a j = h a j := by unfold hR; rw [va_up_self, va_up_ne _ _ e]
theorem FH.set {hr : AHr} (F : FH hr) {a k : Nat} {v : Option Nat} (h : dyn a k = true) : FH (hR hr a k v) := by
  intro b j hb
  by_cases e : b = a
  · subst e
    by_cases e2 : j = k
    · subst e2
      rw [h] at hb
      cases hb
    · rw [hR_k e2]
      exact F _ _ hb
  · rw [hR_o e]
    exact F _ _ hb
theorem f43_0 {hr : AHr} (F : FH hr) : hr 43 0 = some 44 := (F 43 0 (by decide +kernel)).trans (by decide +kernel)
theorem f43_1 {hr : AHr} (F : FH hr) : hr 43 1 = some 46 := (F 43 1 (by decide +kernel)).trans (by decide +kernel)
theorem f43_2 {hr : AHr} (F : FH hr) : hr 43 2 = some 48 := (F 43 2 (by decide +kernel)).trans (by decide +kernel)
theorem f43_3 {hr : AHr} (F : FH hr) : hr 43 3 = some 49 := (F 43 3 (by decide +kernel)).trans (by decide +kernel)
theorem f43_4 {hr : AHr} (F : FH hr) : hr 43 4 = some 78 := (F 43 4 (by decide +kernel)).trans (by decide +kernel)
theorem f43_5 {hr : AHr} (F : FH hr) : hr 43 5 = some 85 := (F 43 5 (by decide +kernel)).trans (by decide +kernel)
theorem f43_6 {hr : AHr} (F : FH hr) : hr 43 6 = some 90 := (F 43 6 (by decide +kernel)).trans (by decide +kernel)
theorem f43_7 {hr : AHr} (F : FH hr) : hr 43 7 = some 91 := (F 43 7 (by decide +kernel)).trans (by decide +kernel)
theorem f43_8 {hr : AHr} (F : FH hr) : hr 43 8 = some 98 := (F 43 8 (by decide +kernel)).trans (by decide +kernel)
theorem f43_9 {hr : AHr} (F : FH hr) : hr 43 9 = some 99 := (F 43 9 (by decide +kernel)).trans (by decide +kernel)
theorem f43_13 {hr : AHr} (F : FH hr) : hr 43 13 = some 105 := (F 43 13 (by decide +kernel)).trans (by decide +kernel)
theorem f43_14 {hr : AHr} (F : FH hr) : hr 43 14 = some 112 := (F 43 14 (by decide +kernel)).trans (by decide +kernel)
theorem f43_15 {hr : AHr} (F : FH hr) : hr 43 15 = some 113 := (F 43 15 (by decide +kernel)).trans (by decide +kernel)
theorem f43_16 {hr : AHr} (F : FH hr) : hr 43 16 = some 152 := (F 43 16 (by decide +kernel)).trans (by decide +kernel)
theorem f43_17 {hr : AHr} (F : FH hr) : hr 43 17 = some 157 := (F 43 17 (by decide +kernel)).trans (by decide +kernel)
theorem f43_18 {hr : AHr} (F : FH hr) : hr 43 18 = some 158 := (F 43 18 (by decide +kernel)).trans (by decide +kernel)
theorem f44_0 {hr : AHr} (F : FH hr) : hr 44 0 = some 45 := (F 44 0 (by decide +kernel)).trans (by decide +kernel)
theorem f49_0 {hr : AHr} (F : FH hr) : hr 49 0 = some 50 := (F 49 0 (by decide +kernel)).trans (by decide +kernel)
theorem f49_2 {hr : AHr} (F : FH hr) : hr 49 2 = some 51 := (F 49 2 (by decide +kernel)).trans (by decide +kernel)
theorem f49_3 {hr : AHr} (F : FH hr) : hr 49 3 = some 52 := (F 49 3 (by decide +kernel)).trans (by decide +kernel)
theorem f49_4 {hr : AHr} (F : FH hr) : hr 49 4 = some 53 := (F 49 4 (by decide +kernel)).trans (by decide +kernel)
theorem f78_0 {hr : AHr} (F : FH hr) : hr 78 0 = some 79 := (F 78 0 (by decide +kernel)).trans (by decide +kernel)
theorem f78_1 {hr : AHr} (F : FH hr) : hr 78 1 = some 80 := (F 78 1 (by decide +kernel)).trans (by decide +kernel)
theorem f78_2 {hr : AHr} (F : FH hr) : hr 78 2 = some 81 := (F 78 2 (by decide +kernel)).trans (by decide +kernel)
theorem f78_3 {hr : AHr} (F : FH hr) : hr 78 3 = some 82 := (F 78 3 (by decide +kernel)).trans (by decide +kernel)
theorem f78_6 {hr : AHr} (F : FH hr) : hr 78 6 = some 83 := (F 78 6 (by decide +kernel)).trans (by decide +kernel)
theorem f78_7 {hr : AHr} (F : FH hr) : hr 78 7 = some 84 := (F 78 7 (by decide +kernel)).trans (by decide +kernel)
theorem f91_0 {hr : AHr} (F : FH hr) : hr 91 0 = some 92 := (F 91 0 (by decide +kernel)).trans (by decide +kernel)
theorem f91_1 {hr : AHr} (F : FH hr) : hr 91 1 = some 93 := (F 91 1 (by decide +kernel)).trans (by decide +kernel)
theorem f91_3 {hr : AHr} (F : FH hr) : hr 91 3 = some 94 := (F 91 3 (by decide +kernel)).trans (by decide +kernel)
theorem f91_4 {hr : AHr} (F : FH hr) : hr 91 4 = some 95 := (F 91 4 (by decide +kernel)).trans (by decide +kernel)
theorem f91_5 {hr : AHr} (F : FH hr) : hr 91 5 = some 96 := (F 91 5 (by decide +kernel)).trans (by decide +kernel)
theorem f91_6 {hr : AHr} (F : FH hr) : hr 91 6 = some 97 := (F 91 6 (by decide +kernel)).trans (by decide +kernel)
theorem f99_3 {hr : AHr} (F : FH hr) : hr 99 3 = some 100 := (F 99 3 (by decide +kernel)).trans (by decide +kernel)
theorem f99_4 {hr : AHr} (F : FH hr) : hr 99 4 = some 103 := (F 99 4 (by decide +kernel)).trans (by decide +kernel)
theorem f99_5 {hr : AHr} (F : FH hr) : hr 99 5 = some 104 := (F 99 5 (by decide +kernel)).trans (by decide +kernel)
theorem f100_0 {hr : AHr} (F : FH hr) : hr 100 0 = some 101 := (F 100 0 (by decide +kernel)).trans (by decide +kernel)
theorem f100_1 {hr : AHr} (F : FH hr) : hr 100 1 = some 102 := (F 100 1 (by decide +kernel)).trans (by decide +kernel)
theorem f105_0 {hr : AHr} (F : FH hr) : hr 105 0 = some 106 := (F 105 0 (by decide +kernel)).trans (by decide +kernel)
theorem f105_1 {hr : AHr} (F : FH hr) : hr 105 1 = some 107 := (F 105 1 (by decide +kernel)).trans (by decide +kernel)
theorem f105_2 {hr : AHr} (F : FH hr) : hr 105 2 = some 108 := (F 105 2 (by decide +kernel)).trans (by decide +kernel)
theorem f105_3 {hr : AHr} (F : FH hr) : hr 105 3 = some 109 := (F 105 3 (by decide +kernel)).trans (by decide +kernel)
theorem f105_5 {hr : AHr} (F : FH hr) : hr 105 5 = some 110 := (F 105 5 (by decide +kernel)).trans (by decide +kernel)
theorem f105_6 {hr : AHr} (F : FH hr) : hr 105 6 = some 111 := (F 105 6 (by decide +kernel)).trans (by decide +kernel)
theorem f113_0 {hr : AHr} (F : FH hr) : hr 113 0 = some 114 := (F 113 0 (by decide +kernel)).trans (by decide +kernel)
theorem f113_1 {hr : AHr} (F : FH hr) : hr 113 1 = some 115 := (F 113 1 (by decide +kernel)).trans (by decide +kernel)
theorem f113_3 {hr : AHr} (F : FH hr) : hr 113 3 = some 127 := (F 113 3 (by decide +kernel)).trans (by decide +kernel)
theorem f113_4 {hr : AHr} (F : FH hr) : hr 113 4 = some 138 := (F 113 4 (by decide +kernel)).trans (by decide +kernel)
theorem f113_5 {hr : AHr} (F : FH hr) : hr 113 5 = some 139 := (F 113 5 (by decide +kernel)).trans (by decide +kernel)
theorem f113_6 {hr : AHr} (F : FH hr) : hr 113 6 = some 140 := (F 113 6 (by decide +kernel)).trans (by decide +kernel)
theorem f113_7 {hr : AHr} (F : FH hr) : hr 113 7 = some 141 := (F 113 7 (by decide +kernel)).trans (by decide +kernel)
theorem f113_8 {hr : AHr} (F : FH hr) : hr 113 8 = some 142 := (F 113 8 (by decide +kernel)).trans (by decide +kernel)
theorem f113_9 {hr : AHr} (F : FH hr) : hr 113 9 = some 143 := (F 113 9 (by decide +kernel)).trans (by decide +kernel)
theorem f704_0 {hr : AHr} (F : FH hr) : hr 704 0 = some 705 := (F 704 0 (by decide +kernel)).trans (by decide +kernel)
theorem f704_1 {hr : AHr} (F : FH hr) : hr 704 1 = some 706 := (F 704 1 (by decide +kernel)).trans (by decide +kernel)
theorem f704_6 {hr : AHr} (F : FH hr) : hr 704 6 = some 707 := (F 704 6 (by decide +kernel)).trans (by decide +kernel)
theorem f704_8 {hr : AHr} (F : FH hr) : hr 704 8 = some 708 := (F 704 8 (by decide +kernel)).trans (by decide +kernel)
theorem f704_9 {hr : AHr} (F : FH hr) : hr 704 9 = some 709 := (F 704 9 (by decide +kernel)).trans (by decide +kernel)
theorem f704_10 {hr : AHr} (F : FH hr) : hr 704 10 = some 710 := (F 704 10 (by decide +kernel)).trans (by decide +kernel)
theorem f704_11 {hr : AHr} (F : FH hr) : hr 704 11 = some 711 := (F 704 11 (by decide +kernel)).trans (by decide +kernel)
theorem f704_12 {hr : AHr} (F : FH hr) : hr 704 12 = some 712 := (F 704 12 (by decide +kernel)).trans (by decide +kernel)
theorem f704_13 {hr : AHr} (F : FH hr) : hr 704 13 = some 713 := (F 704 13 (by decide +kernel)).trans (by decide +kernel)
theorem f704_14 {hr : AHr} (F : FH hr) : hr 704 14 = some 714 := (F 704 14 (by decide +kernel)).trans (by decide +kernel)
theorem f704_18 {hr : AHr} (F : FH hr) : hr 704 18 = some 715 := (F 704 18 (by decide +kernel)).trans (by decide +kernel)
theorem f704_19 {hr : AHr} (F : FH hr) : hr 704 19 = some 716 := (F 704 19 (by decide +kernel)).trans (by decide +kernel)
theorem f704_20 {hr : AHr} (F : FH hr) : hr 704 20 = some 717 := (F 704 20 (by decide +kernel)).trans (by decide +kernel)
theorem f704_21 {hr : AHr} (F : FH hr) : hr 704 21 = some 718 := (F 704 21 (by decide +kernel)).trans (by decide +kernel)
theorem f704_22 {hr : AHr} (F : FH hr) : hr 704 22 = some 719 := (F 704 22 (by decide +kernel)).trans (by decide +kernel)
theorem f704_23 {hr : AHr} (F : FH hr) : hr 704 23 = some 720 := (F 704 23 (by decide +kernel)).trans (by decide +kernel)
theorem f704_24 {hr : AHr} (F : FH hr) : hr 704 24 = some 721 := (F 704 24 (by decide +kernel)).trans (by decide +kernel)
theorem f704_25 {hr : AHr} (F : FH hr) : hr 704 25 = some 722 := (F 704 25 (by decide +kernel)).trans (by decide +kernel)
theorem f704_26 {hr : AHr} (F : FH hr) : hr 704 26 = some 723 := (F 704 26 (by decide +kernel)).trans (by decide +kernel)
theorem f704_27 {hr : AHr} (F : FH hr) : hr 704 27 = some 724 := (F 704 27 (by decide +kernel)).trans (by decide +kernel)
theorem f704_28 {hr : AHr} (F : FH hr) : hr 704 28 = some 725 := (F 704 28 (by decide +kernel)).trans (by decide +kernel)
theorem f704_29 {hr : AHr} (F : FH hr) : hr 704 29 = some 726 := (F 704 29 (by decide +kernel)).trans (by decide +kernel)
theorem f704_30 {hr : AHr} (F : FH hr) : hr 704 30 = some 727 := (F 704 30 (by decide +kernel)).trans (by decide +kernel)
theorem f704_31 {hr : AHr} (F : FH hr) : hr 704 31 = some 728 := (F 704 31 (by decide +kernel)).trans (by decide +kernel)
theorem f704_32 {hr : AHr} (F : FH hr) : hr 704 32 = some 729 := (F 704 32 (by decide +kernel)).trans (by decide +kernel)
theorem f704_33 {hr : AHr} (F : FH hr) : hr 704 33 = some 730 := (F 704 33 (by decide +kernel)).trans (by decide +kernel)
theorem f704_34 {hr : AHr} (F : FH hr) : hr 704 34 = some 731 := (F 704 34 (by decide +kernel)).trans (by decide +kernel)
theorem f704_35 {hr : AHr} (F : FH hr) : hr 704 35 = some 732 := (F 704 35 (by decide +kernel)).trans (by decide +kernel)
theorem f704_38 {hr : AHr} (F : FH hr) : hr 704 38 = some 733 := (F 704 38 (by decide +kernel)).trans (by decide +kernel)
theorem f704_39 {hr : AHr} (F : FH hr) : hr 704 39 = some 734 := (F 704 39 (by decide +kernel)).trans (by decide +kernel)
theorem f704_40 {hr : AHr} (F : FH hr) : hr 704 40 = some 735 := (F 704 40 (by decide +kernel)).trans (by decide +kernel)
theorem f704_41 {hr : AHr} (F : FH hr) : hr 704 41 = some 736 := (F 704 41 (by decide +kernel)).trans (by decide +kernel)
theorem f704_43 {hr : AHr} (F : FH hr) : hr 704 43 = some 737 := (F 704 43 (by decide +kernel)).trans (by decide +kernel)
theorem f704_44 {hr : AHr} (F : FH hr) : hr 704 44 = some 738 := (F 704 44 (by decide +kernel)).trans (by decide +kernel)
theorem f704_46 {hr : AHr} (F : FH hr) : hr 704 46 = some 739 := (F 704 46 (by decide +kernel)).trans (by decide +kernel)
theorem f704_47 {hr : AHr} (F : FH hr) : hr 704 47 = some 740 := (F 704 47 (by decide +kernel)).trans (by decide +kernel)
theorem f704_48 {hr : AHr} (F : FH hr) : hr 704 48 = some 741 := (F 704 48 (by decide +kernel)).trans (by decide +kernel)
theorem f704_53 {hr : AHr} (F : FH hr) : hr 704 53 = some 742 := (F 704 53 (by decide +kernel)).trans (by decide +kernel)
theorem f704_54 {hr : AHr} (F : FH hr) : hr 704 54 = some 743 := (F 704 54 (by decide +kernel)).trans (by decide +kernel)
theorem f704_55 {hr : AHr} (F : FH hr) : hr 704 55 = some 744 := (F 704 55 (by decide +kernel)).trans (by decide +kernel)
theorem f704_56 {hr : AHr} (F : FH hr) : hr 704 56 = some 745 := (F 704 56 (by decide +kernel)).trans (by decide +kernel)
theorem f704_57 {hr : AHr} (F : FH hr) : hr 704 57 = some 746 := (F 704 57 (by decide +kernel)).trans (by decide +kernel)
theorem f704_58 {hr : AHr} (F : FH hr) : hr 704 58 = some 747 := (F 704 58 (by decide +kernel)).trans (by decide +kernel)
theorem f704_59 {hr : AHr} (F : FH hr) : hr 704 59 = some 748 := (F 704 59 (by decide +kernel)).trans (by decide +kernel)
theorem f704_60 {hr : AHr} (F : FH hr) : hr 704 60 = some 749 := (F 704 60 (by decide +kernel)).trans (by decide +kernel)
theorem f704_63 {hr : AHr} (F : FH hr) : hr 704 63 = some 750 := (F 704 63 (by decide +kernel)).trans (by decide +kernel)
theorem f704_64 {hr : AHr} (F : FH hr) : hr 704 64 = some 751 := (F 704 64 (by decide +kernel)).trans (by decide +kernel)
theorem f704_66 {hr : AHr} (F : FH hr) : hr 704 66 = some 752 := (F 704 66 (by decide +kernel)).trans (by decide +kernel)
theorem f704_67 {hr : AHr} (F : FH hr) : hr 704 67 = some 753 := (F 704 67 (by decide +kernel)).trans (by decide +kernel)
theorem f704_68 {hr : AHr} (F : FH hr) : hr 704 68 = some 754 := (F 704 68 (by decide +kernel)).trans (by decide +kernel)
theorem f704_69 {hr : AHr} (F : FH hr) : hr 704 69 = some 755 := (F 704 69 (by decide +kernel)).trans (by decide +kernel)
theorem f704_71 {hr : AHr} (F : FH hr) : hr 704 71 = some 756 := (F 704 71 (by decide +kernel)).trans (by decide +kernel)
theorem f704_72 {hr : AHr} (F : FH hr) : hr 704 72 = some 757 := (F 704 72 (by decide +kernel)).trans (by decide +kernel)
theorem f704_73 {hr : AHr} (F : FH hr) : hr 704 73 = some 758 := (F 704 73 (by decide +kernel)).trans (by decide +kernel)
theorem f704_74 {hr : AHr} (F : FH hr) : hr 704 74 = some 759 := (F 704 74 (by decide +kernel)).trans (by decide +kernel)
theorem f704_75 {hr : AHr} (F : FH hr) : hr 704 75 = some 760 := (F 704 75 (by decide +kernel)).trans (by decide +kernel)
theorem f704_76 {hr : AHr} (F : FH hr) : hr 704 76 = some 761 := (F 704 76 (by decide +kernel)).trans (by decide +kernel)
theorem f704_77 {hr : AHr} (F : FH hr) : hr 704 77 = some 762 := (F 704 77 (by decide +kernel)).trans (by decide +kernel)
theorem f704_78 {hr : AHr} (F : FH hr) : hr 704 78 = some 763 := (F 704 78 (by decide +kernel)).trans (by decide +kernel)
theorem f704_83 {hr : AHr} (F : FH hr) : hr 704 83 = some 764 := (F 704 83 (by decide +kernel)).trans (by decide +kernel)
theorem f704_84 {hr : AHr} (F : FH hr) : hr 704 84 = some 765 := (F 704 84 (by decide +kernel)).trans (by decide +kernel)
theorem f704_85 {hr : AHr} (F : FH hr) : hr 704 85 = some 766 := (F 704 85 (by decide +kernel)).trans (by decide +kernel)
theorem f704_86 {hr : AHr} (F : FH hr) : hr 704 86 = some 767 := (F 704 86 (by decide +kernel)).trans (by decide +kernel)
theorem f704_89 {hr : AHr} (F : FH hr) : hr 704 89 = some 768 := (F 704 89 (by decide +kernel)).trans (by decide +kernel)
theorem f704_90 {hr : AHr} (F : FH hr) : hr 704 90 = some 769 := (F 704 90 (by decide +kernel)).trans (by decide +kernel)
theorem f704_91 {hr : AHr} (F : FH hr) : hr 704 91 = some 770 := (F 704 91 (by decide +kernel)).trans (by decide +kernel)
theorem f704_92 {hr : AHr} (F : FH hr) : hr 704 92 = some 771 := (F 704 92 (by decide +kernel)).trans (by decide +kernel)
theorem f704_93 {hr : AHr} (F : FH hr) : hr 704 93 = some 772 := (F 704 93 (by decide +kernel)).trans (by decide +kernel)
theorem f704_94 {hr : AHr} (F : FH hr) : hr 704 94 = some 773 := (F 704 94 (by decide +kernel)).trans (by decide +kernel)
theorem f704_95 {hr : AHr} (F : FH hr) : hr 704 95 = some 774 := (F 704 95 (by decide +kernel)).trans (by decide +kernel)
theorem FX {hr : AHr} (F : FH hr) : (type_of% (f43_0 F)) ∧ (type_of% (f43_1 F)) ∧ (type_of% (f43_2 F)) ∧ (type_of% (f43_3 F)) ∧ (type_of% (f43_4 F)) ∧ (type_of% (f43_5 F)) ∧ (type_of% (f43_6 F)) ∧ (type_of% (f43_7 F)) ∧ (type_of% (f43_8 F)) ∧ (type_of% (f43_9 F)) ∧ (type_of% (f43_13 F)) ∧ (type_of% (f43_14 F)) ∧ (type_of% (f43_15 F)) ∧ (type_of% (f43_16 F)) ∧ (type_of% (f43_17 F)) ∧ (type_of% (f43_18 F)) ∧ (type_of% (f44_0 F)) ∧ (type_of% (f49_0 F)) ∧ (type_of% (f49_2 F)) ∧ (type_of% (f49_3 F)) ∧ (type_of% (f49_4 F)) ∧ (type_of% (f78_0 F)) ∧ (type_of% (f78_1 F)) ∧ (type_of% (f78_2 F)) ∧ (type_of% (f78_3 F)) ∧ (type_of% (f78_6 F)) ∧ (type_of% (f78_7 F)) ∧ (type_of% (f91_0 F)) ∧ (type_of% (f91_1 F)) ∧ (type_of% (f91_3 F)) ∧ (type_of% (f91_4 F)) ∧ (type_of% (f91_5 F)) ∧ (type_of% (f91_6 F)) ∧ (type_of% (f99_3 F)) ∧ (type_of% (f99_4 F)) ∧ (type_of% (f99_5 F)) ∧ (type_of% (f100_0 F)) ∧ (type_of% (f100_1 F)) ∧ (type_of% (f105_0 F)) ∧ (type_of% (f105_1 F)) ∧ (type_of% (f105_2 F)) ∧ (type_of% (f105_3 F)) ∧ (type_of% (f105_5 F)) ∧ (type_of% (f105_6 F)) ∧ (type_of% (f113_0 F)) ∧ (type_of% (f113_1 F)) ∧ (type_of% (f113_3 F)) ∧ (type_of% (f113_4 F)) ∧ (type_of% (f113_5 F)) ∧ (type_of% (f113_6 F)) ∧ (type_of% (f113_7 F)) ∧ (type_of% (f113_8 F)) ∧ (type_of% (f113_9 F)) := ⟨f43_0 F, f43_1 F, f43_2 F, f43_3 F, f43_4 F, f43_5 F, f43_6 F, f43_7 F, f43_8 F, f43_9 F, f43_13 F, f43_14 F, f43_15 F, f43_16 F, f43_17 F, f43_18 F, f44_0 F, f49_0 F, f49_2 F, f49_3 F, f49_4 F, f78_0 F, f78_1 F, f78_2 F, f78_3 F, f78_6 F, f78_7 F, f91_0 F, f91_1 F, f91_3 F, f91_4 F, f91_5 F, f91_6 F, f99_3 F, f99_4 F, f99_5 F, f100_0 F, f100_1 F, f105_0 F, f105_1 F, f105_2 F, f105_3 F, f105_5 F, f105_6 F, f113_0 F, f113_1 F, f113_3 F, f113_4 F, f113_5 F, f113_6 F, f113_7 F, f113_8 F, f113_9 F⟩
theorem FM {hr : AHr} (F : FH hr) : (type_of% (f704_0 F)) ∧ (type_of% (f704_1 F)) ∧ (type_of% (f704_6 F)) ∧ (type_of% (f704_8 F)) ∧ (type_of% (f704_9 F)) ∧ (type_of% (f704_10 F)) ∧ (type_of% (f704_11 F)) ∧ (type_of% (f704_12 F)) ∧ (type_of% (f704_13 F)) ∧ (type_of% (f704_14 F)) ∧ (type_of% (f704_18 F)) ∧ (type_of% (f704_19 F)) ∧ (type_of% (f704_20 F)) ∧ (type_of% (f704_21 F)) ∧ (type_of% (f704_22 F)) ∧ (type_of% (f704_23 F)) ∧ (type_of% (f704_24 F)) ∧ (type_of% (f704_25 F)) ∧ (type_of% (f704_26 F)) ∧ (type_of% (f704_27 F)) ∧ (type_of% (f704_28 F)) ∧ (type_of% (f704_29 F)) ∧ (type_of% (f704_30 F)) ∧ (type_of% (f704_31 F)) ∧ (type_of% (f704_32 F)) ∧ (type_of% (f704_33 F)) ∧ (type_of% (f704_34 F)) ∧ (type_of% (f704_35 F)) ∧ (type_of% (f704_38 F)) ∧ (type_of% (f704_39 F)) ∧ (type_of% (f704_40 F)) ∧ (type_of% (f704_41 F)) ∧ (type_of% (f704_43 F)) ∧ (type_of% (f704_44 F)) ∧ (type_of% (f704_46 F)) ∧ (type_of% (f704_47 F)) ∧ (type_of% (f704_48 F)) ∧ (type_of% (f704_53 F)) ∧ (type_of% (f704_54 F)) ∧ (type_of% (f704_55 F)) ∧ (type_of% (f704_56 F)) ∧ (type_of% (f704_57 F)) ∧ (type_of% (f704_58 F)) ∧ (type_of% (f704_59 F)) ∧ (type_of% (f704_60 F)) ∧ (type_of% (f704_63 F)) ∧ (type_of% (f704_64 F)) ∧ (type_of% (f704_66 F)) ∧ (type_of% (f704_67 F)) ∧ (type_of% (f704_68 F)) ∧ (type_of% (f704_69 F)) ∧ (type_of% (f704_71 F)) ∧ (type_of% (f704_72 F)) ∧ (type_of% (f704_73 F)) ∧ (type_of% (f704_74 F)) ∧ (type_of% (f704_75 F)) ∧ (type_of% (f704_76 F)) ∧ (type_of% (f704_77 F)) ∧ (type_of% (f704_78 F)) ∧ (type_of% (f704_83 F)) ∧ (type_of% (f704_84 F)) ∧ (type_of% (f704_85 F)) ∧ (type_of% (f704_86 F)) ∧ (type_of% (f704_89 F)) ∧ (type_of% (f704_90 F)) ∧ (type_of% (f704_91 F)) ∧ (type_of% (f704_92 F)) ∧ (type_of% (f704_93 F)) ∧ (type_of% (f704_94 F)) ∧ (type_of% (f704_95 F)) := ⟨f704_0 F, f704_1 F, f704_6 F, f704_8 F, f704_9 F, f704_10 F, f704_11 F, f704_12 F, f704_13 F, f704_14 F, f704_18 F, f704_19 F, f704_20 F, f704_21 F, f704_22 F, f704_23 F, f704_24 F, f704_25 F, f704_26 F, f704_27 F, f704_28 F, f704_29 F, f704_30 F, f704_31 F, f704_32 F, f704_33 F, f704_34 F, f704_35 F, f704_38 F, f704_39 F, f704_40 F, f704_41 F, f704_43 F, f704_44 F, f704_46 F, f704_47 F, f704_48 F, f704_53 F, f704_54 F, f704_55 F, f704_56 F, f704_57 F, f704_58 F, f704_59 F, f704_60 F, f704_63 F, f704_64 F, f704_66 F, f704_67 F, f704_68 F, f704_69 F, f704_71 F, f704_72 F, f704_73 F, f704_74 F, f704_75 F, f704_76 F, f704_77 F, f704_78 F, f704_83 F, f704_84 F, f704_85 F, f704_86 F, f704_89 F, f704_90 F, f704_91 F, f704_92 F, f704_93 F, f704_94 F, f704_95 F⟩
theorem ln_45 (E : AEn) : a_ln E 45 = 1600 := rfl
theorem ln_47 (E : AEn) : a_ln E 47 = 512 := rfl
theorem ln_48 (E : AEn) : a_ln E 48 = 16 := rfl
theorem ln_50 (E : AEn) : a_ln E 50 = 8 := rfl
theorem ln_51 (E : AEn) : a_ln E 51 = 6 := rfl
theorem ln_52 (E : AEn) : a_ln E 52 = 6 := rfl
theorem ln_53 (E : AEn) : a_ln E 53 = 6 := rfl
theorem ln_55 (E : AEn) : a_ln E 55 = 10 := rfl
theorem ln_56 (E : AEn) : a_ln E 56 = 10 := rfl
theorem ln_58 (E : AEn) : a_ln E 58 = 10 := rfl
theorem ln_59 (E : AEn) : a_ln E 59 = 10 := rfl
theorem ln_61 (E : AEn) : a_ln E 61 = 10 := rfl
theorem ln_62 (E : AEn) : a_ln E 62 = 10 := rfl
theorem ln_64 (E : AEn) : a_ln E 64 = 10 := rfl
theorem ln_65 (E : AEn) : a_ln E 65 = 10 := rfl
theorem ln_67 (E : AEn) : a_ln E 67 = 10 := rfl
theorem ln_68 (E : AEn) : a_ln E 68 = 10 := rfl
theorem ln_70 (E : AEn) : a_ln E 70 = 10 := rfl
theorem ln_71 (E : AEn) : a_ln E 71 = 10 := rfl
theorem ln_73 (E : AEn) : a_ln E 73 = 10 := rfl
theorem ln_74 (E : AEn) : a_ln E 74 = 10 := rfl
theorem ln_76 (E : AEn) : a_ln E 76 = 10 := rfl
theorem ln_77 (E : AEn) : a_ln E 77 = 10 := rfl
theorem ln_79 (E : AEn) : a_ln E 79 = 1536 := rfl
theorem ln_80 (E : AEn) : a_ln E 80 = 1536 := rfl
theorem ln_81 (E : AEn) : a_ln E 81 = 1536 := rfl
theorem ln_82 (E : AEn) : a_ln E 82 = 1536 := rfl
theorem ln_83 (E : AEn) : a_ln E 83 = 16 := rfl
theorem ln_84 (E : AEn) : a_ln E 84 = 16 := rfl
theorem ln_85 (E : AEn) : a_ln E 85 = 4 := rfl
theorem ln_86 (E : AEn) : a_ln E 86 = 16 := rfl
theorem ln_87 (E : AEn) : a_ln E 87 = 16 := rfl
theorem ln_88 (E : AEn) : a_ln E 88 = 16 := rfl
theorem ln_89 (E : AEn) : a_ln E 89 = 16 := rfl
theorem ln_90 (E : AEn) : a_ln E 90 = 4 := rfl
theorem ln_92 (E : AEn) : a_ln E 92 = 4 := rfl
theorem ln_93 (E : AEn) : a_ln E 93 = 4 := rfl
theorem ln_94 (E : AEn) : a_ln E 94 = 72 := rfl
theorem ln_95 (E : AEn) : a_ln E 95 = 2304 := rfl
theorem ln_96 (E : AEn) : a_ln E 96 = 8 := rfl
theorem ln_97 (E : AEn) : a_ln E 97 = 8 := rfl
theorem ln_98 (E : AEn) : a_ln E 98 = 10 := rfl
theorem ln_101 (E : AEn) : a_ln E 101 = 6 := rfl
theorem ln_102 (E : AEn) : a_ln E 102 = 6 := rfl
theorem ln_103 (E : AEn) : a_ln E 103 = 32 := rfl
theorem ln_104 (E : AEn) : a_ln E 104 = 32 := rfl
theorem ln_106 (E : AEn) : a_ln E 106 = 26 := rfl
theorem ln_107 (E : AEn) : a_ln E 107 = 26 := rfl
theorem ln_108 (E : AEn) : a_ln E 108 = 120 := rfl
theorem ln_109 (E : AEn) : a_ln E 109 = 120 := rfl
theorem ln_110 (E : AEn) : a_ln E 110 = 120 := rfl
theorem ln_111 (E : AEn) : a_ln E 111 = 120 := rfl
theorem ln_112 (E : AEn) : a_ln E 112 = 3 := rfl
theorem ln_114 (E : AEn) : a_ln E 114 = 10 := rfl
theorem ln_115 (E : AEn) : a_ln E 115 = 11 := rfl
theorem ln_116 (E : AEn) : a_ln E 116 = 5 := rfl
theorem ln_117 (E : AEn) : a_ln E 117 = 5 := rfl
theorem ln_118 (E : AEn) : a_ln E 118 = 5 := rfl
theorem ln_119 (E : AEn) : a_ln E 119 = 5 := rfl
theorem ln_120 (E : AEn) : a_ln E 120 = 5 := rfl
theorem ln_121 (E : AEn) : a_ln E 121 = 5 := rfl
theorem ln_122 (E : AEn) : a_ln E 122 = 5 := rfl
theorem ln_123 (E : AEn) : a_ln E 123 = 5 := rfl
theorem ln_124 (E : AEn) : a_ln E 124 = 5 := rfl
theorem ln_125 (E : AEn) : a_ln E 125 = 5 := rfl
theorem ln_126 (E : AEn) : a_ln E 126 = 5 := rfl
theorem ln_127 (E : AEn) : a_ln E 127 = 10 := rfl
theorem ln_128 (E : AEn) : a_ln E 128 = 1536 := rfl
theorem ln_129 (E : AEn) : a_ln E 129 = 1536 := rfl
theorem ln_130 (E : AEn) : a_ln E 130 = 1536 := rfl
theorem ln_131 (E : AEn) : a_ln E 131 = 1536 := rfl
theorem ln_132 (E : AEn) : a_ln E 132 = 1536 := rfl
theorem ln_133 (E : AEn) : a_ln E 133 = 1536 := rfl
theorem ln_134 (E : AEn) : a_ln E 134 = 1536 := rfl
theorem ln_135 (E : AEn) : a_ln E 135 = 1536 := rfl
theorem ln_136 (E : AEn) : a_ln E 136 = 1536 := rfl
theorem ln_137 (E : AEn) : a_ln E 137 = 1536 := rfl
theorem ln_138 (E : AEn) : a_ln E 138 = 10 := rfl
theorem ln_139 (E : AEn) : a_ln E 139 = 48 := rfl
theorem ln_140 (E : AEn) : a_ln E 140 = 32 := rfl
theorem ln_141 (E : AEn) : a_ln E 141 = 1536 := rfl
theorem ln_142 (E : AEn) : a_ln E 142 = 1536 := rfl
theorem ln_143 (E : AEn) : a_ln E 143 = 8 := rfl
theorem ln_144 (E : AEn) : a_ln E 144 = 1536 := rfl
theorem ln_145 (E : AEn) : a_ln E 145 = 1536 := rfl
theorem ln_146 (E : AEn) : a_ln E 146 = 1536 := rfl
theorem ln_147 (E : AEn) : a_ln E 147 = 1536 := rfl
theorem ln_148 (E : AEn) : a_ln E 148 = 1536 := rfl
theorem ln_149 (E : AEn) : a_ln E 149 = 1536 := rfl
theorem ln_150 (E : AEn) : a_ln E 150 = 1536 := rfl
theorem ln_151 (E : AEn) : a_ln E 151 = 1536 := rfl
theorem ln_152 (E : AEn) : a_ln E 152 = 4 := rfl
theorem ln_153 (E : AEn) : a_ln E 153 = 100 := rfl
theorem ln_154 (E : AEn) : a_ln E 154 = 100 := rfl
theorem ln_155 (E : AEn) : a_ln E 155 = 100 := rfl
theorem ln_156 (E : AEn) : a_ln E 156 = 100 := rfl
theorem ln_157 (E : AEn) : a_ln E 157 = 3 := rfl
theorem ln_158 (E : AEn) : a_ln E 158 = 3 := rfl
theorem ln_705 (E : AEn) : a_ln E 705 = 1600 := rfl
theorem ln_706 (E : AEn) : a_ln E 706 = 1600 := rfl
theorem ln_707 (E : AEn) : a_ln E 707 = 49264 := rfl
theorem ln_708 (E : AEn) : a_ln E 708 = 16 := rfl
theorem ln_709 (E : AEn) : a_ln E 709 = 128 := rfl
theorem ln_710 (E : AEn) : a_ln E 710 = 128 := rfl
theorem ln_711 (E : AEn) : a_ln E 711 = 1280 := rfl
theorem ln_712 (E : AEn) : a_ln E 712 = 1280 := rfl
theorem ln_713 (E : AEn) : a_ln E 713 = 10 := rfl
theorem ln_714 (E : AEn) : a_ln E 714 = 10 := rfl
theorem ln_715 (E : AEn) : a_ln E 715 = 80 := rfl
theorem ln_716 (E : AEn) : a_ln E 716 = 80 := rfl
theorem ln_717 (E : AEn) : a_ln E 717 = 800 := rfl
theorem ln_718 (E : AEn) : a_ln E 718 = 800 := rfl
theorem ln_719 (E : AEn) : a_ln E 719 = 16 := rfl
theorem ln_720 (E : AEn) : a_ln E 720 = 96 := rfl
theorem ln_721 (E : AEn) : a_ln E 721 = 96 := rfl
theorem ln_722 (E : AEn) : a_ln E 722 = 96 := rfl
theorem ln_723 (E : AEn) : a_ln E 723 = 96 := rfl
theorem ln_724 (E : AEn) : a_ln E 724 = 80 := rfl
theorem ln_725 (E : AEn) : a_ln E 725 = 80 := rfl
theorem ln_726 (E : AEn) : a_ln E 726 = 1536 := rfl
theorem ln_727 (E : AEn) : a_ln E 727 = 1536 := rfl
theorem ln_728 (E : AEn) : a_ln E 728 = 1536 := rfl
theorem ln_729 (E : AEn) : a_ln E 729 = 1536 := rfl
theorem ln_730 (E : AEn) : a_ln E 730 = 1536 := rfl
theorem ln_731 (E : AEn) : a_ln E 731 = 16 := rfl
theorem ln_732 (E : AEn) : a_ln E 732 = 16 := rfl
theorem ln_733 (E : AEn) : a_ln E 733 = 64 := rfl
theorem ln_734 (E : AEn) : a_ln E 734 = 480 := rfl
theorem ln_735 (E : AEn) : a_ln E 735 = 4 := rfl
theorem ln_736 (E : AEn) : a_ln E 736 = 120 := rfl
theorem ln_737 (E : AEn) : a_ln E 737 = 4 := rfl
theorem ln_738 (E : AEn) : a_ln E 738 = 4 := rfl
theorem ln_739 (E : AEn) : a_ln E 739 = 2304 := rfl
theorem ln_740 (E : AEn) : a_ln E 740 = 8 := rfl
theorem ln_741 (E : AEn) : a_ln E 741 = 8 := rfl
theorem ln_742 (E : AEn) : a_ln E 742 = 10 := rfl
theorem ln_743 (E : AEn) : a_ln E 743 = 10 := rfl
theorem ln_744 (E : AEn) : a_ln E 744 = 10 := rfl
theorem ln_745 (E : AEn) : a_ln E 745 = 10 := rfl
theorem ln_746 (E : AEn) : a_ln E 746 = 10 := rfl
theorem ln_747 (E : AEn) : a_ln E 747 = 60 := rfl
theorem ln_748 (E : AEn) : a_ln E 748 = 60 := rfl
theorem ln_749 (E : AEn) : a_ln E 749 = 10 := rfl
theorem ln_750 (E : AEn) : a_ln E 750 = 26 := rfl
theorem ln_751 (E : AEn) : a_ln E 751 = 26 := rfl
theorem ln_752 (E : AEn) : a_ln E 752 = 120 := rfl
theorem ln_753 (E : AEn) : a_ln E 753 = 120 := rfl
theorem ln_754 (E : AEn) : a_ln E 754 = 120 := rfl
theorem ln_755 (E : AEn) : a_ln E 755 = 120 := rfl
theorem ln_756 (E : AEn) : a_ln E 756 = 8 := rfl
theorem ln_757 (E : AEn) : a_ln E 757 = 8 := rfl
theorem ln_758 (E : AEn) : a_ln E 758 = 8 := rfl
theorem ln_759 (E : AEn) : a_ln E 759 = 8 := rfl
theorem ln_760 (E : AEn) : a_ln E 760 = 4 := rfl
theorem ln_761 (E : AEn) : a_ln E 761 = 4 := rfl
theorem ln_762 (E : AEn) : a_ln E 762 = 4 := rfl
theorem ln_763 (E : AEn) : a_ln E 763 = 4 := rfl
theorem ln_764 (E : AEn) : a_ln E 764 = 10 := rfl
theorem ln_765 (E : AEn) : a_ln E 765 = 60 := rfl
theorem ln_766 (E : AEn) : a_ln E 766 = 6 := rfl
theorem ln_767 (E : AEn) : a_ln E 767 = 15360 := rfl
theorem ln_768 (E : AEn) : a_ln E 768 = 12288 := rfl
theorem ln_769 (E : AEn) : a_ln E 769 = 1536 := rfl
theorem ln_770 (E : AEn) : a_ln E 770 = 1536 := rfl
theorem ln_771 (E : AEn) : a_ln E 771 = 300 := rfl
theorem ln_772 (E : AEn) : a_ln E 772 = 3 := rfl
theorem ln_773 (E : AEn) : a_ln E 773 = 3 := rfl
theorem ln_774 (E : AEn) : a_ln E 774 = 100 := rfl
theorem ln_775 (E : AEn) : a_ln E 775 = 49264 := rfl
theorem LX : (type_of% ln_45) ∧ (type_of% ln_47) ∧ (type_of% ln_48) ∧ (type_of% ln_50) ∧ (type_of% ln_51) ∧ (type_of% ln_52) ∧ (type_of% ln_53) ∧ (type_of% ln_55) ∧ (type_of% ln_56) ∧ (type_of% ln_58) ∧ (type_of% ln_59) ∧ (type_of% ln_61) ∧ (type_of% ln_62) ∧ (type_of% ln_64) ∧ (type_of% ln_65) ∧ (type_of% ln_67) ∧ (type_of% ln_68) ∧ (type_of% ln_70) ∧ (type_of% ln_71) ∧ (type_of% ln_73) ∧ (type_of% ln_74) ∧ (type_of% ln_76) ∧ (type_of% ln_77) ∧ (type_of% ln_79) ∧ (type_of% ln_80) ∧ (type_of% ln_81) ∧ (type_of% ln_82) ∧ (type_of% ln_83) ∧ (type_of% ln_84) ∧ (type_of% ln_85) ∧ (type_of% ln_86) ∧ (type_of% ln_87) ∧ (type_of% ln_88) ∧ (type_of% ln_89) ∧ (type_of% ln_90) ∧ (type_of% ln_92) ∧ (type_of% ln_93) ∧ (type_of% ln_94) ∧ (type_of% ln_95) ∧ (type_of% ln_96) ∧ (type_of% ln_97) ∧ (type_of% ln_98) ∧ (type_of% ln_101) ∧ (type_of% ln_102) ∧ (type_of% ln_103) ∧ (type_of% ln_104) ∧ (type_of% ln_106) ∧ (type_of% ln_107) ∧ (type_of% ln_108) ∧ (type_of% ln_109) ∧ (type_of% ln_110) ∧ (type_of% ln_111) ∧ (type_of% ln_112) ∧ (type_of% ln_114) ∧ (type_of% ln_115) ∧ (type_of% ln_116) ∧ (type_of% ln_117) ∧ (type_of% ln_118) ∧ (type_of% ln_119) ∧ (type_of% ln_120) ∧ (type_of% ln_121) ∧ (type_of% ln_122) ∧ (type_of% ln_123) ∧ (type_of% ln_124) ∧ (type_of% ln_125) ∧ (type_of% ln_126) ∧ (type_of% ln_127) ∧ (type_of% ln_128) ∧ (type_of% ln_129) ∧ (type_of% ln_130) ∧ (type_of% ln_131) ∧ (type_of% ln_132) ∧ (type_of% ln_133) ∧ (type_of% ln_134) ∧ (type_of% ln_135) ∧ (type_of% ln_136) ∧ (type_of% ln_137) ∧ (type_of% ln_138) ∧ (type_of% ln_139) ∧ (type_of% ln_140) ∧ (type_of% ln_141) ∧ (type_of% ln_142) ∧ (type_of% ln_143) ∧ (type_of% ln_144) ∧ (type_of% ln_145) ∧ (type_of% ln_146) ∧ (type_of% ln_147) ∧ (type_of% ln_148) ∧ (type_of% ln_149) ∧ (type_of% ln_150) ∧ (type_of% ln_151) ∧ (type_of% ln_152) ∧ (type_of% ln_153) ∧ (type_of% ln_154) ∧ (type_of% ln_155) ∧ (type_of% ln_156) ∧ (type_of% ln_157) ∧ (type_of% ln_158) := ⟨ln_45, ln_47, ln_48, ln_50, ln_51, ln_52, ln_53, ln_55, ln_56, ln_58, ln_59, ln_61, ln_62, ln_64, ln_65, ln_67, ln_68, ln_70, ln_71, ln_73, ln_74, ln_76, ln_77, ln_79, ln_80, ln_81, ln_82, ln_83, ln_84, ln_85, ln_86, ln_87, ln_88, ln_89, ln_90, ln_92, ln_93, ln_94, ln_95, ln_96, ln_97, ln_98, ln_101, ln_102, ln_103, ln_104, ln_106, ln_107, ln_108, ln_109, ln_110, ln_111, ln_112, ln_114, ln_115, ln_116, ln_117, ln_118, ln_119, ln_120, ln_121, ln_122, ln_123, ln_124, ln_125, ln_126, ln_127, ln_128, ln_129, ln_130, ln_131, ln_132, ln_133, ln_134, ln_135, ln_136, ln_137, ln_138, ln_139, ln_140, ln_141, ln_142, ln_143, ln_144, ln_145, ln_146, ln_147, ln_148, ln_149, ln_150, ln_151, ln_152, ln_153, ln_154, ln_155, ln_156, ln_157, ln_158⟩
theorem LM : (type_of% ln_705) ∧ (type_of% ln_706) ∧ (type_of% ln_707) ∧ (type_of% ln_708) ∧ (type_of% ln_709) ∧ (type_of% ln_710) ∧ (type_of% ln_711) ∧ (type_of% ln_712) ∧ (type_of% ln_713) ∧ (type_of% ln_714) ∧ (type_of% ln_715) ∧ (type_of% ln_716) ∧ (type_of% ln_717) ∧ (type_of% ln_718) ∧ (type_of% ln_719) ∧ (type_of% ln_720) ∧ (type_of% ln_721) ∧ (type_of% ln_722) ∧ (type_of% ln_723) ∧ (type_of% ln_724) ∧ (type_of% ln_725) ∧ (type_of% ln_726) ∧ (type_of% ln_727) ∧ (type_of% ln_728) ∧ (type_of% ln_729) ∧ (type_of% ln_730) ∧ (type_of% ln_731) ∧ (type_of% ln_732) ∧ (type_of% ln_733) ∧ (type_of% ln_734) ∧ (type_of% ln_735) ∧ (type_of% ln_736) ∧ (type_of% ln_737) ∧ (type_of% ln_738) ∧ (type_of% ln_739) ∧ (type_of% ln_740) ∧ (type_of% ln_741) ∧ (type_of% ln_742) ∧ (type_of% ln_743) ∧ (type_of% ln_744) ∧ (type_of% ln_745) ∧ (type_of% ln_746) ∧ (type_of% ln_747) ∧ (type_of% ln_748) ∧ (type_of% ln_749) ∧ (type_of% ln_750) ∧ (type_of% ln_751) ∧ (type_of% ln_752) ∧ (type_of% ln_753) ∧ (type_of% ln_754) ∧ (type_of% ln_755) ∧ (type_of% ln_756) ∧ (type_of% ln_757) ∧ (type_of% ln_758) ∧ (type_of% ln_759) ∧ (type_of% ln_760) ∧ (type_of% ln_761) ∧ (type_of% ln_762) ∧ (type_of% ln_763) ∧ (type_of% ln_764) ∧ (type_of% ln_765) ∧ (type_of% ln_766) ∧ (type_of% ln_767) ∧ (type_of% ln_768) ∧ (type_of% ln_769) ∧ (type_of% ln_770) ∧ (type_of% ln_771) ∧ (type_of% ln_772) ∧ (type_of% ln_773) ∧ (type_of% ln_774) ∧ (type_of% ln_775) := ⟨ln_705, ln_706, ln_707, ln_708, ln_709, ln_710, ln_711, ln_712, ln_713, ln_714, ln_715, ln_716, ln_717, ln_718, ln_719, ln_720, ln_721, ln_722, ln_723, ln_724, ln_725, ln_726, ln_727, ln_728, ln_729, ln_730, ln_731, ln_732, ln_733, ln_734, ln_735, ln_736, ln_737, ln_738, ln_739, ln_740, ln_741, ln_742, ln_743, ln_744, ln_745, ln_746, ln_747, ln_748, ln_749, ln_750, ln_751, ln_752, ln_753, ln_754, ln_755, ln_756, ln_757, ln_758, ln_759, ln_760, ln_761, ln_762, ln_763, ln_764, ln_765, ln_766, ln_767, ln_768, ln_769, ln_770, ln_771, ln_772, ln_773, ln_774, ln_775⟩
