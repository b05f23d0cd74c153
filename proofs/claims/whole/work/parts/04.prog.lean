/-! The program: by program (wip/whole/gen/emit_prog.py) out of the Statement's code rows and words -/
/-- CartoonHouse$Bone.<init>()V -/
def p_0 : ABl := [(0, [o_al 0, o_obj, o_al 0, o_new 4, o_dup, o_I 6, o_call 50, o_putR 0 3, o_al 0, o_I 32, o_newa 20, o_putR 0 4, o_al 0, o_I 32, o_newa 20, o_putR 0 5, o_ret 0])]
/-- CartoonHouse$Bone.become(LCartoonHouse$Bone;III)V -/
def p_1 : ABl := [(0, [o_al 0, o_al 1, o_putR 0 0, o_al 0, o_il 3, o_putI 0 1, o_al 0, o_il 4, o_putI 0 2, o_I 0, o_is 5, o_ft 1]),
  (19, [o_il 5, o_I 32, o_ic 3 2, o_al 0, o_getR 0 4, o_il 5, o_il 2, o_il 5, o_I 8, o_bin 0, o_call 169, o_bin 2, o_un 1, o_L 1024, o_call 146, o_iast, o_al 0, o_getR 0 5, o_il 5, o_il 2, o_il 5, o_call 169, o_bin 2, o_un 1, o_L 1024, o_call 146, o_iast, o_iinc 5 1, o_goto 1]),
  (77, [o_ret 0])]
/-- CartoonHouse$Bone.angleAt(I)I -/
def p_2 : ABl := [(0, [o_al 0, o_getR 0 3, o_il 1, o_al 0, o_getI 0 1, o_call 55, o_ret 1])]
/-- CartoonHouse$Bone.endAt(II)I -/
def p_3 : ABl := [(0, [o_al 0, o_il 1, o_call 4, o_is 3, o_I 0, o_is 4, o_al 0, o_as 5, o_I 0, o_is 6, o_ft 1]),
  (15, [o_il 6, o_I 10, o_ic 4 5, o_il 4, o_il 2, o_if 1 2, o_al 5, o_getR 0 4, o_il 3, o_iald, o_goto 3]),
  (38, [o_al 5, o_getR 0 5, o_il 3, o_iald, o_ft 3]),
  (45, [o_bin 0, o_is 4, o_il 3, o_al 5, o_il 1, o_call 2, o_bin 1, o_I 31, o_bin 3, o_is 3, o_al 5, o_getR 0 0, o_nn 4, o_goto 5]),
  (71, [o_al 5, o_getR 0 0, o_as 5, o_iinc 6 1, o_goto 1]),
  (84, [o_il 4, o_ret 1])]
/-- CartoonHouse$Bone.directionAt(I)I -/
def p_4 : ABl := [(0, [o_I 0, o_is 2, o_al 0, o_as 3, o_I 0, o_is 4, o_ft 1]),
  (7, [o_il 4, o_I 10, o_ic 4 3, o_il 2, o_al 3, o_il 1, o_call 2, o_bin 0, o_is 2, o_al 3, o_getR 0 0, o_nn 2, o_goto 3]),
  (32, [o_al 3, o_getR 0 0, o_as 3, o_iinc 4 1, o_goto 1]),
  (43, [o_il 2, o_I 31, o_bin 3, o_ret 1])]
/-- CartoonHouse$Bone.above()LCartoonHouse$Bone; -/
def p_5 : ABl := [(0, [o_al 0, o_getR 0 0, o_nn 1, o_al 0, o_goto 2]),
  (11, [o_al 0, o_getR 0 0, o_ft 2]),
  (15, [o_ret 3])]
/-- CartoonHouse$Bone.nearestAngles(III)I -/
def p_6 : ABl := [(0, [o_al 0, o_call 5, o_as 4, o_al 4, o_call 5, o_as 5, o_al 5, o_call 5, o_as 6, o_al 6, o_il 1, o_call 4, o_is 7, o_il 2, o_al 6, o_il 1, o_I 0, o_call 3, o_bin 1, o_is 8, o_il 3, o_al 6, o_il 1, o_I 1, o_call 3, o_bin 1, o_is 9, o_I 1000000000, o_is 10, o_I 0, o_is 11, o_al 5, o_getI 0 1, o_is 12, o_ft 1]),
  (64, [o_il 12, o_al 5, o_getI 0 2, o_ic 4 7, o_il 7, o_il 12, o_bin 0, o_I 31, o_bin 3, o_is 13, o_al 4, o_getI 0 1, o_is 14, o_ft 2]),
  (91, [o_il 14, o_al 4, o_getI 0 2, o_ic 4 6, o_il 13, o_il 14, o_bin 0, o_I 31, o_bin 3, o_is 15, o_il 8, o_al 5, o_getR 0 4, o_il 13, o_iald, o_bin 1, o_al 4, o_getR 0 4, o_il 15, o_iald, o_bin 1, o_is 16, o_il 9, o_al 5, o_getR 0 5, o_il 13, o_iald, o_bin 1, o_al 4, o_getR 0 5, o_il 15, o_iald, o_bin 1, o_is 17, o_al 0, o_getI 0 1, o_is 18, o_ft 3]),
  (161, [o_il 18, o_al 0, o_getI 0 2, o_ic 4 5, o_il 15, o_il 18, o_bin 0, o_I 31, o_bin 3, o_is 19, o_il 16, o_al 0, o_getR 0 4, o_il 19, o_iald, o_bin 1, o_is 20, o_il 17, o_al 0, o_getR 0 5, o_il 19, o_iald, o_bin 1, o_is 21, o_il 20, o_il 20, o_bin 2, o_il 21, o_il 21, o_bin 2, o_bin 0, o_il 10, o_ic 3 4, o_il 20, o_il 20, o_bin 2, o_il 21, o_il 21, o_bin 2, o_bin 0, o_is 10, o_il 12, o_I 32, o_bin 2, o_il 14, o_bin 0, o_I 32, o_bin 2, o_il 18, o_bin 0, o_is 11, o_ft 4]),
  (249, [o_iinc 18 1, o_goto 3]),
  (255, [o_iinc 14 1, o_goto 2]),
  (261, [o_iinc 12 1, o_goto 1]),
  (267, [o_il 11, o_ret 1])]
/-- CartoonHouse$Bone.springAt(III)I -/
def p_7 : ABl := [(0, [o_I 256, o_al 0, o_I 0, o_call 2, o_bin 2, o_is 4, o_I 0, o_is 5, o_I 1, o_is 6, o_ft 1]),
  (17, [o_il 6, o_il 1, o_ic 4 2, o_I 256, o_al 0, o_il 6, o_call 2, o_bin 2, o_il 4, o_bin 1, o_il 2, o_bin 2, o_I 16, o_call 350, o_is 7, o_il 5, o_il 7, o_bin 0, o_il 5, o_il 3, o_bin 2, o_I 16, o_call 350, o_bin 1, o_is 5, o_il 4, o_il 5, o_bin 0, o_is 4, o_iinc 6 1, o_goto 1]),
  (75, [o_il 4, o_ret 1])]
/-- CartoonHouse$Bytes.<init>(I)V -/
def p_8 : ABl := [(0, [o_al 0, o_obj, o_al 0, o_il 1, o_newa 21, o_putR 1 0, o_ret 0])]
/-- CartoonHouse$Bytes.hasRoomFor(I)Z -/
def p_9 : ABl := [(0, [o_al 0, o_getI 1 1, o_il 1, o_bin 0, o_al 0, o_getR 1 0, o_alen, o_ic 4 1, o_I 1, o_goto 2]),
  (18, [o_I 0, o_ft 2]),
  (19, [o_ret 1])]
/-- CartoonHouse$Bytes.putInt(I)V -/
def p_10 : ABl := [(0, [o_al 0, o_il 1, o_I 24, o_bin 8, o_call 11, o_al 0, o_il 1, o_I 16, o_bin 8, o_call 11, o_al 0, o_il 1, o_I 8, o_bin 8, o_call 11, o_al 0, o_il 1, o_call 11, o_ret 0])]
/-- CartoonHouse$Bytes.put(I)V -/
def p_11 : ABl := [(0, [o_al 0, o_getI 1 1, o_al 0, o_getR 1 0, o_alen, o_ic 3 1, o_al 0, o_getR 1 0, o_al 0, o_getI 1 1, o_il 1, o_un 3, o_bast, o_al 0, o_dup, o_getI 1 1, o_I 1, o_bin 0, o_putI 1 1, o_ft 1]),
  (33, [o_ret 0])]
/-- CartoonHouse$Bytes.byteAt(I)I -/
def p_12 : ABl := [(0, [o_il 1, o_if 2 1, o_il 1, o_al 0, o_getI 1 1, o_ic 3 1, o_al 0, o_getR 1 0, o_il 1, o_bald, o_I 255, o_bin 3, o_goto 2]),
  (25, [o_I (-1), o_ft 2]),
  (26, [o_ret 1])]
/-- CartoonHouse$Bytes.startReading()V -/
def p_13 : ABl := [(0, [o_al 0, o_I 0, o_putI 1 2, o_al 0, o_I (-1), o_putI 1 3, o_ret 0])]
/-- CartoonHouse$Bytes.readNumber(II)I -/
def p_14 : ABl := [(0, [o_al 0, o_getI 1 2, o_is 3, o_al 0, o_call 15, o_is 4, o_il 4, o_il 1, o_ic 2 1, o_il 4, o_il 2, o_ic 5 2, o_ft 1]),
  (23, [o_al 0, o_il 3, o_call 18, o_ft 2]),
  (28, [o_il 4, o_ret 1])]
/-- CartoonHouse$Bytes.readDigits()I -/
def p_15 : ABl := [(0, [o_I 0, o_is 1, o_I 0, o_is 2, o_I 0, o_is 3, o_ft 1]),
  (6, [o_il 3, o_I 10, o_ic 3 5, o_al 0, o_call 16, o_if 0 5, o_al 0, o_I 48, o_I 57, o_call 17, o_if 0 5, o_il 2, o_I 9, o_ic 0 2, o_il 2, o_I 1, o_ic 1 3, o_il 1, o_if 1 3, o_ft 2]),
  (45, [o_al 0, o_al 0, o_getI 1 2, o_call 18, o_goto 4]),
  (56, [o_il 1, o_I 10, o_bin 2, o_al 0, o_call 19, o_bin 0, o_I 48, o_bin 1, o_is 1, o_iinc 2 1, o_al 0, o_dup, o_getI 1 2, o_I 1, o_bin 0, o_putI 1 2, o_ft 4]),
  (82, [o_iinc 3 1, o_goto 1]),
  (88, [o_il 2, o_if 1 6, o_al 0, o_al 0, o_getI 1 2, o_call 18, o_ft 6]),
  (100, [o_il 1, o_ret 1])]
/-- CartoonHouse$Bytes.isFine()Z -/
def p_16 : ABl := [(0, [o_al 0, o_getI 1 3, o_I (-1), o_ic 1 1, o_I 1, o_goto 2]),
  (12, [o_I 0, o_ft 2]),
  (13, [o_ret 1])]
/-- CartoonHouse$Bytes.nextIsWithin(II)Z -/
def p_17 : ABl := [(0, [o_al 0, o_al 0, o_getI 1 2, o_call 12, o_is 3, o_il 1, o_il 3, o_ic 4 1, o_il 3, o_il 2, o_ic 4 1, o_I 1, o_goto 2]),
  (23, [o_I 0, o_ft 2]),
  (24, [o_ret 1])]
/-- CartoonHouse$Bytes.refuse(I)V -/
def p_18 : ABl := [(0, [o_al 0, o_call 16, o_if 0 1, o_al 0, o_il 1, o_putI 1 3, o_ft 1]),
  (12, [o_ret 0])]
/-- CartoonHouse$Bytes.next()I -/
def p_19 : ABl := [(0, [o_al 0, o_al 0, o_getI 1 2, o_call 12, o_ret 1])]
/-- CartoonHouse$Bytes.goesOn()Z -/
def p_20 : ABl := [(0, [o_al 0, o_call 21, o_if 1 1, o_I 0, o_ret 1]),
  (9, [o_al 0, o_I 32, o_call 22, o_al 0, o_call 16, o_ret 1])]
/-- CartoonHouse$Bytes.hasMore()Z -/
def p_21 : ABl := [(0, [o_al 0, o_call 16, o_if 0 1, o_al 0, o_getI 1 2, o_al 0, o_getI 1 1, o_ic 3 1, o_I 1, o_goto 2]),
  (22, [o_I 0, o_ft 2]),
  (23, [o_ret 1])]
/-- CartoonHouse$Bytes.expect(I)V -/
def p_22 : ABl := [(0, [o_al 0, o_il 1, o_call 23, o_if 1 1, o_al 0, o_al 0, o_getI 1 2, o_call 18, o_ft 1]),
  (16, [o_ret 0])]
/-- CartoonHouse$Bytes.skip(I)Z -/
def p_23 : ABl := [(0, [o_al 0, o_call 16, o_if 0 1, o_al 0, o_al 0, o_getI 1 2, o_call 12, o_il 1, o_ic 1 1, o_I 1, o_goto 2]),
  (23, [o_I 0, o_ft 2]),
  (24, [o_is 2, o_il 2, o_if 0 3, o_al 0, o_dup, o_getI 1 2, o_I 1, o_bin 0, o_putI 1 2, o_ft 3]),
  (39, [o_il 2, o_ret 1])]
/-- CartoonHouse$Bytes.wrong()I -/
def p_24 : ABl := [(0, [o_I (-1000), o_al 0, o_getI 1 3, o_bin 1, o_ret 1])]
/-- CartoonHouse$Bytes.makeEmpty()V -/
def p_25 : ABl := [(0, [o_al 0, o_I 0, o_putI 1 1, o_ret 0])]
/-- CartoonHouse$Bytes.putNumber(I)V -/
def p_26 : ABl := [(0, [o_il 1, o_I 10, o_ic 2 1, o_al 0, o_I 48, o_il 1, o_I 10, o_bin 9, o_bin 0, o_call 11, o_ft 1]),
  (17, [o_al 0, o_I 48, o_il 1, o_I 10, o_bin 10, o_bin 0, o_call 11, o_ret 0])]
/-- CartoonHouse$Bytes.readInt(II)I -/
def p_27 : ABl := [(0, [o_al 0, o_getI 1 2, o_is 3, o_al 0, o_I 45, o_call 23, o_is 4, o_il 4, o_if 0 1, o_al 0, o_call 19, o_I 48, o_ic 1 1, o_al 0, o_al 0, o_getI 1 2, o_call 18, o_ft 1]),
  (35, [o_il 4, o_if 0 2, o_al 0, o_call 15, o_un 0, o_goto 3]),
  (48, [o_al 0, o_call 15, o_ft 3]),
  (52, [o_is 5, o_il 5, o_il 1, o_ic 2 4, o_il 5, o_il 2, o_ic 5 5, o_ft 4]),
  (66, [o_al 0, o_il 3, o_call 18, o_ft 5]),
  (71, [o_il 5, o_ret 1])]
/-- CartoonHouse$Bytes.makeRoom(I)V -/
def p_28 : ABl := [(0, [o_al 0, o_getR 1 0, o_alen, o_il 1, o_ic 3 1, o_al 0, o_al 0, o_getR 1 0, o_il 1, o_call 357, o_putR 1 0, o_ft 1]),
  (21, [o_ret 0])]
/-- CartoonHouse$Canvas.<init>()V -/
def p_29 : ABl := [(0, [o_al 0, o_obj, o_al 0, o_I 1536, o_newa 20, o_putR 2 0, o_al 0, o_I 1536, o_newa 20, o_putR 2 1, o_al 0, o_I 1536, o_newa 20, o_putR 2 2, o_al 0, o_I 1536, o_newa 20, o_putR 2 3, o_al 0, o_I 16, o_newa 20, o_putR 2 6, o_al 0, o_I 16, o_newa 20, o_putR 2 7, o_ret 0])]
/-- CartoonHouse$Canvas.regionOf(LCartoonHouse$Drawing;II)I -/
def p_30 : ABl := [(0, [o_al 0, o_al 1, o_call 31, o_al 0, o_il 2, o_il 3, o_call 34, o_al 0, o_getI 2 5, o_if 0 1, o_I (-5), o_goto 2]),
  (23, [o_al 0, o_getI 2 4, o_ft 2]),
  (27, [o_ret 1])]
/-- CartoonHouse$Canvas.drawInk(LCartoonHouse$Drawing;)V -/
def p_31 : ABl := [(0, [o_al 0, o_getR 2 0, o_I 0, o_call 356, o_al 0, o_I 0, o_putI 2 8, o_I 0, o_is 2, o_ft 1]),
  (15, [o_il 2, o_al 1, o_getI 3 1, o_ic 3 5, o_al 1, o_getR 3 0, o_il 2, o_aald, o_as 3, o_I 0, o_is 4, o_ft 2]),
  (33, [o_il 4, o_al 3, o_getI 9 1, o_I 1, o_bin 1, o_ic 3 3, o_al 0, o_getR 2 0, o_al 3, o_getI 9 0, o_al 3, o_getR 9 2, o_il 4, o_iald, o_al 3, o_getR 9 3, o_il 4, o_iald, o_al 3, o_getR 9 2, o_il 4, o_I 1, o_bin 0, o_iald, o_al 3, o_getR 9 3, o_il 4, o_I 1, o_bin 0, o_iald, o_call 32, o_iinc 4 1, o_goto 2]),
  (93, [o_al 3, o_getI 9 1, o_if 5 4, o_al 3, o_I 0, o_al 3, o_getI 9 1, o_I 1, o_bin 1, o_call 119, o_if 1 4, o_al 0, o_al 3, o_I 0, o_call 33, o_al 0, o_al 3, o_al 3, o_getI 9 1, o_I 1, o_bin 1, o_call 33, o_ft 4]),
  (131, [o_iinc 2 1, o_goto 1]),
  (137, [o_ret 0])]
/-- CartoonHouse$Canvas.drawLine([IIIIII)V -/
def p_32 : ABl := [(0, [o_il 4, o_il 2, o_bin 1, o_is 6, o_il 5, o_il 3, o_bin 1, o_is 7, o_il 6, o_call 346, o_il 7, o_call 346, o_call 347, o_is 8, o_I 0, o_is 9, o_ft 1]),
  (30, [o_il 9, o_il 8, o_ic 4 7, o_il 8, o_if 1 2, o_il 2, o_goto 3]),
  (46, [o_il 2, o_I 2, o_il 9, o_bin 2, o_il 6, o_bin 2, o_il 8, o_bin 0, o_I 2, o_il 8, o_bin 2, o_call 350, o_bin 0, o_ft 3]),
  (65, [o_is 10, o_il 8, o_if 1 4, o_il 3, o_goto 5]),
  (76, [o_il 3, o_I 2, o_il 9, o_bin 2, o_il 7, o_bin 2, o_il 8, o_bin 0, o_I 2, o_il 8, o_bin 2, o_call 350, o_bin 0, o_ft 5]),
  (95, [o_is 11, o_il 10, o_il 11, o_call 145, o_if 0 6, o_al 0, o_il 10, o_il 11, o_call 151, o_il 1, o_iast, o_ft 6]),
  (117, [o_iinc 9 1, o_goto 1]),
  (123, [o_ret 0])]
/-- CartoonHouse$Canvas.addEnd(LCartoonHouse$Stroke;I)V -/
def p_33 : ABl := [(0, [o_al 0, o_getI 2 8, o_al 0, o_getR 2 6, o_alen, o_ic 3 1, o_al 0, o_getR 2 6, o_al 0, o_getI 2 8, o_al 1, o_getR 9 2, o_il 2, o_iald, o_iast, o_al 0, o_getR 2 7, o_al 0, o_getI 2 8, o_al 1, o_getR 9 3, o_il 2, o_iald, o_iast, o_al 0, o_dup, o_getI 2 8, o_I 1, o_bin 0, o_putI 2 8, o_ft 1]),
  (52, [o_ret 0])]
/-- CartoonHouse$Canvas.findRegion(II)V -/
def p_34 : ABl := [(0, [o_al 0, o_il 2, o_call 35, o_al 0, o_I 0, o_putI 2 4, o_al 0, o_I 0, o_putZ 2 5, o_al 0, o_il 1, o_call 36, o_I 0, o_is 3, o_ft 1]),
  (22, [o_il 3, o_I 1536, o_ic 3 2, o_il 3, o_al 0, o_getI 2 4, o_ic 3 2, o_al 0, o_getI 2 5, o_if 1 2, o_al 0, o_getR 2 3, o_il 3, o_iald, o_is 4, o_al 0, o_il 4, o_I 1, o_bin 1, o_call 36, o_al 0, o_il 4, o_I 1, o_bin 0, o_call 36, o_al 0, o_il 4, o_I 48, o_bin 1, o_call 36, o_al 0, o_il 4, o_I 48, o_bin 0, o_call 36, o_iinc 3 1, o_goto 1]),
  (92, [o_ret 0])]
/-- CartoonHouse$Canvas.raiseWalls(I)V -/
def p_35 : ABl := [(0, [o_al 0, o_getR 2 0, o_I 0, o_al 0, o_getR 2 2, o_I 0, o_I 1536, o_cp, o_I 0, o_is 2, o_ft 1]),
  (18, [o_il 2, o_al 0, o_getI 2 8, o_ic 3 5, o_il 2, o_I 1, o_bin 0, o_is 3, o_ft 2]),
  (30, [o_il 3, o_al 0, o_getI 2 8, o_ic 3 4, o_al 0, o_getR 2 6, o_il 3, o_iald, o_al 0, o_getR 2 6, o_il 2, o_iald, o_bin 1, o_is 4, o_al 0, o_getR 2 7, o_il 3, o_iald, o_al 0, o_getR 2 7, o_il 2, o_iald, o_bin 1, o_is 5, o_il 4, o_il 4, o_bin 2, o_il 5, o_il 5, o_bin 2, o_bin 0, o_is 6, o_il 6, o_if 5 3, o_il 6, o_il 1, o_il 1, o_bin 2, o_ic 4 3, o_al 0, o_getR 2 2, o_I 1, o_al 0, o_getR 2 6, o_il 2, o_iald, o_al 0, o_getR 2 7, o_il 2, o_iald, o_al 0, o_getR 2 6, o_il 3, o_iald, o_al 0, o_getR 2 7, o_il 3, o_iald, o_call 32, o_ft 3]),
  (126, [o_iinc 3 1, o_goto 2]),
  (132, [o_iinc 2 1, o_goto 1]),
  (138, [o_ret 0])]
/-- CartoonHouse$Canvas.comeTo(I)V -/
def p_36 : ABl := [(0, [o_il 1, o_if 2 2, o_il 1, o_I 1536, o_ic 3 2, o_al 0, o_getI 2 4, o_I 1536, o_ic 3 2, o_al 0, o_getR 2 2, o_il 1, o_iald, o_if 1 2, o_al 0, o_getR 2 2, o_il 1, o_I 100, o_iast, o_al 0, o_getR 2 3, o_al 0, o_getI 2 4, o_il 1, o_iast, o_al 0, o_dup, o_getI 2 4, o_I 1, o_bin 0, o_putI 2 4, o_il 1, o_I 48, o_bin 10, o_is 2, o_il 2, o_if 0 1, o_il 2, o_I 47, o_ic 0 1, o_il 1, o_I 48, o_ic 2 1, o_il 1, o_I 1488, o_ic 2 2, o_ft 1]),
  (86, [o_al 0, o_I 1, o_putZ 2 5, o_ft 2]),
  (91, [o_ret 0])]
/-- CartoonHouse$Canvas.drawPaint(LCartoonHouse$Drawing;)V -/
def p_37 : ABl := [(0, [o_al 0, o_al 1, o_call 31, o_al 0, o_getR 2 0, o_I 0, o_al 0, o_getR 2 1, o_I 0, o_I 1536, o_cp, o_I 0, o_is 2, o_ft 1]),
  (23, [o_il 2, o_al 1, o_getI 3 5, o_ic 3 4, o_al 0, o_al 1, o_getR 3 2, o_il 2, o_iald, o_al 1, o_getR 3 3, o_il 2, o_iald, o_call 34, o_I 0, o_is 3, o_ft 2]),
  (49, [o_il 3, o_al 0, o_getI 2 4, o_ic 3 3, o_al 0, o_getI 2 5, o_if 1 3, o_al 0, o_getR 2 1, o_al 0, o_getR 2 3, o_il 3, o_iald, o_al 1, o_getR 3 4, o_il 2, o_iald, o_iast, o_iinc 3 1, o_goto 2]),
  (87, [o_iinc 2 1, o_goto 1]),
  (93, [o_ret 0])]
/-- CartoonHouse$Drawing.<init>()V -/
def p_38 : ABl := [(0, [o_al 0, o_obj, o_al 0, o_I 8, o_anew 39, o_putR 3 0, o_al 0, o_I 6, o_newa 20, o_putR 3 2, o_al 0, o_I 6, o_newa 20, o_putR 3 3, o_al 0, o_I 6, o_newa 20, o_putR 3 4, o_I 0, o_is 1, o_ft 1]),
  (39, [o_il 1, o_I 8, o_ic 3 2, o_al 0, o_getR 3 0, o_il 1, o_new 9, o_dup, o_call 110, o_aast, o_iinc 1 1, o_goto 1]),
  (64, [o_ret 0])]
/-- CartoonHouse$Drawing.addPart(LCartoonHouse$Stroke;II)Z -/
def p_39 : ABl := [(0, [o_al 0, o_getI 3 1, o_I 8, o_ic 2 1, o_I 0, o_ret 1]),
  (11, [o_al 0, o_getR 3 0, o_al 0, o_getI 3 1, o_aald, o_al 1, o_il 2, o_il 3, o_call 115, o_al 0, o_dup, o_getI 3 1, o_I 1, o_bin 0, o_putI 3 1, o_I 1, o_ret 1])]
/-- CartoonHouse$Drawing.dropStroke(I)V -/
def p_40 : ABl := [(0, [o_al 0, o_getR 3 0, o_il 1, o_aald, o_as 2, o_il 1, o_is 3, o_ft 1]),
  (9, [o_il 3, o_al 0, o_getI 3 1, o_I 1, o_bin 1, o_ic 3 2, o_al 0, o_getR 3 0, o_il 3, o_al 0, o_getR 3 0, o_il 3, o_I 1, o_bin 0, o_aald, o_aast, o_iinc 3 1, o_goto 1]),
  (39, [o_al 0, o_getR 3 0, o_al 0, o_getI 3 1, o_I 1, o_bin 1, o_al 2, o_aast, o_al 0, o_dup, o_getI 3 1, o_I 1, o_bin 1, o_putI 3 1, o_ret 0])]
/-- CartoonHouse$Drawing.writeTo(LCartoonHouse$Bytes;)V -/
def p_41 : ABl := [(0, [o_I 0, o_is 2, o_ft 1]),
  (2, [o_il 2, o_al 0, o_getI 3 1, o_ic 3 2, o_al 0, o_getR 3 0, o_il 2, o_aald, o_al 1, o_call 116, o_iinc 2 1, o_goto 1]),
  (26, [o_ret 0])]
/-- CartoonHouse$Drawing.becomeErased(LCartoonHouse$Drawing;III)I -/
def p_42 : ABl := [(0, [o_al 0, o_I 0, o_putI 3 1, o_I 0, o_is 5, o_I 1, o_is 6, o_I 0, o_is 7, o_ft 1]),
  (14, [o_il 7, o_al 1, o_getI 3 1, o_ic 3 7, o_al 1, o_getR 3 0, o_il 7, o_aald, o_as 8, o_I 0, o_is 9, o_I 0, o_is 10, o_ft 2]),
  (38, [o_il 10, o_al 8, o_getI 9 1, o_I 1, o_bin 1, o_ic 3 5, o_al 8, o_il 10, o_il 2, o_il 3, o_il 4, o_call 121, o_if 0 4, o_il 9, o_il 10, o_ic 3 3, o_al 0, o_al 8, o_il 9, o_il 10, o_call 39, o_if 1 3, o_I 0, o_is 6, o_ft 3]),
  (87, [o_il 10, o_I 1, o_bin 0, o_is 9, o_iinc 5 1, o_ft 4]),
  (96, [o_iinc 10 1, o_goto 2]),
  (102, [o_il 9, o_al 8, o_getI 9 1, o_I 1, o_bin 1, o_ic 3 6, o_al 0, o_al 8, o_il 9, o_al 8, o_getI 9 1, o_I 1, o_bin 1, o_call 39, o_if 1 6, o_I 0, o_is 6, o_ft 6]),
  (135, [o_iinc 7 1, o_goto 1]),
  (141, [o_il 6, o_if 0 8, o_il 5, o_goto 9]),
  (151, [o_I (-4), o_ft 9]),
  (153, [o_ret 1])]
/-- CartoonHouse$Drawing.copyStrokes(LCartoonHouse$Drawing;)V -/
def p_43 : ABl := [(0, [o_al 0, o_I 0, o_putI 3 1, o_I 0, o_is 2, o_ft 1]),
  (7, [o_il 2, o_al 1, o_getI 3 1, o_ic 3 2, o_al 0, o_al 1, o_getR 3 0, o_il 2, o_aald, o_I 0, o_al 1, o_getR 3 0, o_il 2, o_aald, o_getI 9 1, o_I 1, o_bin 1, o_call 39, o_pop, o_iinc 2 1, o_goto 1]),
  (44, [o_ret 0])]
/-- CartoonHouse$Drawing.addFill(III)V -/
def p_44 : ABl := [(0, [o_al 0, o_getI 3 5, o_I 6, o_ic 3 1, o_al 0, o_getR 3 2, o_al 0, o_getI 3 5, o_il 1, o_iast, o_al 0, o_getR 3 3, o_al 0, o_getI 3 5, o_il 2, o_iast, o_al 0, o_getR 3 4, o_al 0, o_getI 3 5, o_il 3, o_iast, o_al 0, o_dup, o_getI 3 5, o_I 1, o_bin 0, o_putI 3 5, o_ft 1]),
  (49, [o_ret 0])]
/-- CartoonHouse$Drawing.dropFill(I)V -/
def p_45 : ABl := [(0, [o_il 1, o_is 2, o_ft 1]),
  (2, [o_il 2, o_al 0, o_getI 3 5, o_I 1, o_bin 1, o_ic 3 2, o_al 0, o_getR 3 2, o_il 2, o_al 0, o_getR 3 2, o_il 2, o_I 1, o_bin 0, o_iald, o_iast, o_al 0, o_getR 3 3, o_il 2, o_al 0, o_getR 3 3, o_il 2, o_I 1, o_bin 0, o_iald, o_iast, o_al 0, o_getR 3 4, o_il 2, o_al 0, o_getR 3 4, o_il 2, o_I 1, o_bin 0, o_iald, o_iast, o_iinc 2 1, o_goto 1]),
  (60, [o_al 0, o_dup, o_getI 3 5, o_I 1, o_bin 1, o_putI 3 5, o_ret 0])]
/-- CartoonHouse$Drawing.becomeBetween(LCartoonHouse$Drawing;LCartoonHouse$Drawing;[III)V -/
def p_46 : ABl := [(0, [o_al 0, o_I 0, o_putI 3 1, o_I 2, o_il 4, o_bin 2, o_il 5, o_ic 3 1, o_I 1, o_goto 2]),
  (18, [o_I 0, o_ft 2]),
  (19, [o_is 6, o_I 0, o_is 7, o_I 0, o_is 8, o_ft 3]),
  (27, [o_il 8, o_al 1, o_getI 3 1, o_ic 3 6, o_al 3, o_il 8, o_iald, o_al 2, o_getI 3 1, o_ic 3 4, o_il 7, o_I 1, o_al 3, o_il 8, o_iald, o_bin 6, o_bin 4, o_is 7, o_al 0, o_al 1, o_getR 3 0, o_il 8, o_aald, o_al 2, o_getR 3 0, o_al 3, o_il 8, o_iald, o_aald, o_il 4, o_il 5, o_call 47, o_goto 5]),
  (85, [o_il 6, o_if 0 5, o_al 0, o_al 1, o_getR 3 0, o_il 8, o_aald, o_I 0, o_al 1, o_getR 3 0, o_il 8, o_aald, o_getI 9 1, o_I 1, o_bin 1, o_call 39, o_pop, o_ft 5]),
  (115, [o_iinc 8 1, o_goto 3]),
  (121, [o_I 0, o_is 8, o_ft 7]),
  (124, [o_il 8, o_al 2, o_getI 3 1, o_ic 3 9, o_il 6, o_if 1 9, o_il 7, o_il 8, o_bin 7, o_I 1, o_bin 3, o_if 1 8, o_al 0, o_al 2, o_getR 3 0, o_il 8, o_aald, o_I 0, o_al 2, o_getR 3 0, o_il 8, o_aald, o_getI 9 1, o_I 1, o_bin 1, o_call 39, o_pop, o_ft 8]),
  (173, [o_iinc 8 1, o_goto 7]),
  (179, [o_ret 0])]
/-- CartoonHouse$Drawing.addBetween(LCartoonHouse$Stroke;LCartoonHouse$Stroke;II)V -/
def p_47 : ABl := [(0, [o_al 0, o_getI 3 1, o_I 8, o_ic 3 1, o_al 0, o_getR 3 0, o_al 0, o_getI 3 1, o_aald, o_al 1, o_al 2, o_il 3, o_il 4, o_call 129, o_al 0, o_getR 3 0, o_al 0, o_getI 3 1, o_aald, o_getI 9 1, o_I 2, o_ic 2 1, o_al 0, o_dup, o_getI 3 1, o_I 1, o_bin 0, o_putI 3 1, o_ft 1]),
  (52, [o_ret 0])]
/-- CartoonHouse$Drawing.copyFills(LCartoonHouse$Drawing;)V -/
def p_48 : ABl := [(0, [o_al 0, o_I 0, o_putI 3 5, o_I 0, o_is 2, o_ft 1]),
  (7, [o_il 2, o_al 1, o_getI 3 5, o_ic 3 2, o_al 0, o_al 1, o_getR 3 2, o_il 2, o_iald, o_al 1, o_getR 3 3, o_il 2, o_iald, o_al 1, o_getR 3 4, o_il 2, o_iald, o_call 44, o_iinc 2 1, o_goto 1]),
  (43, [o_ret 0])]
/-- CartoonHouse$Drawing.becomeWiggled(LCartoonHouse$Drawing;LCartoonHouse$Layer;I)V -/
def p_49 : ABl := [(0, [o_al 0, o_al 1, o_getI 3 1, o_putI 3 1, o_al 2, o_il 3, o_call 66, o_is 4, o_I 0, o_is 5, o_ft 1]),
  (18, [o_il 5, o_al 0, o_getI 3 1, o_ic 3 2, o_al 0, o_getR 3 0, o_il 5, o_aald, o_al 1, o_getR 3 0, o_il 5, o_aald, o_il 5, o_al 2, o_il 4, o_call 131, o_iinc 5 1, o_goto 1]),
  (55, [o_al 0, o_al 1, o_call 48, o_ret 0])]
/-- CartoonHouse$Keys.<init>(I)V -/
def p_50 : ABl := [(0, [o_al 0, o_obj, o_al 0, o_il 1, o_newa 20, o_putR 4 0, o_al 0, o_il 1, o_newa 20, o_putR 4 1, o_ret 0])]
/-- CartoonHouse$Keys.hasRoomAt(I)Z -/
def p_51 : ABl := [(0, [o_al 0, o_getI 4 2, o_al 0, o_getR 4 0, o_alen, o_ic 2 1, o_al 0, o_il 1, o_call 52, o_if 0 2, o_ft 1]),
  (20, [o_I 1, o_goto 3]),
  (24, [o_I 0, o_ft 3]),
  (25, [o_ret 1])]
/-- CartoonHouse$Keys.isThere(I)Z -/
def p_52 : ABl := [(0, [o_al 0, o_il 1, o_call 53, o_is 2, o_il 2, o_al 0, o_getI 4 2, o_ic 3 1, o_al 0, o_getR 4 0, o_il 2, o_iald, o_il 1, o_ic 1 1, o_I 1, o_goto 2]),
  (28, [o_I 0, o_ft 2]),
  (29, [o_ret 1])]
/-- CartoonHouse$Keys.ahead(I)I -/
def p_53 : ABl := [(0, [o_I 0, o_is 2, o_ft 1]),
  (2, [o_il 2, o_al 0, o_getI 4 2, o_ic 3 2, o_al 0, o_getR 4 0, o_il 2, o_iald, o_il 1, o_ic 3 2, o_iinc 2 1, o_goto 1]),
  (26, [o_il 2, o_ret 1])]
/-- CartoonHouse$Keys.put(II)V -/
def p_54 : ABl := [(0, [o_al 0, o_il 1, o_call 51, o_if 1 1, o_ret 0]),
  (9, [o_al 0, o_il 1, o_call 53, o_is 3, o_al 0, o_il 1, o_call 52, o_if 1 2, o_al 0, o_getR 4 0, o_il 3, o_al 0, o_getR 4 0, o_il 3, o_I 1, o_bin 0, o_al 0, o_getI 4 2, o_il 3, o_bin 1, o_cp, o_al 0, o_getR 4 1, o_il 3, o_al 0, o_getR 4 1, o_il 3, o_I 1, o_bin 0, o_al 0, o_getI 4 2, o_il 3, o_bin 1, o_cp, o_al 0, o_dup, o_getI 4 2, o_I 1, o_bin 0, o_putI 4 2, o_ft 2]),
  (75, [o_al 0, o_getR 4 0, o_il 3, o_il 1, o_iast, o_al 0, o_getR 4 1, o_il 3, o_il 2, o_iast, o_ret 0])]
/-- CartoonHouse$Keys.valueAt(II)I -/
def p_55 : ABl := [(0, [o_al 0, o_getI 4 2, o_if 1 1, o_il 2, o_ret 1]),
  (9, [o_al 0, o_il 1, o_call 53, o_is 3, o_il 3, o_al 0, o_getI 4 2, o_ic 1 2, o_al 0, o_getR 4 1, o_al 0, o_getI 4 2, o_I 1, o_bin 1, o_iald, o_ret 1]),
  (35, [o_il 3, o_if 0 3, o_al 0, o_getR 4 0, o_il 3, o_iald, o_il 1, o_ic 1 4, o_ft 3]),
  (49, [o_al 0, o_getR 4 1, o_il 3, o_iald, o_ret 1]),
  (56, [o_al 0, o_getR 4 1, o_il 3, o_I 1, o_bin 1, o_iald, o_is 4, o_il 4, o_al 0, o_getR 4 1, o_il 3, o_iald, o_il 4, o_bin 1, o_il 1, o_al 0, o_getR 4 0, o_il 3, o_I 1, o_bin 1, o_iald, o_bin 1, o_bin 2, o_un 1, o_al 0, o_getR 4 0, o_il 3, o_iald, o_al 0, o_getR 4 0, o_il 3, o_I 1, o_bin 1, o_iald, o_bin 1, o_un 1, o_call 146, o_bin 0, o_ret 1])]
/-- CartoonHouse$Keys.drop(I)V -/
def p_56 : ABl := [(0, [o_al 0, o_il 1, o_call 52, o_if 0 1, o_al 0, o_il 1, o_call 53, o_is 2, o_al 0, o_getR 4 0, o_il 2, o_I 1, o_bin 0, o_al 0, o_getR 4 0, o_il 2, o_al 0, o_getI 4 2, o_il 2, o_bin 1, o_I 1, o_bin 1, o_cp, o_al 0, o_getR 4 1, o_il 2, o_I 1, o_bin 0, o_al 0, o_getR 4 1, o_il 2, o_al 0, o_getI 4 2, o_il 2, o_bin 1, o_I 1, o_bin 1, o_cp, o_al 0, o_dup, o_getI 4 2, o_I 1, o_bin 1, o_putI 4 2, o_ft 1]),
  (70, [o_ret 0])]
/-- CartoonHouse$Layer.<init>()V -/
def p_57 : ABl := [(0, [o_al 0, o_obj, o_al 0, o_I 120, o_newa 20, o_putR 5 0, o_al 0, o_I 120, o_newa 20, o_putR 5 2, o_al 0, o_I 64, o_putI 5 4, o_ret 0])]
/-- CartoonHouse$Layer.readRow(LCartoonHouse$Bytes;)I -/
def p_58 : ABl := [(0, [o_al 1, o_call 13, o_al 0, o_I 0, o_putI 5 3, o_al 1, o_call 21, o_is 2, o_I 0, o_is 3, o_ft 1]),
  (16, [o_il 2, o_if 0 4, o_il 3, o_I 1600, o_ic 3 4, o_al 1, o_call 19, o_I 40, o_ic 1 2, o_al 0, o_al 1, o_call 59, o_goto 3]),
  (44, [o_al 0, o_al 1, o_call 60, o_ft 3]),
  (49, [o_al 1, o_call 20, o_is 2, o_iinc 3 1, o_goto 1]),
  (60, [o_al 1, o_call 16, o_if 1 5, o_al 1, o_call 24, o_ret 1]),
  (72, [o_al 0, o_call 61, o_al 0, o_getI 5 1, o_ret 1])]
/-- CartoonHouse$Layer.readBracket(LCartoonHouse$Bytes;)V -/
def p_59 : ABl := [(0, [o_al 1, o_getI 1 2, o_is 2, o_al 0, o_getI 5 3, o_is 3, o_al 1, o_I 40, o_call 22, o_I 1, o_is 4, o_I 0, o_is 5, o_ft 1]),
  (22, [o_il 4, o_if 0 4, o_il 5, o_I 1600, o_ic 3 4, o_al 0, o_al 1, o_call 60, o_al 1, o_call 19, o_I 41, o_ic 0 2, o_al 1, o_call 20, o_if 0 2, o_I 1, o_goto 3]),
  (60, [o_I 0, o_ft 3]),
  (61, [o_is 4, o_iinc 5 1, o_goto 1]),
  (69, [o_al 1, o_I 41, o_call 22, o_al 1, o_I 42, o_call 22, o_al 1, o_I 1, o_I 20, o_call 14, o_is 5, o_al 0, o_getI 5 3, o_il 3, o_bin 1, o_is 6, o_al 0, o_getI 5 3, o_il 6, o_il 5, o_I 1, o_bin 1, o_bin 2, o_bin 0, o_I 120, o_ic 5 5, o_al 1, o_il 2, o_call 18, o_ft 5]),
  (120, [o_il 6, o_is 7, o_ft 6]),
  (124, [o_il 7, o_il 6, o_il 5, o_bin 2, o_ic 3 7, o_al 1, o_call 16, o_if 0 7, o_al 0, o_getR 5 2, o_al 0, o_getI 5 3, o_al 0, o_getR 5 2, o_al 0, o_getI 5 3, o_il 6, o_bin 1, o_iald, o_iast, o_al 0, o_dup, o_getI 5 3, o_I 1, o_bin 0, o_putI 5 3, o_iinc 7 1, o_goto 6]),
  (178, [o_ret 0])]
/-- CartoonHouse$Layer.readItem(LCartoonHouse$Bytes;)V -/
def p_60 : ABl := [(0, [o_al 1, o_getI 1 2, o_is 2, o_al 1, o_I 45, o_call 23, o_if 0 1, o_I (-1), o_goto 2]),
  (18, [o_al 1, o_I 0, o_I 15, o_call 14, o_ft 2]),
  (25, [o_is 3, o_al 1, o_I 42, o_call 23, o_if 0 3, o_al 1, o_I 1, o_I 99, o_call 14, o_goto 4]),
  (45, [o_I 1, o_ft 4]),
  (46, [o_is 4, o_al 0, o_getI 5 3, o_il 4, o_bin 0, o_I 120, o_ic 5 5, o_al 1, o_il 2, o_call 18, o_ft 5]),
  (65, [o_I 0, o_is 5, o_ft 6]),
  (68, [o_il 5, o_il 4, o_ic 3 7, o_al 1, o_call 16, o_if 0 7, o_al 0, o_getR 5 2, o_al 0, o_getI 5 3, o_il 3, o_iast, o_al 0, o_dup, o_getI 5 3, o_I 1, o_bin 0, o_putI 5 3, o_iinc 5 1, o_goto 6]),
  (108, [o_ret 0])]
/-- CartoonHouse$Layer.keepDraft()V -/
def p_61 : ABl := [(0, [o_al 0, o_getR 5 2, o_I 0, o_al 0, o_getR 5 0, o_I 0, o_al 0, o_getI 5 3, o_cp, o_al 0, o_al 0, o_getI 5 3, o_putI 5 1, o_ret 0])]
/-- CartoonHouse$Layer.drawingAt(I)I -/
def p_62 : ABl := [(0, [o_il 1, o_if 2 1, o_il 1, o_al 0, o_getI 5 1, o_ic 3 1, o_al 0, o_getR 5 0, o_il 1, o_iald, o_goto 2]),
  (21, [o_I (-1), o_ft 2]),
  (22, [o_ret 1])]
/-- CartoonHouse$Layer.stretchBy(II)I -/
def p_63 : ABl := [(0, [o_il 1, o_if 5 1, o_il 2, o_if 4 2, o_ft 1]),
  (8, [o_I (-1), o_ret 1]),
  (10, [o_al 0, o_getI 5 1, o_il 1, o_bin 2, o_il 2, o_bin 9, o_is 3, o_il 3, o_I 120, o_ic 5 3, o_I (-4), o_ret 1]),
  (28, [o_I 0, o_is 4, o_ft 4]),
  (31, [o_il 4, o_il 3, o_ic 3 5, o_al 0, o_getR 5 2, o_il 4, o_al 0, o_il 4, o_il 2, o_bin 2, o_il 1, o_bin 9, o_call 62, o_iast, o_iinc 4 1, o_goto 4]),
  (60, [o_al 0, o_il 3, o_putI 5 3, o_al 0, o_call 61, o_al 0, o_getI 5 1, o_ret 1])]
/-- CartoonHouse$Layer.writeTo(LCartoonHouse$Bytes;)V -/
def p_64 : ABl := [(0, [o_I 0, o_is 2, o_I 1, o_is 3, o_ft 1]),
  (4, [o_il 3, o_al 0, o_getI 5 1, o_ic 4 4, o_il 3, o_al 0, o_getI 5 1, o_ic 0 2, o_al 0, o_getR 5 0, o_il 3, o_iald, o_al 0, o_getR 5 0, o_il 2, o_iald, o_ic 1 2, o_il 3, o_il 2, o_bin 1, o_I 99, o_ic 1 3, o_ft 2]),
  (43, [o_al 1, o_al 0, o_getR 5 0, o_il 2, o_iald, o_il 3, o_il 2, o_bin 1, o_call 65, o_il 3, o_is 2, o_ft 3]),
  (58, [o_iinc 3 1, o_goto 1]),
  (64, [o_ret 0])]
/-- CartoonHouse$Layer.writeItem(LCartoonHouse$Bytes;II)V -/
def p_65 : ABl := [(0, [o_al 0, o_getI 1 1, o_if 5 1, o_al 0, o_I 32, o_call 11, o_ft 1]),
  (13, [o_il 1, o_I (-1), o_ic 1 2, o_al 0, o_I 45, o_call 11, o_goto 3]),
  (27, [o_al 0, o_il 1, o_call 26, o_ft 3]),
  (32, [o_il 2, o_I 1, o_ic 5 4, o_al 0, o_I 42, o_call 11, o_al 0, o_il 2, o_call 26, o_ft 4]),
  (48, [o_ret 0])]
/-- CartoonHouse$Layer.beatOf(I)I -/
def p_66 : ABl := [(0, [o_al 0, o_getI 5 6, o_if 5 1, o_il 1, o_al 0, o_getI 5 6, o_bin 9, o_goto 2]),
  (16, [o_I 0, o_ft 2]),
  (17, [o_ret 1])]
/-- CartoonHouse$Layer.wiggleOf(IIII)I -/
def p_67 : ABl := [(0, [o_I 2, o_al 0, o_getI 5 7, o_bin 2, o_I 1, o_bin 0, o_is 5, o_il 5, o_if 5 1, o_al 0, o_getI 5 5, o_il 1, o_il 2, o_il 3, o_il 4, o_call 199, o_I 8, o_bin 8, o_il 5, o_bin 10, o_al 0, o_getI 5 7, o_bin 1, o_goto 2]),
  (41, [o_I 0, o_ft 2]),
  (42, [o_ret 1])]
/-- CartoonHouse$Lips.<init>()V -/
def p_68 : ABl := [(0, [o_al 0, o_obj, o_al 0, o_I 26, o_newa 20, o_putR 6 0, o_al 0, o_I 26, o_newa 20, o_putR 6 1, o_al 0, o_I 120, o_newa 20, o_putR 6 2, o_al 0, o_I 120, o_newa 20, o_putR 6 3, o_al 0, o_I 120, o_newa 20, o_putR 6 5, o_al 0, o_I 120, o_newa 20, o_putR 6 6, o_ret 0])]
/-- CartoonHouse$Lips.readLanguage(LCartoonHouse$Bytes;)I -/
def p_69 : ABl := [(0, [o_al 1, o_call 13, o_al 0, o_getR 6 0, o_I 0, o_al 0, o_getR 6 1, o_I 0, o_I 26, o_cp, o_I 0, o_is 2, o_I 1, o_is 3, o_I 0, o_is 4, o_ft 1]),
  (26, [o_il 3, o_if 0 2, o_il 4, o_I 1600, o_ic 3 2, o_al 0, o_al 1, o_call 70, o_iinc 2 1, o_al 1, o_call 20, o_is 3, o_iinc 4 1, o_goto 1]),
  (57, [o_al 1, o_call 16, o_if 1 3, o_al 1, o_call 24, o_ret 1]),
  (69, [o_al 0, o_getR 6 1, o_I 0, o_al 0, o_getR 6 0, o_I 0, o_I 26, o_cp, o_il 2, o_ret 1])]
/-- CartoonHouse$Lips.readGroup(LCartoonHouse$Bytes;)V -/
def p_70 : ABl := [(0, [o_al 1, o_getI 1 2, o_is 2, o_I 0, o_is 3, o_ft 1]),
  (7, [o_il 3, o_I 1600, o_ic 3 2, o_al 1, o_I 97, o_I 122, o_call 17, o_if 0 2, o_al 1, o_dup, o_getI 1 2, o_I 1, o_bin 0, o_putI 1 2, o_iinc 3 1, o_goto 1]),
  (41, [o_al 1, o_getI 1 2, o_is 3, o_il 3, o_il 2, o_ic 1 3, o_al 1, o_il 2, o_call 18, o_ft 3]),
  (56, [o_al 1, o_I 61, o_call 22, o_al 1, o_call 19, o_I 48, o_bin 1, o_is 4, o_al 1, o_I 48, o_I 55, o_call 17, o_if 1 4, o_al 1, o_al 1, o_getI 1 2, o_call 18, o_ft 4]),
  (90, [o_il 2, o_is 5, o_ft 5]),
  (93, [o_il 5, o_il 3, o_ic 3 6, o_al 1, o_call 16, o_if 0 6, o_al 0, o_getR 6 1, o_al 1, o_il 5, o_call 12, o_I 97, o_bin 1, o_il 4, o_iast, o_iinc 5 1, o_goto 5]),
  (128, [o_al 1, o_dup, o_getI 1 2, o_I 1, o_bin 0, o_putI 1 2, o_ret 0])]
/-- CartoonHouse$Lips.readSpeech(LCartoonHouse$Bytes;)I -/
def p_71 : ABl := [(0, [o_al 1, o_call 13, o_I 0, o_is 2, o_I 0, o_is 3, o_I 1, o_is 4, o_I 0, o_is 5, o_ft 1]),
  (14, [o_il 4, o_if 0 4, o_il 5, o_I 121, o_ic 3 4, o_al 1, o_getI 1 2, o_is 6, o_al 0, o_al 1, o_call 72, o_is 7, o_al 1, o_I 1, o_I 99, o_call 14, o_is 8, o_il 3, o_il 8, o_bin 0, o_is 3, o_il 3, o_I 120, o_ic 5 2, o_al 1, o_il 6, o_call 18, o_ft 2]),
  (65, [o_al 1, o_call 16, o_if 0 3, o_al 0, o_getR 6 5, o_il 2, o_il 7, o_iast, o_al 0, o_getR 6 6, o_il 2, o_il 8, o_iast, o_iinc 2 1, o_ft 3]),
  (91, [o_al 1, o_call 20, o_is 4, o_iinc 5 1, o_goto 1]),
  (103, [o_al 1, o_call 16, o_if 1 5, o_al 1, o_call 24, o_ret 1]),
  (115, [o_al 0, o_getR 6 5, o_I 0, o_al 0, o_getR 6 2, o_I 0, o_il 2, o_cp, o_al 0, o_getR 6 6, o_I 0, o_al 0, o_getR 6 3, o_I 0, o_il 2, o_cp, o_al 0, o_il 2, o_putI 6 4, o_al 0, o_call 73, o_al 0, o_getI 6 4, o_ret 1])]
/-- CartoonHouse$Lips.readSound(LCartoonHouse$Bytes;)I -/
def p_72 : ABl := [(0, [o_al 1, o_I 46, o_call 23, o_if 0 1, o_I 0, o_ret 1]),
  (11, [o_al 1, o_call 16, o_if 0 2, o_al 1, o_I 97, o_I 122, o_call 17, o_if 1 3, o_ft 2]),
  (29, [o_al 1, o_al 1, o_getI 1 2, o_call 18, o_I 0, o_ret 1]),
  (39, [o_al 0, o_getR 6 0, o_al 1, o_call 19, o_I 97, o_bin 1, o_iald, o_is 2, o_al 1, o_dup, o_getI 1 2, o_I 1, o_bin 0, o_putI 1 2, o_il 2, o_ret 1])]
/-- CartoonHouse$Lips.smooth()V -/
def p_73 : ABl := [(0, [o_al 0, o_call 74, o_I 0, o_is 1, o_ft 1]),
  (6, [o_il 1, o_I 120, o_ic 3 5, o_al 0, o_getI 6 4, o_I 2, o_ic 2 5, o_al 0, o_call 76, o_is 2, o_il 2, o_I (-1), o_ic 1 2, o_goto 5]),
  (33, [o_al 0, o_getR 6 3, o_il 2, o_I 1, o_bin 0, o_al 0, o_getI 6 4, o_ic 3 3, o_il 2, o_I 1, o_bin 0, o_goto 4]),
  (53, [o_il 2, o_I 1, o_bin 1, o_ft 4]),
  (56, [o_dup2, o_iald, o_I 1, o_bin 0, o_iast, o_al 0, o_il 2, o_call 75, o_al 0, o_call 74, o_iinc 1 1, o_goto 1]),
  (76, [o_ret 0])]
/-- CartoonHouse$Lips.joinAlike()V -/
def p_74 : ABl := [(0, [o_al 0, o_getI 6 4, o_I 1, o_bin 1, o_is 1, o_ft 1]),
  (7, [o_il 1, o_if 5 3, o_al 0, o_getR 6 2, o_il 1, o_iald, o_al 0, o_getR 6 2, o_il 1, o_I 1, o_bin 1, o_iald, o_ic 1 2, o_al 0, o_getR 6 3, o_il 1, o_I 1, o_bin 1, o_dup2, o_iald, o_al 0, o_getR 6 3, o_il 1, o_iald, o_bin 0, o_iast, o_al 0, o_il 1, o_call 75, o_ft 2]),
  (50, [o_iinc 1 (-1), o_goto 1]),
  (56, [o_ret 0])]
/-- CartoonHouse$Lips.drop(I)V -/
def p_75 : ABl := [(0, [o_al 0, o_getR 6 2, o_il 1, o_I 1, o_bin 0, o_al 0, o_getR 6 2, o_il 1, o_al 0, o_getI 6 4, o_il 1, o_bin 1, o_I 1, o_bin 1, o_cp, o_al 0, o_getR 6 3, o_il 1, o_I 1, o_bin 0, o_al 0, o_getR 6 3, o_il 1, o_al 0, o_getI 6 4, o_il 1, o_bin 1, o_I 1, o_bin 1, o_cp, o_al 0, o_dup, o_getI 6 4, o_I 1, o_bin 1, o_putI 6 4, o_ret 0])]
/-- CartoonHouse$Lips.firstSingle()I -/
def p_76 : ABl := [(0, [o_I 0, o_is 1, o_ft 1]),
  (2, [o_il 1, o_al 0, o_getI 6 4, o_ic 3 3, o_al 0, o_getR 6 3, o_il 1, o_iald, o_I 1, o_ic 1 2, o_il 1, o_ret 1]),
  (22, [o_iinc 1 1, o_goto 1]),
  (28, [o_I (-1), o_ret 1])]
/-- CartoonHouse$Lips.tellMouth(II)I -/
def p_77 : ABl := [(0, [o_il 1, o_if 2 1, o_il 1, o_al 0, o_getI 6 4, o_ic 2 2, o_ft 1]),
  (12, [o_I (-1), o_ret 1]),
  (14, [o_il 2, o_sw 0 6 [3, 4, 5]]),
  (40, [o_al 0, o_getR 6 2, o_il 1, o_iald, o_ret 1]),
  (47, [o_al 0, o_il 1, o_call 78, o_ret 1]),
  (53, [o_al 0, o_getR 6 3, o_il 1, o_iald, o_ret 1]),
  (60, [o_I (-1), o_ret 1])]
/-- CartoonHouse$Lips.firstFrame(I)I -/
def p_78 : ABl := [(0, [o_I 0, o_is 2, o_I 0, o_is 3, o_ft 1]),
  (4, [o_il 3, o_il 1, o_ic 3 2, o_il 2, o_al 0, o_getR 6 3, o_il 3, o_iald, o_bin 0, o_is 2, o_iinc 3 1, o_goto 1]),
  (24, [o_il 2, o_ret 1])]
/-- CartoonHouse$Matching.<init>()V -/
def p_79 : ABl := [(0, [o_al 0, o_obj, o_al 0, o_I 4, o_newa 20, o_putR 7 0, o_al 0, o_I 4, o_newa 20, o_putR 7 1, o_al 0, o_I 72, o_newa 20, o_putR 7 3, o_al 0, o_I 2304, o_newa 20, o_putR 7 4, o_al 0, o_I 8, o_newa 20, o_putR 7 5, o_al 0, o_I 8, o_newa 20, o_putR 7 6, o_ret 0])]
/-- CartoonHouse$Matching.addMark(II)I -/
def p_80 : ABl := [(0, [o_I 0, o_is 3, o_ft 1]),
  (2, [o_il 3, o_al 0, o_getI 7 2, o_ic 3 4, o_al 0, o_getR 7 0, o_il 3, o_iald, o_il 1, o_ic 0 2, o_al 0, o_getR 7 1, o_il 3, o_iald, o_il 2, o_ic 1 3, o_ft 2]),
  (30, [o_I (-3), o_ret 1]),
  (33, [o_iinc 3 1, o_goto 1]),
  (39, [o_al 0, o_getI 7 2, o_I 4, o_ic 2 5, o_I (-4), o_ret 1]),
  (50, [o_al 0, o_getR 7 0, o_al 0, o_getI 7 2, o_il 1, o_iast, o_al 0, o_getR 7 1, o_al 0, o_getI 7 2, o_il 2, o_iast, o_al 0, o_dup, o_getI 7 2, o_I 1, o_bin 0, o_putI 7 2, o_al 0, o_getI 7 2, o_ret 1])]
/-- CartoonHouse$Matching.findBest(LCartoonHouse$Drawing;LCartoonHouse$Drawing;)I -/
def p_81 : ABl := [(0, [o_al 0, o_al 1, o_getI 3 1, o_putI 7 8, o_al 0, o_al 2, o_getI 3 1, o_putI 7 9, o_I 0, o_is 3, o_ft 1]),
  (18, [o_il 3, o_al 0, o_getI 7 8, o_ic 3 4, o_I 0, o_is 4, o_ft 2]),
  (29, [o_il 4, o_al 0, o_getI 7 9, o_ic 3 3, o_al 0, o_getR 7 3, o_il 3, o_il 4, o_call 82, o_al 1, o_getR 3 0, o_il 3, o_aald, o_al 2, o_getR 3 0, o_il 4, o_aald, o_call 127, o_iast, o_iinc 4 1, o_goto 2]),
  (71, [o_al 0, o_getR 7 3, o_il 3, o_I 8, o_call 82, o_I 400, o_iast, o_iinc 3 1, o_goto 1]),
  (91, [o_I 0, o_is 3, o_ft 5]),
  (93, [o_il 3, o_al 0, o_getI 7 2, o_ic 3 7, o_al 0, o_getR 7 0, o_il 3, o_iald, o_al 0, o_getI 7 8, o_ic 3 6, o_al 0, o_getR 7 1, o_il 3, o_iald, o_al 0, o_getI 7 9, o_ic 3 6, o_al 0, o_al 0, o_getR 7 0, o_il 3, o_iald, o_al 0, o_getR 7 1, o_il 3, o_iald, o_call 83, o_ft 6]),
  (143, [o_iinc 3 1, o_goto 5]),
  (149, [o_al 0, o_call 84, o_al 0, o_call 86, o_al 0, o_getR 7 4, o_I 0, o_iald, o_ret 1])]
/-- CartoonHouse$Matching.place(II)I -/
def p_82 : ABl := [(0, [o_il 0, o_I 9, o_bin 2, o_il 1, o_bin 0, o_ret 1])]
/-- CartoonHouse$Matching.forbidOthers(II)V -/
def p_83 : ABl := [(0, [o_I 0, o_is 3, o_ft 1]),
  (2, [o_il 3, o_I 8, o_ic 4 3, o_il 3, o_il 2, o_ic 0 2, o_al 0, o_getR 7 3, o_il 1, o_il 3, o_call 82, o_I 1000000, o_iast, o_ft 2]),
  (25, [o_iinc 3 1, o_goto 1]),
  (31, [o_ret 0])]
/-- CartoonHouse$Matching.fillTable()V -/
def p_84 : ABl := [(0, [o_I 1, o_al 0, o_getI 7 9, o_bin 6, o_is 1, o_I 0, o_is 2, o_ft 1]),
  (9, [o_il 2, o_il 1, o_ic 3 2, o_al 0, o_getR 7 4, o_al 0, o_getI 7 8, o_I 256, o_bin 2, o_il 2, o_bin 0, o_I 400, o_al 0, o_getI 7 9, o_il 2, o_call 345, o_bin 1, o_bin 2, o_iast, o_iinc 2 1, o_goto 1]),
  (48, [o_al 0, o_getI 7 8, o_I 1, o_bin 1, o_is 2, o_ft 3]),
  (55, [o_il 2, o_if 2 9, o_I 0, o_is 3, o_ft 4]),
  (61, [o_il 3, o_il 1, o_ic 3 8, o_al 0, o_il 2, o_I 8, o_il 3, o_call 85, o_is 4, o_I 0, o_is 5, o_ft 5]),
  (79, [o_il 5, o_al 0, o_getI 7 9, o_ic 3 7, o_il 3, o_il 5, o_bin 7, o_I 1, o_bin 3, o_if 1 6, o_il 4, o_al 0, o_il 2, o_il 5, o_il 3, o_call 85, o_call 349, o_is 4, o_ft 6]),
  (112, [o_iinc 5 1, o_goto 5]),
  (118, [o_al 0, o_getR 7 4, o_il 2, o_I 256, o_bin 2, o_il 3, o_bin 0, o_il 4, o_iast, o_iinc 3 1, o_goto 4]),
  (138, [o_iinc 2 (-1), o_goto 3]),
  (144, [o_ret 0])]
/-- CartoonHouse$Matching.sumWith(III)I -/
def p_85 : ABl := [(0, [o_il 2, o_I 8, o_ic 3 1, o_il 3, o_I 1, o_il 2, o_bin 6, o_bin 4, o_goto 2]),
  (14, [o_il 3, o_ft 2]),
  (15, [o_is 4, o_al 0, o_getR 7 3, o_il 1, o_il 2, o_call 82, o_iald, o_al 0, o_getR 7 4, o_il 1, o_I 1, o_bin 0, o_I 256, o_bin 2, o_il 4, o_bin 0, o_iald, o_bin 0, o_ret 1])]
/-- CartoonHouse$Matching.tracePartners()V -/
def p_86 : ABl := [(0, [o_I 0, o_is 1, o_I 0, o_is 2, o_ft 1]),
  (4, [o_il 2, o_al 0, o_getI 7 8, o_ic 3 6, o_I 8, o_is 3, o_al 0, o_getI 7 9, o_I 1, o_bin 1, o_is 4, o_ft 2]),
  (23, [o_il 4, o_if 2 4, o_il 1, o_il 4, o_bin 7, o_I 1, o_bin 3, o_if 1 3, o_al 0, o_il 2, o_il 4, o_il 1, o_call 85, o_al 0, o_getR 7 4, o_il 2, o_I 256, o_bin 2, o_il 1, o_bin 0, o_iald, o_ic 1 3, o_il 4, o_is 3, o_ft 3]),
  (63, [o_iinc 4 (-1), o_goto 2]),
  (69, [o_al 0, o_getR 7 5, o_il 2, o_il 3, o_iast, o_il 3, o_I 8, o_ic 3 5, o_il 1, o_I 1, o_il 3, o_bin 6, o_bin 4, o_is 1, o_ft 5]),
  (88, [o_iinc 2 1, o_goto 1]),
  (94, [o_ret 0])]
/-- CartoonHouse$Matching.remember()V -/
def p_87 : ABl := [(0, [o_al 0, o_getR 7 5, o_I 0, o_al 0, o_getR 7 6, o_I 0, o_I 8, o_cp, o_al 0, o_al 0, o_getI 7 8, o_putI 7 7, o_ret 0])]
/-- CartoonHouse$Matching.rememberedPartner(I)I -/
def p_88 : ABl := [(0, [o_il 1, o_if 2 1, o_il 1, o_al 0, o_getI 7 7, o_ic 3 1, o_al 0, o_getR 7 6, o_il 1, o_iald, o_I 8, o_ic 2 2, o_ft 1]),
  (23, [o_I (-1), o_ret 1]),
  (25, [o_al 0, o_getR 7 6, o_il 1, o_iald, o_ret 1])]
/-- CartoonHouse$Screen.<init>()V -/
def p_89 : ABl := [(0, [o_al 0, o_obj, o_al 0, o_I 10, o_anew 42, o_putR 8 0, o_al 0, o_I 11, o_I 5, o_mna, o_putR 8 1, o_al 0, o_I 10, o_I 1536, o_mna, o_putR 8 3, o_al 0, o_I 10, o_newa 22, o_putR 8 4, o_al 0, o_I 48, o_newa 20, o_putR 8 5, o_al 0, o_I 32, o_newa 20, o_putR 8 6, o_al 0, o_I 1536, o_newa 20, o_putR 8 7, o_al 0, o_I 1536, o_newa 20, o_putR 8 8, o_al 0, o_I 8, o_I 1536, o_mna, o_putR 8 9, o_I 0, o_is 1, o_ft 1]),
  (94, [o_il 1, o_I 10, o_ic 3 2, o_al 0, o_getR 8 0, o_il 1, o_cR 4, o_aast, o_iinc 1 1, o_goto 1]),
  (115, [o_ret 0])]
/-- CartoonHouse$Screen.readNode(LCartoonHouse$Bytes;)I -/
def p_90 : ABl := [(0, [o_al 1, o_call 13, o_al 1, o_call 91, o_as 2, o_al 0, o_getR 8 1, o_al 0, o_getI 8 2, o_aald, o_as 3, o_I 0, o_is 4, o_ft 1]),
  (22, [o_il 4, o_al 2, o_getR 12 1, o_call 339, o_ic 3 4, o_al 1, o_I 32, o_call 22, o_al 3, o_il 4, o_al 0, o_al 1, o_al 2, o_getR 12 1, o_il 4, o_call 341, o_il 4, o_if 5 2, o_al 3, o_il 4, o_I 1, o_bin 1, o_iald, o_goto 3]),
  (68, [o_I 0, o_ft 3]),
  (69, [o_call 92, o_iast, o_iinc 4 1, o_goto 1]),
  (79, [o_al 1, o_call 21, o_if 0 5, o_al 1, o_al 1, o_getI 1 2, o_call 18, o_ft 5]),
  (94, [o_al 1, o_call 16, o_if 1 6, o_al 1, o_call 24, o_ret 1]),
  (106, [o_al 0, o_getI 8 2, o_I 10, o_ic 2 7, o_I (-4), o_ret 1]),
  (118, [o_al 0, o_getR 8 0, o_al 0, o_getI 8 2, o_al 2, o_aast, o_al 0, o_dup, o_getI 8 2, o_I 1, o_bin 0, o_putI 8 2, o_al 0, o_getI 8 2, o_I 1, o_bin 1, o_ret 1])]
/-- CartoonHouse$Screen.readKind(LCartoonHouse$Bytes;)LCartoonHouse$Kind; -/
def p_91 : ABl := [(0, [o_al 0, o_getI 1 2, o_is 1, o_I 0, o_is 2, o_ft 1]),
  (7, [o_il 2, o_I 1600, o_ic 3 3, o_al 0, o_I 97, o_I 122, o_call 17, o_if 1 2, o_al 0, o_I 48, o_I 57, o_call 17, o_if 1 2, o_goto 3]),
  (39, [o_al 0, o_dup, o_getI 1 2, o_I 1, o_bin 0, o_putI 1 2, o_iinc 2 1, o_goto 1]),
  (55, [o_I 0, o_is 2, o_ft 4]),
  (57, [o_il 2, o_cR 3, o_alen, o_ic 3 6, o_cR 3, o_il 2, o_aald, o_al 0, o_il 1, o_al 0, o_getI 1 2, o_call 338, o_if 0 5, o_cR 3, o_il 2, o_aald, o_ret 3]),
  (88, [o_iinc 2 1, o_goto 4]),
  (94, [o_al 0, o_il 1, o_call 18, o_cR 4, o_ret 3])]
/-- CartoonHouse$Screen.readThing(LCartoonHouse$Bytes;II)I -/
def p_92 : ABl := [(0, [o_il 2, o_sw 102 10 [4, 5, 6, 10, 10, 9, 2, 10, 1, 10, 10, 10, 10, 3, 10, 10, 10, 10, 7, 8]]),
  (96, [o_al 1, o_I 0, o_al 0, o_getI 8 2, o_I 1, o_bin 1, o_call 14, o_ret 1]),
  (108, [o_al 1, o_I 0, o_I 3, o_call 14, o_ret 1]),
  (115, [o_al 1, o_I (-60), o_I 60, o_call 27, o_ret 1]),
  (124, [o_al 1, o_I 0, o_I 119, o_call 14, o_ret 1]),
  (132, [o_al 1, o_il 3, o_I 1, o_bin 0, o_I 119, o_call 14, o_ret 1]),
  (142, [o_al 1, o_I (-99999), o_I 99999, o_call 27, o_ret 1]),
  (151, [o_al 1, o_I 0, o_I 47, o_call 14, o_ret 1]),
  (159, [o_al 1, o_I 0, o_I 31, o_call 14, o_ret 1]),
  (167, [o_al 1, o_I 1, o_I 20, o_call 14, o_ret 1]),
  (175, [o_al 1, o_I 0, o_I 16777215, o_call 14, o_ret 1])]
/-- CartoonHouse$Screen.findNeeded(I)V -/
def p_93 : ABl := [(0, [o_I 0, o_is 2, o_ft 1]),
  (2, [o_il 2, o_I 10, o_ic 3 4, o_al 0, o_getR 8 4, o_il 2, o_il 2, o_il 1, o_ic 1 2, o_I 1, o_goto 3]),
  (22, [o_I 0, o_ft 3]),
  (23, [o_bast, o_iinc 2 1, o_goto 1]),
  (30, [o_il 1, o_is 2, o_ft 5]),
  (32, [o_il 2, o_if 2 8, o_I 0, o_is 3, o_ft 6]),
  (38, [o_il 3, o_al 0, o_getR 8 0, o_il 2, o_aald, o_getI 12 2, o_ic 3 7, o_al 0, o_getR 8 4, o_il 2, o_bald, o_if 0 7, o_al 0, o_getR 8 4, o_al 0, o_getR 8 1, o_il 2, o_aald, o_il 3, o_iald, o_I 1, o_bast, o_iinc 3 1, o_goto 6]),
  (80, [o_iinc 2 (-1), o_goto 5]),
  (86, [o_ret 0])]
/-- CartoonHouse$Screen.project(I[I[I)V -/
def p_94 : ABl := [(0, [o_al 0, o_getR 8 3, o_il 1, o_aald, o_as 4, o_I 0, o_is 5, o_ft 1]),
  (11, [o_il 5, o_I 32, o_ic 3 7, o_I 0, o_is 6, o_ft 2]),
  (21, [o_il 6, o_I 48, o_ic 3 6, o_al 0, o_getR 8 5, o_il 6, o_iald, o_al 0, o_getR 8 6, o_il 5, o_iald, o_call 145, o_if 0 5, o_al 2, o_al 0, o_getR 8 5, o_il 6, o_iald, o_al 0, o_getR 8 6, o_il 5, o_iald, o_call 151, o_iald, o_is 7, o_al 4, o_il 6, o_il 5, o_call 151, o_il 7, o_if 1 3, o_I (-1), o_goto 4]),
  (87, [o_al 3, o_il 7, o_iald, o_ft 4]),
  (91, [o_iast, o_ft 5]),
  (92, [o_iinc 6 1, o_goto 2]),
  (98, [o_iinc 5 1, o_goto 1]),
  (104, [o_ret 0])]
/-- CartoonHouse$Screen.drawNode(II)V -/
def p_95 : ABl := [(0, [o_al 0, o_getR 8 3, o_il 1, o_aald, o_as 3, o_al 0, o_il 1, o_I 0, o_call 96, o_as 4, o_al 0, o_il 1, o_I 1, o_call 96, o_as 5, o_cR 2, o_al 0, o_getR 8 0, o_il 1, o_aald, o_call 344, o_iald, o_sw 1 8 [1, 2, 3, 4, 5, 6, 7]]),
  (80, [o_al 3, o_al 0, o_getR 8 1, o_il 1, o_aald, o_I 0, o_iald, o_call 356, o_goto 9]),
  (95, [o_al 3, o_al 4, o_al 5, o_call 97, o_goto 9]),
  (106, [o_al 3, o_al 4, o_al 0, o_getR 8 1, o_il 1, o_aald, o_I 1, o_iald, o_al 0, o_getR 8 1, o_il 1, o_aald, o_I 2, o_iald, o_call 98, o_goto 9]),
  (131, [o_al 3, o_al 4, o_al 5, o_call 99, o_goto 9]),
  (142, [o_al 3, o_al 4, o_al 5, o_il 2, o_al 0, o_getR 8 1, o_il 1, o_aald, o_I 2, o_iald, o_bin 1, o_al 0, o_getR 8 1, o_il 1, o_aald, o_I 3, o_iald, o_al 0, o_getR 8 1, o_il 1, o_aald, o_I 2, o_iald, o_bin 1, o_call 100, o_goto 9]),
  (180, [o_al 3, o_al 4, o_call 102, o_goto 9]),
  (189, [o_al 3, o_al 0, o_getR 8 1, o_il 1, o_aald, o_il 2, o_call 104, o_goto 9]),
  (203, [o_al 3, o_I (-1), o_call 356, o_ft 9]),
  (208, [o_ret 0])]
/-- CartoonHouse$Screen.pictureTold(II)[I -/
def p_96 : ABl := [(0, [o_al 0, o_getR 8 3, o_il 2, o_al 0, o_getR 8 0, o_il 1, o_aald, o_getI 12 2, o_ic 3 1, o_al 0, o_getR 8 1, o_il 1, o_aald, o_il 2, o_iald, o_goto 2]),
  (28, [o_il 1, o_ft 2]),
  (29, [o_aald, o_ret 3])]
/-- CartoonHouse$Screen.drawOver([I[I[I)V -/
def p_97 : ABl := [(0, [o_I 0, o_is 3, o_ft 1]),
  (2, [o_il 3, o_I 1536, o_ic 3 4, o_al 0, o_il 3, o_al 1, o_il 3, o_iald, o_I (-1), o_ic 1 2, o_al 2, o_il 3, o_iald, o_goto 3]),
  (24, [o_al 1, o_il 3, o_iald, o_ft 3]),
  (27, [o_iast, o_iinc 3 1, o_goto 1]),
  (34, [o_ret 0])]
/-- CartoonHouse$Screen.drawShift([I[III)V -/
def p_98 : ABl := [(0, [o_I 0, o_is 4, o_ft 1]),
  (3, [o_il 4, o_I 32, o_ic 3 6, o_I 0, o_is 5, o_ft 2]),
  (13, [o_il 5, o_I 48, o_ic 3 5, o_il 5, o_il 2, o_bin 1, o_il 4, o_il 3, o_bin 1, o_call 145, o_is 6, o_al 0, o_il 5, o_il 4, o_call 151, o_il 6, o_if 0 3, o_al 1, o_il 5, o_il 2, o_bin 1, o_il 4, o_il 3, o_bin 1, o_call 151, o_iald, o_goto 4]),
  (62, [o_I (-1), o_ft 4]),
  (63, [o_iast, o_iinc 5 1, o_goto 2]),
  (70, [o_iinc 4 1, o_goto 1]),
  (76, [o_ret 0])]
/-- CartoonHouse$Screen.drawMatte([I[I[I)V -/
def p_99 : ABl := [(0, [o_I 0, o_is 3, o_ft 1]),
  (2, [o_il 3, o_I 1536, o_ic 3 4, o_al 0, o_il 3, o_al 2, o_il 3, o_iald, o_I (-1), o_ic 1 2, o_I (-1), o_goto 3]),
  (22, [o_al 1, o_il 3, o_iald, o_ft 3]),
  (25, [o_iast, o_iinc 3 1, o_goto 1]),
  (32, [o_ret 0])]
/-- CartoonHouse$Screen.drawFade([I[I[III)V -/
def p_100 : ABl := [(0, [o_il 3, o_il 4, o_call 201, o_is 5, o_I 2, o_il 5, o_bin 2, o_il 4, o_ic 3 1, o_I 1, o_goto 2]),
  (21, [o_I 0, o_ft 2]),
  (22, [o_is 6, o_I 0, o_is 7, o_ft 3]),
  (27, [o_il 7, o_I 1536, o_ic 3 8, o_al 1, o_il 7, o_iald, o_I (-1), o_ic 0 4, o_al 2, o_il 7, o_iald, o_I (-1), o_ic 0 4, o_al 0, o_il 7, o_al 1, o_il 7, o_iald, o_al 2, o_il 7, o_iald, o_il 5, o_il 4, o_call 101, o_iast, o_goto 7]),
  (73, [o_al 0, o_il 7, o_il 6, o_if 0 5, o_al 1, o_il 7, o_iald, o_goto 6]),
  (88, [o_al 2, o_il 7, o_iald, o_ft 6]),
  (92, [o_iast, o_ft 7]),
  (93, [o_iinc 7 1, o_goto 3]),
  (99, [o_ret 0])]
/-- CartoonHouse$Screen.blend(IIII)I -/
def p_101 : ABl := [(0, [o_I 0, o_is 4, o_I 16, o_is 5, o_ft 1]),
  (7, [o_il 5, o_if 2 2, o_il 4, o_il 0, o_il 5, o_bin 7, o_I 255, o_bin 3, o_il 3, o_il 2, o_bin 1, o_bin 2, o_il 1, o_il 5, o_bin 7, o_I 255, o_bin 3, o_il 2, o_bin 2, o_bin 0, o_un 1, o_il 3, o_un 1, o_call 146, o_il 5, o_bin 6, o_bin 4, o_is 4, o_iinc 5 (-8), o_goto 1]),
  (55, [o_il 4, o_ret 1])]
/-- CartoonHouse$Screen.drawBlur([I[I)V -/
def p_102 : ABl := [(0, [o_I 0, o_is 2, o_ft 1]),
  (2, [o_il 2, o_I 32, o_ic 3 6, o_I 0, o_is 3, o_ft 2]),
  (10, [o_il 3, o_I 48, o_ic 3 5, o_il 3, o_il 2, o_call 151, o_is 4, o_al 0, o_il 4, o_al 1, o_il 4, o_iald, o_I (-1), o_ic 1 3, o_I (-1), o_goto 4]),
  (38, [o_al 1, o_il 3, o_il 2, o_call 103, o_ft 4]),
  (44, [o_iast, o_iinc 3 1, o_goto 2]),
  (51, [o_iinc 2 1, o_goto 1]),
  (57, [o_ret 0])]
/-- CartoonHouse$Screen.blurAt([III)I -/
def p_103 : ABl := [(0, [o_I 0, o_is 3, o_I 0, o_is 4, o_I 0, o_is 5, o_I 0, o_is 6, o_I 0, o_il 2, o_I 1, o_bin 1, o_call 347, o_is 7, o_ft 1]),
  (20, [o_il 7, o_I 31, o_il 2, o_I 1, o_bin 0, o_call 349, o_ic 4 5, o_I 0, o_il 1, o_I 1, o_bin 1, o_call 347, o_is 8, o_ft 2]),
  (42, [o_il 8, o_I 47, o_il 1, o_I 1, o_bin 0, o_call 349, o_ic 4 4, o_al 0, o_il 8, o_il 7, o_call 151, o_iald, o_is 9, o_il 9, o_I (-1), o_ic 0 3, o_iinc 3 1, o_il 4, o_il 9, o_I 16, o_bin 7, o_I 255, o_bin 3, o_bin 0, o_is 4, o_il 5, o_il 9, o_I 8, o_bin 7, o_I 255, o_bin 3, o_bin 0, o_is 5, o_il 6, o_il 9, o_I 255, o_bin 3, o_bin 0, o_is 6, o_ft 3]),
  (114, [o_iinc 8 1, o_goto 2]),
  (120, [o_iinc 7 1, o_goto 1]),
  (126, [o_il 4, o_un 1, o_il 3, o_un 1, o_call 146, o_I 16, o_bin 6, o_il 5, o_un 1, o_il 3, o_un 1, o_call 146, o_I 8, o_bin 6, o_bin 4, o_il 6, o_un 1, o_il 3, o_un 1, o_call 146, o_bin 4, o_ret 1])]
/-- CartoonHouse$Screen.drawSparks([I[II)V -/
def p_104 : ABl := [(0, [o_al 0, o_I (-1), o_call 356, o_I 0, o_is 3, o_ft 1]),
  (7, [o_il 3, o_al 1, o_I 3, o_iald, o_ic 3 3, o_il 2, o_il 3, o_bin 1, o_is 4, o_il 4, o_if 2 2, o_il 4, o_I 23, o_ic 4 2, o_al 1, o_I 0, o_iald, o_il 3, o_I 1, o_I 0, o_I 0, o_call 199, o_I 8, o_bin 8, o_I 17, o_bin 10, o_I 8, o_bin 1, o_is 5, o_al 1, o_I 0, o_iald, o_il 3, o_I 2, o_I 0, o_I 0, o_call 199, o_I 8, o_bin 8, o_I 33, o_bin 10, o_I 24, o_bin 1, o_is 6, o_al 1, o_I 1, o_iald, o_il 5, o_il 4, o_bin 2, o_I 4, o_call 350, o_bin 0, o_is 7, o_al 1, o_I 2, o_iald, o_il 6, o_il 4, o_bin 2, o_il 4, o_il 4, o_bin 2, o_bin 0, o_I 8, o_call 350, o_bin 0, o_is 8, o_il 7, o_il 8, o_call 145, o_if 0 2, o_al 0, o_il 7, o_il 8, o_call 151, o_al 1, o_I 4, o_iald, o_iast, o_ft 2]),
  (132, [o_iinc 3 1, o_goto 1]),
  (138, [o_ret 0])]
/-- CartoonHouse$Screen.beginFilm()V -/
def p_105 : ABl := [(0, [o_al 0, o_I 0, o_putI 8 10, o_al 0, o_getR 8 7, o_I (-1), o_call 356, o_ret 0])]
/-- CartoonHouse$Screen.addToFilm([ILCartoonHouse$Bytes;)V -/
def p_106 : ABl := [(0, [o_al 0, o_getI 8 10, o_I 8, o_ic 2 1, o_ret 0]),
  (10, [o_I 0, o_is 3, o_I 0, o_is 4, o_ft 2]),
  (15, [o_il 4, o_I 1536, o_ic 3 5, o_il 3, o_I 1536, o_ic 3 5, o_al 0, o_il 3, o_al 1, o_I 1, o_call 107, o_is 5, o_al 0, o_il 3, o_il 5, o_bin 0, o_al 1, o_I 0, o_call 107, o_is 6, o_al 2, o_il 5, o_call 11, o_al 2, o_il 6, o_call 11, o_il 3, o_il 5, o_bin 0, o_is 3, o_I 0, o_is 7, o_ft 3]),
  (71, [o_il 7, o_il 6, o_ic 3 4, o_al 2, o_al 1, o_il 3, o_iald, o_call 108, o_iinc 3 1, o_iinc 7 1, o_goto 3]),
  (94, [o_iinc 4 1, o_goto 2]),
  (100, [o_al 1, o_I 0, o_al 0, o_getR 8 7, o_I 0, o_I 1536, o_cp, o_al 1, o_I 0, o_al 0, o_getR 8 9, o_al 0, o_getI 8 10, o_aald, o_I 0, o_I 1536, o_cp, o_al 0, o_dup, o_getI 8 10, o_I 1, o_bin 0, o_putI 8 10, o_ret 0])]
/-- CartoonHouse$Screen.runFrom(I[IZ)I -/
def p_107 : ABl := [(0, [o_I 0, o_is 4, o_ft 1]),
  (3, [o_il 4, o_I 255, o_ic 3 4, o_il 1, o_il 4, o_bin 0, o_I 1536, o_ic 3 4, o_al 2, o_il 1, o_il 4, o_bin 0, o_iald, o_al 0, o_getR 8 7, o_il 1, o_il 4, o_bin 0, o_iald, o_ic 1 2, o_I 1, o_goto 3]),
  (43, [o_I 0, o_ft 3]),
  (44, [o_il 3, o_ic 1 4, o_iinc 4 1, o_goto 1]),
  (54, [o_il 4, o_ret 1])]
/-- CartoonHouse$Screen.putPixel(LCartoonHouse$Bytes;I)V -/
def p_108 : ABl := [(0, [o_il 1, o_I (-1), o_ic 1 1, o_al 0, o_I 0, o_call 11, o_goto 2]),
  (13, [o_al 0, o_I 1, o_call 11, o_al 0, o_il 1, o_I 16, o_bin 7, o_call 11, o_al 0, o_il 1, o_I 8, o_bin 7, o_call 11, o_al 0, o_il 1, o_call 11, o_ft 2]),
  (39, [o_ret 0])]
/-- CartoonHouse$Screen.flickers([I)I -/
def p_109 : ABl := [(0, [o_I 0, o_is 2, o_I 0, o_is 3, o_ft 1]),
  (4, [o_il 3, o_I 1536, o_ic 3 3, o_al 0, o_getR 8 8, o_il 3, o_iald, o_al 0, o_getR 8 7, o_il 3, o_iald, o_ic 0 2, o_al 0, o_getR 8 7, o_il 3, o_iald, o_al 1, o_il 3, o_iald, o_ic 1 2, o_iinc 2 1, o_ft 2]),
  (41, [o_iinc 3 1, o_goto 1]),
  (47, [o_il 2, o_ret 1])]
/-- CartoonHouse$Stroke.<init>()V -/
def p_110 : ABl := [(0, [o_al 0, o_obj, o_al 0, o_I 10, o_newa 20, o_putR 9 2, o_al 0, o_I 10, o_newa 20, o_putR 9 3, o_ret 0])]
/-- CartoonHouse$Stroke.readFrom(LCartoonHouse$Bytes;)V -/
def p_111 : ABl := [(0, [o_al 1, o_call 13, o_al 0, o_I 0, o_putI 9 1, o_al 0, o_al 1, o_I 1, o_I 15, o_call 14, o_putI 9 0, o_I 0, o_is 2, o_ft 1]),
  (22, [o_il 2, o_I 10, o_ic 4 2, o_al 1, o_call 20, o_if 0 2, o_al 0, o_al 1, o_call 112, o_iinc 2 1, o_goto 1]),
  (46, [o_al 0, o_getI 9 1, o_I 2, o_ic 3 3, o_al 1, o_al 1, o_getI 1 2, o_call 18, o_ft 3]),
  (62, [o_ret 0])]
/-- CartoonHouse$Stroke.readPoint(LCartoonHouse$Bytes;)V -/
def p_112 : ABl := [(0, [o_al 1, o_getI 1 2, o_is 2, o_al 0, o_getI 9 1, o_I 10, o_ic 2 1, o_al 1, o_il 2, o_call 18, o_ft 1]),
  (19, [o_al 1, o_I 0, o_I 47, o_call 14, o_is 3, o_al 1, o_I 44, o_call 22, o_al 1, o_I 0, o_I 31, o_call 14, o_is 4, o_al 0, o_il 3, o_il 4, o_call 113, o_if 0 2, o_al 1, o_il 2, o_call 18, o_ft 2]),
  (57, [o_al 0, o_il 3, o_il 4, o_call 114, o_ret 0])]
/-- CartoonHouse$Stroke.hasLast(II)Z -/
def p_113 : ABl := [(0, [o_al 0, o_getI 9 1, o_if 5 1, o_al 0, o_getR 9 2, o_al 0, o_getI 9 1, o_I 1, o_bin 1, o_iald, o_il 1, o_ic 1 1, o_al 0, o_getR 9 3, o_al 0, o_getI 9 1, o_I 1, o_bin 1, o_iald, o_il 2, o_ic 1 1, o_I 1, o_goto 2]),
  (41, [o_I 0, o_ft 2]),
  (42, [o_ret 1])]
/-- CartoonHouse$Stroke.addPoint(II)V -/
def p_114 : ABl := [(0, [o_al 0, o_getI 9 1, o_I 10, o_ic 3 1, o_al 0, o_getR 9 2, o_al 0, o_getI 9 1, o_il 1, o_iast, o_al 0, o_getR 9 3, o_al 0, o_getI 9 1, o_il 2, o_iast, o_al 0, o_dup, o_getI 9 1, o_I 1, o_bin 0, o_putI 9 1, o_ft 1]),
  (39, [o_ret 0])]
/-- CartoonHouse$Stroke.becomePart(LCartoonHouse$Stroke;II)V -/
def p_115 : ABl := [(0, [o_al 0, o_al 1, o_getI 9 0, o_putI 9 0, o_al 0, o_I 0, o_putI 9 1, o_il 2, o_is 4, o_ft 1]),
  (16, [o_il 4, o_il 3, o_ic 4 2, o_al 0, o_al 1, o_getR 9 2, o_il 4, o_iald, o_al 1, o_getR 9 3, o_il 4, o_iald, o_call 114, o_iinc 4 1, o_goto 1]),
  (46, [o_ret 0])]
/-- CartoonHouse$Stroke.writeTo(LCartoonHouse$Bytes;)V -/
def p_116 : ABl := [(0, [o_al 1, o_al 0, o_getI 9 0, o_call 26, o_I 0, o_is 2, o_ft 1]),
  (10, [o_il 2, o_al 0, o_getI 9 1, o_ic 3 2, o_al 1, o_I 32, o_call 11, o_al 1, o_al 0, o_getR 9 2, o_il 2, o_iald, o_call 26, o_al 1, o_I 44, o_call 11, o_al 1, o_al 0, o_getR 9 3, o_il 2, o_iald, o_call 26, o_iinc 2 1, o_goto 1]),
  (56, [o_al 1, o_I 10, o_call 11, o_ret 0])]
/-- CartoonHouse$Stroke.thinOut(I)V -/
def p_117 : ABl := [(0, [o_I 1, o_is 2, o_I 0, o_is 3, o_I 0, o_is 4, o_ft 1]),
  (7, [o_il 4, o_I 10, o_ic 3 2, o_il 3, o_al 0, o_getI 9 1, o_I 1, o_bin 1, o_ic 3 2, o_al 0, o_il 3, o_il 1, o_call 118, o_is 3, o_al 0, o_getR 9 2, o_il 2, o_al 0, o_getR 9 2, o_il 3, o_iald, o_iast, o_al 0, o_getR 9 3, o_il 2, o_al 0, o_getR 9 3, o_il 3, o_iald, o_iast, o_iinc 2 1, o_iinc 4 1, o_goto 1]),
  (64, [o_al 0, o_il 2, o_putI 9 1, o_ret 0])]
/-- CartoonHouse$Stroke.nextToStay(II)I -/
def p_118 : ABl := [(0, [o_al 0, o_getI 9 1, o_I 1, o_bin 1, o_is 3, o_ft 1]),
  (7, [o_il 3, o_il 1, o_I 1, o_bin 0, o_ic 5 3, o_al 0, o_il 1, o_il 3, o_call 119, o_if 1 2, o_al 0, o_il 1, o_il 3, o_il 2, o_call 120, o_if 0 2, o_il 3, o_ret 1]),
  (35, [o_iinc 3 (-1), o_goto 1]),
  (41, [o_il 1, o_I 1, o_bin 0, o_ret 1])]
/-- CartoonHouse$Stroke.areAlike(II)Z -/
def p_119 : ABl := [(0, [o_al 0, o_getR 9 2, o_il 1, o_iald, o_al 0, o_getR 9 2, o_il 2, o_iald, o_ic 1 1, o_al 0, o_getR 9 3, o_il 1, o_iald, o_al 0, o_getR 9 3, o_il 2, o_iald, o_ic 1 1, o_I 1, o_goto 2]),
  (34, [o_I 0, o_ft 2]),
  (35, [o_ret 1])]
/-- CartoonHouse$Stroke.areClose(III)Z -/
def p_120 : ABl := [(0, [o_al 0, o_getR 9 2, o_il 2, o_iald, o_al 0, o_getR 9 2, o_il 1, o_iald, o_bin 1, o_is 4, o_al 0, o_getR 9 3, o_il 2, o_iald, o_al 0, o_getR 9 3, o_il 1, o_iald, o_bin 1, o_is 5, o_il 3, o_il 3, o_bin 2, o_il 4, o_il 4, o_bin 2, o_il 5, o_il 5, o_bin 2, o_bin 0, o_bin 2, o_is 6, o_il 1, o_I 1, o_bin 0, o_is 7, o_ft 1]),
  (52, [o_il 7, o_il 2, o_ic 3 3, o_il 4, o_al 0, o_getR 9 3, o_il 7, o_iald, o_al 0, o_getR 9 3, o_il 1, o_iald, o_bin 1, o_bin 2, o_il 5, o_al 0, o_getR 9 2, o_il 7, o_iald, o_al 0, o_getR 9 2, o_il 1, o_iald, o_bin 1, o_bin 2, o_bin 1, o_is 8, o_il 8, o_il 8, o_bin 2, o_il 6, o_ic 5 2, o_I 0, o_ret 1]),
  (107, [o_iinc 7 1, o_goto 1]),
  (113, [o_I 1, o_ret 1])]
/-- CartoonHouse$Stroke.isSegmentHit(IIII)Z -/
def p_121 : ABl := [(0, [o_al 0, o_getR 9 2, o_il 1, o_I 1, o_bin 0, o_iald, o_al 0, o_getR 9 2, o_il 1, o_iald, o_bin 1, o_is 5, o_al 0, o_getR 9 3, o_il 1, o_I 1, o_bin 0, o_iald, o_al 0, o_getR 9 3, o_il 1, o_iald, o_bin 1, o_is 6, o_il 5, o_call 346, o_il 6, o_call 346, o_call 347, o_is 7, o_I 0, o_is 8, o_ft 1]),
  (52, [o_il 8, o_il 7, o_ic 4 3, o_al 0, o_getR 9 2, o_il 1, o_iald, o_il 8, o_il 5, o_bin 2, o_un 1, o_il 7, o_un 1, o_call 146, o_bin 0, o_is 9, o_al 0, o_getR 9 3, o_il 1, o_iald, o_il 8, o_il 6, o_bin 2, o_un 1, o_il 7, o_un 1, o_call 146, o_bin 0, o_is 10, o_il 9, o_il 2, o_bin 1, o_call 346, o_il 4, o_ic 4 2, o_il 10, o_il 3, o_bin 1, o_call 346, o_il 4, o_ic 4 2, o_I 1, o_ret 1]),
  (127, [o_iinc 8 1, o_goto 1]),
  (133, [o_I 0, o_ret 1])]
/-- CartoonHouse$Stroke.meetings(LCartoonHouse$Stroke;)I -/
def p_122 : ABl := [(0, [o_I 0, o_is 2, o_I 0, o_is 3, o_ft 1]),
  (4, [o_il 3, o_al 0, o_getI 9 1, o_I 1, o_bin 1, o_ic 3 5, o_I 0, o_is 4, o_ft 2]),
  (17, [o_il 4, o_al 1, o_getI 9 1, o_I 1, o_bin 1, o_ic 3 4, o_al 0, o_il 3, o_al 1, o_il 4, o_call 123, o_if 0 3, o_iinc 2 1, o_ft 3]),
  (42, [o_iinc 4 1, o_goto 2]),
  (48, [o_iinc 3 1, o_goto 1]),
  (54, [o_il 2, o_ret 1])]
/-- CartoonHouse$Stroke.doMeet(ILCartoonHouse$Stroke;I)Z -/
def p_123 : ABl := [(0, [o_al 0, o_getR 9 2, o_il 1, o_iald, o_al 0, o_getR 9 2, o_il 1, o_I 1, o_bin 0, o_iald, o_al 2, o_getR 9 2, o_il 3, o_iald, o_al 2, o_getR 9 2, o_il 3, o_I 1, o_bin 0, o_iald, o_call 124, o_if 0 1, o_al 0, o_getR 9 3, o_il 1, o_iald, o_al 0, o_getR 9 3, o_il 1, o_I 1, o_bin 0, o_iald, o_al 2, o_getR 9 3, o_il 3, o_iald, o_al 2, o_getR 9 3, o_il 3, o_I 1, o_bin 0, o_iald, o_call 124, o_if 0 1, o_al 0, o_il 1, o_al 2, o_il 3, o_call 125, o_al 0, o_il 1, o_al 2, o_il 3, o_I 1, o_bin 0, o_call 125, o_bin 2, o_if 4 1, o_al 2, o_il 3, o_al 0, o_il 1, o_call 125, o_al 2, o_il 3, o_al 0, o_il 1, o_I 1, o_bin 0, o_call 125, o_bin 2, o_if 4 1, o_I 1, o_goto 2]),
  (112, [o_I 0, o_ft 2]),
  (113, [o_ret 1])]
/-- CartoonHouse$Stroke.doOverlap(IIII)Z -/
def p_124 : ABl := [(0, [o_il 0, o_il 1, o_call 349, o_il 2, o_il 3, o_call 349, o_call 347, o_il 0, o_il 1, o_call 347, o_il 2, o_il 3, o_call 347, o_call 349, o_ic 4 1, o_I 1, o_goto 2]),
  (33, [o_I 0, o_ft 2]),
  (34, [o_ret 1])]
/-- CartoonHouse$Stroke.sideOf(ILCartoonHouse$Stroke;I)I -/
def p_125 : ABl := [(0, [o_al 0, o_getR 9 2, o_il 1, o_I 1, o_bin 0, o_iald, o_al 0, o_getR 9 2, o_il 1, o_iald, o_bin 1, o_al 2, o_getR 9 3, o_il 3, o_iald, o_al 0, o_getR 9 3, o_il 1, o_iald, o_bin 1, o_bin 2, o_al 0, o_getR 9 3, o_il 1, o_I 1, o_bin 0, o_iald, o_al 0, o_getR 9 3, o_il 1, o_iald, o_bin 1, o_al 2, o_getR 9 2, o_il 3, o_iald, o_al 0, o_getR 9 2, o_il 1, o_iald, o_bin 1, o_bin 2, o_bin 1, o_ret 1])]
/-- CartoonHouse$Stroke.twiceTheArea()I -/
def p_126 : ABl := [(0, [o_I 0, o_is 1, o_I 0, o_is 2, o_ft 1]),
  (4, [o_il 2, o_al 0, o_getI 9 1, o_ic 3 4, o_il 2, o_I 1, o_bin 0, o_al 0, o_getI 9 1, o_ic 3 2, o_il 2, o_I 1, o_bin 0, o_goto 3]),
  (28, [o_I 0, o_ft 3]),
  (29, [o_is 3, o_il 1, o_al 0, o_getR 9 2, o_il 2, o_iald, o_al 0, o_getR 9 3, o_il 3, o_iald, o_bin 2, o_al 0, o_getR 9 2, o_il 3, o_iald, o_al 0, o_getR 9 3, o_il 2, o_iald, o_bin 2, o_bin 1, o_bin 0, o_is 1, o_iinc 2 1, o_goto 1]),
  (66, [o_il 1, o_ret 1])]
/-- CartoonHouse$Stroke.costWith(LCartoonHouse$Stroke;)I -/
def p_127 : ABl := [(0, [o_al 0, o_I 0, o_al 1, o_I 0, o_call 128, o_al 0, o_al 0, o_getI 9 1, o_I 1, o_bin 1, o_al 1, o_al 1, o_getI 9 1, o_I 1, o_bin 1, o_call 128, o_bin 0, o_is 2, o_al 0, o_getI 9 0, o_al 1, o_getI 9 0, o_ic 1 1, o_il 2, o_goto 2]),
  (41, [o_il 2, o_I 100, o_bin 0, o_ft 2]),
  (45, [o_ret 1])]
/-- CartoonHouse$Stroke.distance(ILCartoonHouse$Stroke;I)I -/
def p_128 : ABl := [(0, [o_il 1, o_if 2 1, o_il 3, o_if 3 2, o_ft 1]),
  (8, [o_I 0, o_ret 1]),
  (10, [o_al 0, o_getR 9 2, o_il 1, o_iald, o_al 2, o_getR 9 2, o_il 3, o_iald, o_bin 1, o_is 4, o_al 0, o_getR 9 3, o_il 1, o_iald, o_al 2, o_getR 9 3, o_il 3, o_iald, o_bin 1, o_is 5, o_il 4, o_il 4, o_bin 2, o_il 5, o_il 5, o_bin 2, o_bin 0, o_ret 1])]
/-- CartoonHouse$Stroke.becomeBetween(LCartoonHouse$Stroke;LCartoonHouse$Stroke;II)V -/
def p_129 : ABl := [(0, [o_al 0, o_I 2, o_il 3, o_bin 2, o_il 4, o_ic 3 1, o_al 1, o_getI 9 0, o_goto 2]),
  (16, [o_al 2, o_getI 9 0, o_ft 2]),
  (20, [o_putI 9 0, o_al 0, o_I 0, o_putI 9 1, o_al 1, o_getI 9 1, o_al 2, o_getI 9 1, o_call 347, o_I 1, o_bin 1, o_is 5, o_I 0, o_is 6, o_ft 3]),
  (46, [o_il 6, o_il 5, o_ic 4 5, o_al 1, o_getR 9 2, o_al 1, o_getI 9 1, o_il 6, o_il 5, o_call 130, o_un 1, o_lst 7, o_al 1, o_getR 9 3, o_al 1, o_getI 9 1, o_il 6, o_il 5, o_call 130, o_un 1, o_lst 9, o_al 2, o_getR 9 2, o_al 2, o_getI 9 1, o_il 6, o_il 5, o_call 130, o_un 1, o_lst 11, o_al 2, o_getR 9 3, o_al 2, o_getI 9 1, o_il 6, o_il 5, o_call 130, o_un 1, o_lst 13, o_ll 7, o_il 4, o_il 3, o_bin 1, o_un 1, o_binL 2, o_ll 11, o_il 3, o_un 1, o_binL 2, o_binL 0, o_il 5, o_un 1, o_il 4, o_un 1, o_binL 2, o_call 146, o_is 15, o_ll 9, o_il 4, o_il 3, o_bin 1, o_un 1, o_binL 2, o_ll 13, o_il 3, o_un 1, o_binL 2, o_binL 0, o_il 5, o_un 1, o_il 4, o_un 1, o_binL 2, o_call 146, o_is 16, o_al 0, o_il 15, o_il 16, o_call 113, o_if 1 4, o_al 0, o_il 15, o_il 16, o_call 114, o_ft 4]),
  (196, [o_iinc 6 1, o_goto 3]),
  (202, [o_ret 0])]
/-- CartoonHouse$Stroke.spread([IIII)I -/
def p_130 : ABl := [(0, [o_il 3, o_if 4 1, o_I 0, o_ret 1]),
  (6, [o_il 2, o_il 1, o_I 1, o_bin 1, o_bin 2, o_il 3, o_bin 9, o_is 4, o_il 2, o_il 1, o_I 1, o_bin 1, o_bin 2, o_il 3, o_bin 10, o_is 5, o_il 5, o_if 1 2, o_al 0, o_il 4, o_iald, o_il 3, o_bin 2, o_goto 3]),
  (38, [o_al 0, o_il 4, o_iald, o_il 3, o_bin 2, o_al 0, o_il 4, o_I 1, o_bin 0, o_iald, o_al 0, o_il 4, o_iald, o_bin 1, o_il 5, o_bin 2, o_bin 0, o_ft 3]),
  (59, [o_ret 1])]
/-- CartoonHouse$Stroke.becomeWiggled(LCartoonHouse$Stroke;ILCartoonHouse$Layer;I)V -/
def p_131 : ABl := [(0, [o_al 0, o_al 1, o_getI 9 0, o_putI 9 0, o_al 0, o_al 1, o_getI 9 1, o_putI 9 1, o_I 0, o_is 5, o_ft 1]),
  (19, [o_il 5, o_al 0, o_getI 9 1, o_ic 3 2, o_al 0, o_getR 9 2, o_il 5, o_al 1, o_getR 9 2, o_il 5, o_iald, o_al 3, o_il 4, o_il 2, o_il 5, o_I 0, o_call 67, o_bin 0, o_I 47, o_call 201, o_iast, o_al 0, o_getR 9 3, o_il 5, o_al 1, o_getR 9 3, o_il 5, o_iald, o_al 3, o_il 4, o_il 2, o_il 5, o_I 1, o_call 67, o_bin 0, o_I 31, o_call 201, o_iast, o_iinc 5 1, o_goto 1]),
  (94, [o_ret 0])]
/-- CartoonHouse.<init>()V -/
def p_132 : ABl := [(0, [o_al 0, o_obj, o_al 0, o_new 1, o_dup, o_I 1600, o_call 8, o_putR 10 0, o_al 0, o_new 1, o_dup, o_I 512, o_call 8, o_putR 10 1, o_al 0, o_I 16, o_anew 33, o_putR 10 2, o_al 0, o_new 3, o_dup, o_call 38, o_putR 10 3, o_al 0, o_new 2, o_dup, o_call 29, o_putR 10 4, o_al 0, o_I 4, o_I 16, o_mna, o_putR 10 5, o_al 0, o_I 4, o_anew 35, o_putR 10 6, o_al 0, o_new 7, o_dup, o_call 79, o_putR 10 7, o_al 0, o_I 10, o_anew 30, o_putR 10 8, o_al 0, o_new 0, o_dup, o_call 0, o_putR 10 9, o_al 0, o_I 24, o_putI 10 11, o_al 0, o_I 16, o_putI 10 12, o_al 0, o_new 6, o_dup, o_call 68, o_putR 10 13, o_al 0, o_I 3, o_anew 34, o_putR 10 14, o_al 0, o_new 8, o_dup, o_call 89, o_putR 10 15, o_al 0, o_I 4, o_I 100, o_mna, o_putR 10 16, o_al 0, o_I 3, o_newa 20, o_putR 10 17, o_al 0, o_I 3, o_newa 20, o_putR 10 18, o_I 0, o_is 1, o_ft 1]),
  (182, [o_il 1, o_I 16, o_ic 3 2, o_al 0, o_getR 10 2, o_il 1, o_new 3, o_dup, o_call 38, o_aast, o_iinc 1 1, o_goto 1]),
  (207, [o_I 0, o_is 1, o_ft 3]),
  (209, [o_il 1, o_I 4, o_ic 3 4, o_al 0, o_getR 10 6, o_il 1, o_new 5, o_dup, o_call 57, o_aast, o_iinc 1 1, o_goto 3]),
  (233, [o_I 0, o_is 1, o_ft 5]),
  (235, [o_il 1, o_I 10, o_ic 3 6, o_al 0, o_getR 10 8, o_il 1, o_new 0, o_dup, o_call 0, o_aast, o_iinc 1 1, o_goto 5]),
  (260, [o_I 0, o_is 1, o_ft 7]),
  (262, [o_il 1, o_al 0, o_getR 10 14, o_alen, o_ic 3 8, o_al 0, o_getR 10 14, o_il 1, o_new 4, o_dup, o_I 8, o_call 50, o_aast, o_iinc 1 1, o_goto 7]),
  (292, [o_I 0, o_is 1, o_ft 9]),
  (294, [o_il 1, o_I 4, o_ic 3 12, o_I 1, o_is 2, o_ft 10]),
  (301, [o_il 2, o_I 15, o_ic 4 11, o_al 0, o_getR 10 5, o_il 1, o_aald, o_il 2, o_il 2, o_I 1118481, o_bin 2, o_iast, o_iinc 2 1, o_goto 10]),
  (325, [o_iinc 1 1, o_goto 9]),
  (331, [o_ret 0])]
/-- CartoonHouse.feed(IIIII)I -/
def p_133 : ABl := [(0, [o_al 0, o_getR 10 0, o_I 20, o_call 9, o_if 1 1, o_I (-4), o_ret 1]),
  (15, [o_al 0, o_getR 10 0, o_il 1, o_call 10, o_al 0, o_getR 10 0, o_il 2, o_call 10, o_al 0, o_getR 10 0, o_il 3, o_call 10, o_al 0, o_getR 10 0, o_il 4, o_call 10, o_al 0, o_getR 10 0, o_il 5, o_call 10, o_al 0, o_getR 10 0, o_getI 1 1, o_ret 1])]
/-- CartoonHouse.end(I)I -/
def p_134 : ABl := [(0, [o_il 1, o_if 2 1, o_il 1, o_al 0, o_getR 10 0, o_getI 1 1, o_ic 5 2, o_ft 1]),
  (15, [o_I (-1), o_ret 1]),
  (17, [o_al 0, o_getR 10 0, o_il 1, o_putI 1 1, o_il 1, o_ret 1])]
/-- CartoonHouse.out(I)I -/
def p_135 : ABl := [(0, [o_al 0, o_getR 10 1, o_il 1, o_call 12, o_ret 1])]
/-- CartoonHouse.stroke(I)I -/
def p_136 : ABl := [(0, [o_il 1, o_call 137, o_if 0 1, o_al 0, o_al 0, o_getR 10 2, o_il 1, o_aald, o_call 139, o_goto 2]),
  (20, [o_I (-1), o_ft 2]),
  (21, [o_is 2, o_al 0, o_getR 10 0, o_call 25, o_il 2, o_ret 1])]
/-- CartoonHouse.isDrawing(I)Z -/
def p_137 : ABl := [(0, [o_il 0, o_I 0, o_I 15, o_call 138, o_ret 1])]
/-- CartoonHouse.isWithin(III)Z -/
def p_138 : ABl := [(0, [o_il 1, o_il 0, o_ic 4 1, o_il 0, o_il 2, o_ic 4 1, o_I 1, o_goto 2]),
  (14, [o_I 0, o_ft 2]),
  (15, [o_ret 1])]
/-- CartoonHouse.readStroke(LCartoonHouse$Drawing;)I -/
def p_139 : ABl := [(0, [o_al 0, o_getR 10 3, o_getR 3 0, o_I 0, o_aald, o_as 2, o_al 2, o_al 0, o_getR 10 0, o_call 111, o_al 0, o_getR 10 0, o_call 16, o_if 1 1, o_al 0, o_getR 10 0, o_call 24, o_ret 1]),
  (36, [o_al 1, o_getI 3 1, o_I 8, o_ic 2 2, o_I (-4), o_ret 1]),
  (48, [o_al 1, o_al 2, o_I 0, o_al 2, o_getI 9 1, o_I 1, o_bin 1, o_call 39, o_pop, o_al 1, o_getI 3 1, o_I 1, o_bin 1, o_ret 1])]
/-- CartoonHouse.take(II)I -/
def p_140 : ABl := [(0, [o_al 0, o_il 1, o_il 2, o_call 141, o_if 1 1, o_I (-1), o_ret 1]),
  (11, [o_al 0, o_getR 10 2, o_il 1, o_aald, o_il 2, o_call 40, o_al 0, o_getR 10 2, o_il 1, o_aald, o_getI 3 1, o_ret 1])]
/-- CartoonHouse.isStroke(II)Z -/
def p_141 : ABl := [(0, [o_il 1, o_call 137, o_if 0 1, o_il 2, o_I 0, o_al 0, o_getR 10 2, o_il 1, o_aald, o_getI 3 1, o_I 1, o_bin 1, o_call 138, o_if 0 1, o_I 1, o_goto 2]),
  (30, [o_I 0, o_ft 2]),
  (31, [o_ret 1])]
/-- CartoonHouse.written(I)I -/
def p_142 : ABl := [(0, [o_il 1, o_call 137, o_if 1 1, o_I (-1), o_ret 1]),
  (9, [o_al 0, o_getR 10 1, o_call 25, o_al 0, o_getR 10 2, o_il 1, o_aald, o_al 0, o_getR 10 1, o_call 41, o_al 0, o_getR 10 1, o_getI 1 1, o_ret 1])]
/-- CartoonHouse.fit(III)I -/
def p_143 : ABl := [(0, [o_al 0, o_il 1, o_il 2, o_call 141, o_if 0 1, o_il 3, o_I 0, o_I 20, o_call 138, o_if 1 2, o_ft 1]),
  (19, [o_I (-1), o_ret 1]),
  (21, [o_al 0, o_getR 10 2, o_il 1, o_aald, o_getR 3 0, o_il 2, o_aald, o_as 4, o_al 4, o_il 3, o_call 117, o_al 4, o_getI 9 1, o_ret 1])]
/-- CartoonHouse.erase(IIII)I -/
def p_144 : ABl := [(0, [o_il 1, o_call 137, o_if 0 1, o_il 2, o_il 3, o_call 145, o_if 0 1, o_il 4, o_I 0, o_I 10, o_call 138, o_if 1 2, o_ft 1]),
  (26, [o_I (-1), o_ret 1]),
  (28, [o_al 0, o_getR 10 3, o_al 0, o_getR 10 2, o_il 1, o_aald, o_il 2, o_il 3, o_il 4, o_call 42, o_is 5, o_il 5, o_if 2 3, o_al 0, o_getR 10 2, o_il 1, o_aald, o_al 0, o_getR 10 3, o_call 43, o_ft 3]),
  (65, [o_il 5, o_ret 1])]
/-- CartoonHouse.isOnPaper(II)Z -/
def p_145 : ABl := [(0, [o_I 0, o_il 0, o_ic 4 1, o_il 0, o_I 48, o_ic 3 1, o_I 0, o_il 1, o_ic 4 1, o_il 1, o_I 32, o_ic 3 1, o_I 1, o_goto 2]),
  (26, [o_I 0, o_ft 2]),
  (27, [o_ret 1])]
/-- CartoonHouse.round(JJ)I -/
def p_146 : ABl := [(0, [o_ll 2, o_L 0, o_binL 5, o_if 5 1, o_L 2, o_ll 0, o_binL 2, o_ll 2, o_binL 0, o_L 2, o_ll 2, o_binL 2, o_call 348, o_un 2, o_goto 2]),
  (25, [o_I 0, o_ft 2]),
  (26, [o_ret 1])]
/-- CartoonHouse.meets(III)I -/
def p_147 : ABl := [(0, [o_al 0, o_il 1, o_il 2, o_call 141, o_if 0 1, o_al 0, o_il 1, o_il 3, o_call 141, o_if 0 1, o_il 2, o_il 3, o_ic 1 2, o_ft 1]),
  (23, [o_I (-1), o_ret 1]),
  (25, [o_al 0, o_getR 10 2, o_il 1, o_aald, o_getR 3 0, o_il 2, o_aald, o_al 0, o_getR 10 2, o_il 1, o_aald, o_getR 3 0, o_il 3, o_aald, o_call 122, o_ret 1])]
/-- CartoonHouse.area(II)I -/
def p_148 : ABl := [(0, [o_al 0, o_il 1, o_il 2, o_call 141, o_if 1 1, o_I (-1000000), o_ret 1]),
  (12, [o_al 0, o_getR 10 2, o_il 1, o_aald, o_getR 3 0, o_il 2, o_aald, o_call 126, o_ret 1])]
/-- CartoonHouse.fill(IIIII)I -/
def p_149 : ABl := [(0, [o_il 1, o_call 137, o_if 0 1, o_il 2, o_il 3, o_call 145, o_if 0 1, o_il 4, o_I 0, o_I 8, o_call 138, o_if 0 1, o_il 5, o_call 150, o_if 1 2, o_ft 1]),
  (34, [o_I (-1), o_ret 1]),
  (36, [o_al 0, o_getR 10 2, o_il 1, o_aald, o_as 6, o_al 6, o_getI 3 5, o_I 6, o_ic 2 3, o_I (-4), o_ret 1]),
  (57, [o_al 0, o_getR 10 4, o_al 6, o_il 2, o_il 3, o_call 151, o_il 4, o_call 30, o_is 7, o_il 7, o_if 5 4, o_al 6, o_il 2, o_il 3, o_call 151, o_il 4, o_il 5, o_call 44, o_ft 4]),
  (94, [o_il 7, o_ret 1])]
/-- CartoonHouse.isColour(I)Z -/
def p_150 : ABl := [(0, [o_il 0, o_I 1, o_I 15, o_call 138, o_ret 1])]
/-- CartoonHouse.pixel(II)I -/
def p_151 : ABl := [(0, [o_il 1, o_I 48, o_bin 2, o_il 0, o_bin 0, o_ret 1])]
/-- CartoonHouse.unfill(II)I -/
def p_152 : ABl := [(0, [o_al 0, o_il 1, o_il 2, o_call 153, o_if 1 1, o_I (-1), o_ret 1]),
  (11, [o_al 0, o_getR 10 2, o_il 1, o_aald, o_il 2, o_call 45, o_al 0, o_getR 10 2, o_il 1, o_aald, o_getI 3 5, o_ret 1])]
/-- CartoonHouse.isFill(II)Z -/
def p_153 : ABl := [(0, [o_il 1, o_call 137, o_if 0 1, o_il 2, o_I 0, o_al 0, o_getR 10 2, o_il 1, o_aald, o_getI 3 5, o_I 1, o_bin 1, o_call 138, o_if 0 1, o_I 1, o_goto 2]),
  (30, [o_I 0, o_ft 2]),
  (31, [o_ret 1])]
/-- CartoonHouse.region(II)I -/
def p_154 : ABl := [(0, [o_al 0, o_il 1, o_il 2, o_call 153, o_if 1 1, o_I (-1), o_ret 1]),
  (11, [o_al 0, o_getR 10 2, o_il 1, o_aald, o_as 3, o_al 0, o_getR 10 4, o_al 3, o_al 3, o_getR 3 2, o_il 2, o_iald, o_al 3, o_getR 3 3, o_il 2, o_iald, o_call 30, o_ret 1])]
/-- CartoonHouse.paint(III)I -/
def p_155 : ABl := [(0, [o_il 1, o_call 137, o_if 0 1, o_il 2, o_il 3, o_call 145, o_if 1 2, o_ft 1]),
  (15, [o_I (-1), o_ret 1]),
  (17, [o_al 0, o_getR 10 4, o_al 0, o_getR 10 2, o_il 1, o_aald, o_call 37, o_al 0, o_getR 10 4, o_getR 2 1, o_il 2, o_il 3, o_call 151, o_iald, o_ret 1])]
/-- CartoonHouse.colour(III)I -/
def p_156 : ABl := [(0, [o_il 1, o_I 0, o_I 3, o_call 138, o_if 0 1, o_il 2, o_call 150, o_if 0 1, o_il 3, o_I 0, o_I 16777215, o_call 138, o_if 1 2, o_ft 1]),
  (26, [o_I (-1), o_ret 1]),
  (28, [o_al 0, o_getR 10 5, o_il 1, o_aald, o_il 2, o_iald, o_is 4, o_al 0, o_getR 10 5, o_il 1, o_aald, o_il 2, o_il 3, o_iast, o_il 4, o_ret 1])]
/-- CartoonHouse.sheet(I)I -/
def p_157 : ABl := [(0, [o_il 1, o_call 158, o_if 0 1, o_al 0, o_getR 10 6, o_il 1, o_aald, o_al 0, o_getR 10 0, o_call 58, o_goto 2]),
  (23, [o_I (-1), o_ft 2]),
  (24, [o_is 2, o_al 0, o_getR 10 0, o_call 25, o_il 2, o_ret 1])]
/-- CartoonHouse.isLayer(I)Z -/
def p_158 : ABl := [(0, [o_il 0, o_I 0, o_I 3, o_call 138, o_ret 1])]
/-- CartoonHouse.shown(II)I -/
def p_159 : ABl := [(0, [o_il 1, o_call 158, o_if 0 1, o_al 0, o_getR 10 6, o_il 1, o_aald, o_il 2, o_call 62, o_goto 2]),
  (20, [o_I (-1), o_ft 2]),
  (21, [o_ret 1])]
/-- CartoonHouse.stretch(III)I -/
def p_160 : ABl := [(0, [o_il 1, o_call 158, o_if 0 1, o_il 2, o_I 1, o_I 20, o_call 138, o_if 0 1, o_il 3, o_I 1, o_I 20, o_call 138, o_if 1 2, o_ft 1]),
  (27, [o_I (-1), o_ret 1]),
  (29, [o_al 0, o_getR 10 6, o_il 1, o_aald, o_il 2, o_il 3, o_call 63, o_ret 1])]
/-- CartoonHouse.told(I)I -/
def p_161 : ABl := [(0, [o_il 1, o_call 158, o_if 1 1, o_I (-1), o_ret 1]),
  (9, [o_al 0, o_getR 10 1, o_call 25, o_al 0, o_getR 10 6, o_il 1, o_aald, o_al 0, o_getR 10 1, o_call 64, o_al 0, o_getR 10 1, o_getI 1 1, o_ret 1])]
/-- CartoonHouse.mark(II)I -/
def p_162 : ABl := [(0, [o_il 1, o_I 0, o_I 7, o_call 138, o_if 0 1, o_il 2, o_I 0, o_I 7, o_call 138, o_if 1 2, o_ft 1]),
  (20, [o_I (-1), o_ret 1]),
  (22, [o_al 0, o_getR 10 7, o_il 1, o_il 2, o_call 80, o_ret 1])]
/-- CartoonHouse.unmark()I -/
def p_163 : ABl := [(0, [o_al 0, o_getR 10 7, o_getI 7 2, o_is 1, o_al 0, o_getR 10 7, o_I 0, o_putI 7 2, o_il 1, o_ret 1])]
/-- CartoonHouse.match(II)I -/
def p_164 : ABl := [(0, [o_il 1, o_call 137, o_if 0 1, o_il 2, o_call 137, o_if 1 2, o_ft 1]),
  (14, [o_I (-1), o_ret 1]),
  (16, [o_al 0, o_getR 10 7, o_al 0, o_getR 10 2, o_il 1, o_aald, o_al 0, o_getR 10 2, o_il 2, o_aald, o_call 81, o_is 3, o_al 0, o_getR 10 7, o_call 87, o_il 3, o_ret 1])]
/-- CartoonHouse.partner(I)I -/
def p_165 : ABl := [(0, [o_al 0, o_getR 10 7, o_il 1, o_call 88, o_ret 1])]
/-- CartoonHouse.tween(IIIII)I -/
def p_166 : ABl := [(0, [o_il 1, o_call 137, o_if 0 1, o_il 2, o_call 137, o_if 0 1, o_il 5, o_call 137, o_if 1 2, o_ft 1]),
  (22, [o_I (-1), o_ret 1]),
  (24, [o_il 4, o_I 1, o_I 24, o_call 138, o_if 0 3, o_il 3, o_I 0, o_il 4, o_call 138, o_if 0 3, o_il 5, o_il 1, o_ic 0 3, o_il 5, o_il 2, o_ic 1 4, o_ft 3]),
  (57, [o_I (-1), o_ret 1]),
  (59, [o_al 0, o_getR 10 2, o_il 5, o_aald, o_as 6, o_il 3, o_if 1 5, o_al 6, o_al 0, o_getR 10 2, o_il 1, o_aald, o_call 43, o_goto 7]),
  (86, [o_il 3, o_il 4, o_ic 1 6, o_al 6, o_al 0, o_getR 10 2, o_il 2, o_aald, o_call 43, o_goto 7]),
  (106, [o_al 0, o_getR 10 7, o_al 0, o_getR 10 2, o_il 1, o_aald, o_al 0, o_getR 10 2, o_il 2, o_aald, o_call 81, o_pop, o_al 6, o_al 0, o_getR 10 2, o_il 1, o_aald, o_al 0, o_getR 10 2, o_il 2, o_aald, o_al 0, o_getR 10 7, o_getR 7 5, o_il 3, o_il 4, o_call 46, o_ft 7]),
  (153, [o_al 6, o_al 0, o_getR 10 2, o_I 2, o_il 3, o_bin 2, o_il 4, o_ic 3 8, o_il 1, o_goto 9]),
  (171, [o_il 2, o_ft 9]),
  (172, [o_aald, o_call 48, o_al 6, o_getI 3 1, o_ret 1])]
/-- CartoonHouse.bone(IIII)I -/
def p_167 : ABl := [(0, [o_al 0, o_getI 10 10, o_if 1 2, o_il 1, o_I (-1), o_ic 1 1, o_I 1, o_goto 3]),
  (16, [o_I 0, o_goto 3]),
  (20, [o_al 0, o_il 1, o_call 168, o_ft 3]),
  (25, [o_is 5, o_il 5, o_if 0 4, o_il 2, o_I 0, o_I 40, o_call 138, o_if 0 4, o_il 4, o_I 0, o_I 31, o_call 138, o_if 0 4, o_il 3, o_I 0, o_il 4, o_call 138, o_if 1 5, o_ft 4]),
  (63, [o_I (-1), o_ret 1]),
  (65, [o_al 0, o_getI 10 10, o_I 10, o_ic 2 6, o_I (-4), o_ret 1]),
  (77, [o_al 0, o_getR 10 8, o_al 0, o_getI 10 10, o_aald, o_al 0, o_getI 10 10, o_if 1 7, o_al 0, o_getR 10 9, o_goto 8]),
  (100, [o_al 0, o_getR 10 8, o_il 1, o_aald, o_ft 8]),
  (106, [o_il 2, o_il 3, o_il 4, o_call 1, o_al 0, o_dup, o_getI 10 10, o_I 1, o_bin 0, o_putI 10 10, o_al 0, o_getI 10 10, o_I 1, o_bin 1, o_ret 1])]
/-- CartoonHouse.isBone(I)Z -/
def p_168 : ABl := [(0, [o_il 1, o_I 0, o_al 0, o_getI 10 10, o_I 1, o_bin 1, o_call 138, o_ret 1])]
/-- CartoonHouse.sine(I)I -/
def p_169 : ABl := [(0, [o_il 0, o_I 31, o_bin 3, o_is 1, o_il 1, o_I 15, o_bin 3, o_is 2, o_cR 1, o_il 2, o_I 8, o_ic 4 1, o_il 2, o_goto 2]),
  (23, [o_I 16, o_il 2, o_bin 1, o_ft 2]),
  (27, [o_iald, o_is 3, o_il 1, o_I 16, o_ic 3 3, o_il 3, o_goto 4]),
  (39, [o_il 3, o_un 0, o_ft 4]),
  (41, [o_ret 1])]
/-- CartoonHouse.pivot(II)I -/
def p_170 : ABl := [(0, [o_il 1, o_il 2, o_call 171, o_if 1 1, o_I (-1), o_ret 1]),
  (10, [o_al 0, o_il 1, o_putI 10 11, o_al 0, o_il 2, o_putI 10 12, o_I 1, o_ret 1])]
/-- CartoonHouse.isNear(II)Z -/
def p_171 : ABl := [(0, [o_il 0, o_I (-400), o_I 400, o_call 138, o_if 0 1, o_il 1, o_I (-400), o_I 400, o_call 138, o_if 0 1, o_I 1, o_goto 2]),
  (30, [o_I 0, o_ft 2]),
  (31, [o_ret 1])]
/-- CartoonHouse.key(III)I -/
def p_172 : ABl := [(0, [o_al 0, o_il 1, o_call 168, o_if 0 1, o_il 2, o_call 173, o_if 0 1, o_il 3, o_al 0, o_getR 10 8, o_il 1, o_aald, o_getI 0 1, o_al 0, o_getR 10 8, o_il 1, o_aald, o_getI 0 2, o_call 138, o_if 1 2, o_ft 1]),
  (40, [o_I (-1), o_ret 1]),
  (42, [o_al 0, o_getR 10 8, o_il 1, o_aald, o_getR 0 3, o_as 4, o_al 4, o_il 2, o_call 51, o_if 1 3, o_I (-4), o_ret 1]),
  (65, [o_al 4, o_il 2, o_il 3, o_call 54, o_al 4, o_getI 4 2, o_ret 1])]
/-- CartoonHouse.isFrame(I)Z -/
def p_173 : ABl := [(0, [o_il 0, o_I 0, o_I 119, o_call 138, o_ret 1])]
/-- CartoonHouse.angle(II)I -/
def p_174 : ABl := [(0, [o_al 0, o_il 1, o_call 168, o_if 0 1, o_il 2, o_call 173, o_if 1 2, o_ft 1]),
  (15, [o_I (-1), o_ret 1]),
  (17, [o_al 0, o_getR 10 8, o_il 1, o_aald, o_il 2, o_call 2, o_ret 1])]
/-- CartoonHouse.at(III)I -/
def p_175 : ABl := [(0, [o_al 0, o_il 1, o_call 168, o_if 0 1, o_il 2, o_call 173, o_if 0 1, o_il 3, o_I 0, o_I 1, o_call 138, o_if 1 2, o_ft 1]),
  (24, [o_I (-100000), o_ret 1]),
  (28, [o_il 3, o_if 1 3, o_al 0, o_getI 10 11, o_goto 4]),
  (39, [o_al 0, o_getI 10 12, o_ft 4]),
  (43, [o_al 0, o_getR 10 8, o_il 1, o_aald, o_il 2, o_il 3, o_call 3, o_bin 0, o_ret 1])]
/-- CartoonHouse.reach(IIII)I -/
def p_176 : ABl := [(0, [o_al 0, o_il 1, o_call 168, o_if 0 1, o_il 2, o_call 173, o_if 0 1, o_il 3, o_il 4, o_call 171, o_if 1 2, o_ft 1]),
  (24, [o_I (-1), o_ret 1]),
  (26, [o_al 0, o_getR 10 8, o_il 1, o_aald, o_as 5, o_al 5, o_call 5, o_as 6, o_al 6, o_call 5, o_as 7, o_al 0, o_al 5, o_il 2, o_call 177, o_if 0 3, o_al 0, o_al 6, o_il 2, o_call 177, o_if 0 3, o_al 0, o_al 7, o_il 2, o_call 177, o_if 1 4, o_ft 3]),
  (78, [o_I (-4), o_ret 1]),
  (81, [o_al 5, o_il 2, o_il 3, o_al 0, o_getI 10 11, o_bin 1, o_il 4, o_al 0, o_getI 10 12, o_bin 1, o_call 6, o_is 8, o_al 0, o_al 7, o_il 2, o_il 8, o_I 1024, o_bin 9, o_call 178, o_al 0, o_al 6, o_il 2, o_il 8, o_I 32, o_bin 9, o_I 32, o_bin 10, o_call 178, o_al 0, o_al 5, o_il 2, o_il 8, o_I 32, o_bin 10, o_call 178, o_al 0, o_getI 10 11, o_al 5, o_il 2, o_I 0, o_call 3, o_bin 0, o_il 3, o_bin 1, o_is 9, o_al 0, o_getI 10 12, o_al 5, o_il 2, o_I 1, o_call 3, o_bin 0, o_il 4, o_bin 1, o_is 10, o_il 9, o_il 9, o_bin 2, o_il 10, o_il 10, o_bin 2, o_bin 0, o_ret 1])]
/-- CartoonHouse.canKey(LCartoonHouse$Bone;I)Z -/
def p_177 : ABl := [(0, [o_al 1, o_al 0, o_getR 10 9, o_ae 1, o_al 1, o_getR 0 3, o_il 2, o_call 51, o_if 0 2, o_ft 1]),
  (19, [o_I 1, o_goto 3]),
  (23, [o_I 0, o_ft 3]),
  (24, [o_ret 1])]
/-- CartoonHouse.setKey(LCartoonHouse$Bone;II)V -/
def p_178 : ABl := [(0, [o_al 1, o_al 0, o_getR 10 9, o_ae 1, o_al 1, o_getR 0 3, o_il 2, o_il 3, o_call 54, o_ft 1]),
  (17, [o_ret 0])]
/-- CartoonHouse.swing(IIII)I -/
def p_179 : ABl := [(0, [o_al 0, o_il 1, o_call 168, o_if 0 1, o_il 2, o_call 173, o_if 0 1, o_il 3, o_I 0, o_I 16, o_call 138, o_if 0 1, o_il 4, o_I 0, o_I 16, o_call 138, o_if 1 2, o_ft 1]),
  (36, [o_I (-1000000000), o_ret 1]),
  (40, [o_al 0, o_getR 10 8, o_il 1, o_aald, o_il 2, o_il 3, o_il 4, o_call 7, o_ret 1])]
/-- CartoonHouse.language()I -/
def p_180 : ABl := [(0, [o_al 0, o_getR 10 13, o_al 0, o_getR 10 0, o_call 69, o_is 1, o_al 0, o_getR 10 0, o_call 25, o_il 1, o_ret 1])]
/-- CartoonHouse.letter(I)I -/
def p_181 : ABl := [(0, [o_il 1, o_I 0, o_I 25, o_call 138, o_if 0 1, o_al 0, o_getR 10 13, o_getR 6 0, o_il 1, o_iald, o_goto 2]),
  (22, [o_I (-1), o_ft 2]),
  (23, [o_ret 1])]
/-- CartoonHouse.speech()I -/
def p_182 : ABl := [(0, [o_al 0, o_getR 10 13, o_al 0, o_getR 10 0, o_call 71, o_is 1, o_al 0, o_getR 10 0, o_call 25, o_il 1, o_ret 1])]
/-- CartoonHouse.mouth(II)I -/
def p_183 : ABl := [(0, [o_al 0, o_getR 10 13, o_il 1, o_il 2, o_call 77, o_ret 1])]
/-- CartoonHouse.blink(II)I -/
def p_184 : ABl := [(0, [o_il 2, o_I 0, o_I 9999, o_call 138, o_if 1 1, o_I (-1), o_ret 1]),
  (13, [o_il 1, o_I 1103515245, o_bin 2, o_I 12345, o_bin 0, o_is 3, o_I 20, o_il 3, o_I 16, o_bin 8, o_I 32, o_bin 10, o_bin 0, o_is 4, o_I 0, o_is 5, o_ft 2]),
  (38, [o_il 5, o_I 10000, o_ic 3 3, o_il 4, o_I 3, o_bin 0, o_il 2, o_ic 4 3, o_il 3, o_I 1103515245, o_bin 2, o_I 12345, o_bin 0, o_is 3, o_il 4, o_I 24, o_il 3, o_I 16, o_bin 8, o_I 64, o_bin 10, o_bin 0, o_bin 0, o_is 4, o_iinc 5 1, o_goto 2]),
  (85, [o_il 4, o_il 2, o_ic 4 4, o_il 2, o_il 4, o_I 3, o_bin 0, o_ic 3 4, o_I 1, o_goto 5]),
  (103, [o_I 0, o_ft 5]),
  (104, [o_ret 1])]
/-- CartoonHouse.camera(IIII)I -/
def p_185 : ABl := [(0, [o_il 1, o_call 173, o_if 0 1, o_il 2, o_il 3, o_call 171, o_if 0 1, o_il 4, o_if 0 2, o_il 4, o_I 16, o_I 256, o_call 138, o_if 1 2, o_ft 1]),
  (33, [o_I (-1), o_ret 1]),
  (35, [o_il 4, o_if 1 5, o_I 0, o_is 5, o_ft 3]),
  (43, [o_il 5, o_al 0, o_getR 10 14, o_alen, o_ic 3 4, o_al 0, o_getR 10 14, o_il 5, o_aald, o_il 1, o_call 56, o_iinc 5 1, o_goto 3]),
  (70, [o_al 0, o_getR 10 14, o_I 0, o_aald, o_getI 4 2, o_ret 1]),
  (80, [o_al 0, o_getR 10 14, o_I 0, o_aald, o_il 1, o_call 51, o_if 1 6, o_I (-4), o_ret 1]),
  (96, [o_al 0, o_getR 10 14, o_I 0, o_aald, o_il 1, o_il 2, o_call 54, o_al 0, o_getR 10 14, o_I 1, o_aald, o_il 1, o_il 3, o_call 54, o_al 0, o_getR 10 14, o_I 2, o_aald, o_il 1, o_il 4, o_call 54, o_al 0, o_getR 10 14, o_I 0, o_aald, o_getI 4 2, o_ret 1])]
/-- CartoonHouse.depth(II)I -/
def p_186 : ABl := [(0, [o_il 1, o_call 158, o_if 0 1, o_il 2, o_I 16, o_I 1024, o_call 138, o_if 1 2, o_ft 1]),
  (19, [o_I (-1), o_ret 1]),
  (21, [o_al 0, o_getR 10 6, o_il 1, o_aald, o_getI 5 4, o_is 3, o_al 0, o_getR 10 6, o_il 1, o_aald, o_il 2, o_putI 5 4, o_il 3, o_ret 1])]
/-- CartoonHouse.seen(IIIII)I -/
def p_187 : ABl := [(0, [o_il 1, o_call 158, o_if 0 1, o_il 2, o_il 3, o_call 171, o_if 0 1, o_il 4, o_call 173, o_if 0 1, o_il 5, o_I 0, o_I 1, o_call 138, o_if 1 2, o_ft 1]),
  (33, [o_I (-1000000), o_ret 1]),
  (36, [o_al 0, o_getR 10 6, o_il 1, o_aald, o_getI 5 4, o_un 1, o_lst 6, o_il 5, o_if 1 3, o_I 24, o_goto 4]),
  (58, [o_I 16, o_ft 4]),
  (60, [o_is 8, o_il 5, o_if 1 5, o_il 2, o_goto 6]),
  (71, [o_il 3, o_ft 6]),
  (72, [o_il 8, o_bin 1, o_un 1, o_lst 9, o_il 8, o_ll 9, o_ll 6, o_binL 2, o_L 64, o_al 0, o_il 5, o_il 4, o_call 188, o_binL 2, o_binL 1, o_al 0, o_il 4, o_call 189, o_binL 2, o_L 64, o_ll 6, o_binL 2, o_call 146, o_bin 0, o_ret 1])]
/-- CartoonHouse.cameraAt(II)J -/
def p_188 : ABl := [(0, [o_al 0, o_getR 10 14, o_il 1, o_aald, o_il 2, o_I 0, o_call 55, o_un 1, o_ret 2])]
/-- CartoonHouse.zoomAt(I)J -/
def p_189 : ABl := [(0, [o_al 0, o_getR 10 14, o_I 2, o_aald, o_il 1, o_I 64, o_call 55, o_un 1, o_ret 2])]
/-- CartoonHouse.cutOff(III)I -/
def p_190 : ABl := [(0, [o_il 1, o_call 158, o_if 0 1, o_il 2, o_call 173, o_if 0 1, o_il 3, o_call 173, o_if 1 2, o_ft 1]),
  (21, [o_I (-1), o_ret 1]),
  (23, [o_il 2, o_is 4, o_ft 3]),
  (26, [o_il 4, o_il 3, o_ic 4 6, o_al 0, o_I 0, o_I 0, o_il 1, o_il 4, o_call 191, o_al 0, o_I 0, o_I 1, o_il 1, o_il 4, o_call 191, o_call 145, o_is 5, o_al 0, o_I 47, o_I 0, o_il 1, o_il 4, o_call 191, o_al 0, o_I 31, o_I 1, o_il 1, o_il 4, o_call 191, o_call 145, o_is 6, o_il 5, o_if 0 4, o_il 6, o_if 1 5, o_ft 4]),
  (90, [o_il 4, o_ret 1]),
  (93, [o_iinc 4 1, o_goto 3]),
  (99, [o_I (-1), o_ret 1])]
/-- CartoonHouse.placeBehind(IIII)I -/
def p_191 : ABl := [(0, [o_al 0, o_getR 10 6, o_il 3, o_aald, o_getI 5 4, o_un 1, o_lst 5, o_al 0, o_il 4, o_call 189, o_lst 7, o_il 2, o_if 1 1, o_I 24, o_goto 2]),
  (29, [o_I 16, o_ft 2]),
  (31, [o_is 9, o_il 1, o_il 9, o_bin 1, o_un 1, o_lst 10, o_il 9, o_ll 10, o_L 64, o_binL 2, o_ll 5, o_binL 2, o_L 64, o_al 0, o_il 2, o_il 4, o_call 188, o_binL 2, o_ll 7, o_binL 2, o_binL 0, o_ll 7, o_ll 5, o_binL 2, o_call 146, o_bin 0, o_ret 1])]
/-- CartoonHouse.wiggle(IIII)I -/
def p_192 : ABl := [(0, [o_il 1, o_call 158, o_if 0 1, o_il 3, o_I 0, o_I 24, o_call 138, o_if 0 1, o_il 4, o_I 0, o_I 3, o_call 138, o_if 1 2, o_ft 1]),
  (27, [o_I (-1), o_ret 1]),
  (29, [o_al 0, o_getR 10 6, o_il 1, o_aald, o_il 2, o_putI 5 5, o_al 0, o_getR 10 6, o_il 1, o_aald, o_il 3, o_putI 5 6, o_al 0, o_getR 10 6, o_il 1, o_aald, o_il 4, o_putI 5 7, o_I 1, o_ret 1])]
/-- CartoonHouse.node()I -/
def p_193 : ABl := [(0, [o_al 0, o_getR 10 15, o_al 0, o_getR 10 0, o_call 90, o_is 1, o_al 0, o_getR 10 0, o_call 25, o_il 1, o_ret 1])]
/-- CartoonHouse.clear()I -/
def p_194 : ABl := [(0, [o_al 0, o_getR 10 15, o_getI 8 2, o_is 1, o_al 0, o_getR 10 15, o_I 0, o_putI 8 2, o_il 1, o_ret 1])]
/-- CartoonHouse.sample(IIII)I -/
def p_195 : ABl := [(0, [o_al 0, o_il 1, o_call 196, o_if 0 1, o_il 2, o_call 173, o_if 0 1, o_il 3, o_il 4, o_call 145, o_if 1 2, o_ft 1]),
  (24, [o_I (-1), o_ret 1]),
  (26, [o_al 0, o_il 1, o_il 2, o_call 197, o_il 3, o_il 4, o_call 151, o_iald, o_is 5, o_il 5, o_I (-1), o_ic 1 3, o_I (-1), o_goto 4]),
  (51, [o_il 5, o_ft 4]),
  (53, [o_ret 1])]
/-- CartoonHouse.isNode(I)Z -/
def p_196 : ABl := [(0, [o_il 1, o_I 0, o_al 0, o_getR 10 15, o_getI 8 2, o_I 1, o_bin 1, o_call 138, o_ret 1])]
/-- CartoonHouse.pictureOf(II)[I -/
def p_197 : ABl := [(0, [o_al 0, o_getR 10 15, o_il 1, o_call 93, o_I 0, o_is 3, o_ft 1]),
  (10, [o_il 3, o_il 1, o_ic 4 4, o_al 0, o_getR 10 15, o_getR 8 4, o_il 3, o_bald, o_if 0 3, o_al 0, o_getR 10 15, o_getR 8 0, o_il 3, o_aald, o_cR 5, o_an 2, o_al 0, o_il 3, o_il 2, o_call 198, o_goto 3]),
  (51, [o_al 0, o_getR 10 15, o_il 3, o_il 2, o_call 95, o_ft 3]),
  (60, [o_iinc 3 1, o_goto 1]),
  (66, [o_al 0, o_getR 10 15, o_getR 8 3, o_il 1, o_aald, o_ret 3])]
/-- CartoonHouse.drawLayer(II)V -/
def p_198 : ABl := [(0, [o_al 0, o_getR 10 15, o_getR 8 1, o_il 1, o_aald, o_I 0, o_iald, o_is 3, o_al 0, o_getR 10 15, o_getR 8 3, o_il 1, o_aald, o_I (-1), o_call 356, o_al 0, o_getR 10 6, o_il 3, o_aald, o_il 2, o_call 62, o_is 4, o_il 4, o_I (-1), o_ic 1 1, o_ret 0]),
  (44, [o_al 0, o_getR 10 6, o_il 3, o_aald, o_getI 5 6, o_if 5 2, o_al 0, o_getR 10 3, o_al 0, o_getR 10 2, o_il 4, o_aald, o_al 0, o_getR 10 6, o_il 3, o_aald, o_il 2, o_call 49, o_al 0, o_getR 10 4, o_al 0, o_getR 10 3, o_call 37, o_goto 3]),
  (91, [o_al 0, o_getR 10 4, o_al 0, o_getR 10 2, o_il 4, o_aald, o_call 37, o_ft 3]),
  (105, [o_I 0, o_is 5, o_ft 4]),
  (108, [o_il 5, o_I 48, o_ic 3 5, o_al 0, o_getR 10 15, o_getR 8 5, o_il 5, o_al 0, o_il 5, o_I 0, o_il 3, o_il 2, o_call 191, o_iast, o_iinc 5 1, o_goto 4]),
  (140, [o_I 0, o_is 5, o_ft 6]),
  (143, [o_il 5, o_I 32, o_ic 3 7, o_al 0, o_getR 10 15, o_getR 8 6, o_il 5, o_al 0, o_il 5, o_I 1, o_il 3, o_il 2, o_call 191, o_iast, o_iinc 5 1, o_goto 6]),
  (175, [o_al 0, o_getR 10 15, o_il 1, o_al 0, o_getR 10 4, o_getR 2 1, o_al 0, o_getR 10 5, o_al 0, o_getR 10 15, o_getR 8 1, o_il 1, o_aald, o_I 1, o_iald, o_aald, o_call 94, o_ret 0])]
/-- CartoonHouse.hash(IIIII)I -/
def p_199 : ABl := [(0, [o_il 0, o_il 1, o_call 200, o_il 2, o_call 200, o_il 3, o_call 200, o_il 4, o_call 200, o_ret 1])]
/-- CartoonHouse.stir(II)I -/
def p_200 : ABl := [(0, [o_il 0, o_il 1, o_bin 5, o_I 16777619, o_bin 2, o_is 2, o_il 2, o_il 2, o_I 15, o_bin 8, o_bin 5, o_ret 1])]
/-- CartoonHouse.kept(II)I -/
def p_201 : ABl := [(0, [o_I 0, o_il 1, o_il 0, o_call 349, o_call 347, o_ret 1])]
/-- CartoonHouse.drawn(II)I -/
def p_202 : ABl := [(0, [o_al 0, o_il 1, o_call 196, o_if 0 1, o_il 2, o_call 173, o_if 1 2, o_ft 1]),
  (15, [o_I (-1), o_ret 1]),
  (17, [o_al 0, o_il 1, o_il 2, o_call 197, o_as 3, o_I 0, o_is 4, o_I 0, o_is 5, o_ft 3]),
  (30, [o_il 5, o_I 1536, o_ic 3 5, o_al 3, o_il 5, o_iald, o_I (-1), o_ic 0 4, o_iinc 4 1, o_ft 4]),
  (49, [o_iinc 5 1, o_goto 3]),
  (55, [o_il 4, o_ret 1])]
/-- CartoonHouse.film(III)I -/
def p_203 : ABl := [(0, [o_al 0, o_il 1, o_call 196, o_if 0 1, o_il 2, o_call 173, o_if 0 1, o_il 3, o_call 173, o_if 0 1, o_il 3, o_il 2, o_bin 1, o_I 0, o_I 7, o_call 138, o_if 1 2, o_ft 1]),
  (34, [o_I (-1), o_ret 1]),
  (36, [o_al 0, o_getR 10 1, o_call 25, o_al 0, o_getR 10 1, o_I 49264, o_call 28, o_al 0, o_getR 10 15, o_call 105, o_il 2, o_is 4, o_ft 3]),
  (63, [o_il 4, o_il 3, o_ic 4 4, o_al 0, o_getR 10 15, o_al 0, o_il 1, o_il 4, o_call 197, o_al 0, o_getR 10 1, o_call 106, o_iinc 4 1, o_goto 3]),
  (93, [o_al 0, o_getR 10 15, o_al 0, o_getR 10 1, o_getI 1 1, o_putI 8 11, o_al 0, o_getR 10 1, o_getI 1 1, o_ret 1])]
/-- CartoonHouse.played(III)I -/
def p_204 : ABl := [(0, [o_il 1, o_I 0, o_al 0, o_getR 10 15, o_getI 8 10, o_I 1, o_bin 1, o_call 138, o_if 0 1, o_il 2, o_il 3, o_call 145, o_if 1 2, o_ft 1]),
  (25, [o_I (-3), o_ret 1]),
  (28, [o_al 0, o_getR 10 15, o_getR 8 9, o_il 1, o_aald, o_il 2, o_il 3, o_call 151, o_iald, o_is 4, o_il 4, o_I (-1), o_ic 1 3, o_I (-1), o_goto 4]),
  (55, [o_il 4, o_ft 4]),
  (57, [o_ret 1])]
/-- CartoonHouse.flicker(II)I -/
def p_205 : ABl := [(0, [o_al 0, o_il 1, o_call 196, o_if 0 1, o_il 2, o_I 1, o_I 118, o_call 138, o_if 1 2, o_ft 1]),
  (18, [o_I (-1), o_ret 1]),
  (20, [o_al 0, o_il 1, o_il 2, o_I 1, o_bin 1, o_call 197, o_I 0, o_al 0, o_getR 10 15, o_getR 8 7, o_I 0, o_I 1536, o_cp, o_al 0, o_il 1, o_il 2, o_call 197, o_I 0, o_al 0, o_getR 10 15, o_getR 8 8, o_I 0, o_I 1536, o_cp, o_al 0, o_getR 10 15, o_al 0, o_il 1, o_il 2, o_I 1, o_bin 0, o_call 197, o_call 109, o_ret 1])]
/-- CartoonHouse.track(II)I -/
def p_206 : ABl := [(0, [o_il 1, o_I 0, o_I 2, o_call 138, o_if 0 1, o_il 2, o_I 0, o_I 999, o_call 138, o_if 0 1, o_I 1, o_goto 2]),
  (24, [o_I 0, o_ft 2]),
  (25, [o_is 3, o_il 3, o_if 0 3, o_al 0, o_il 1, o_il 2, o_call 207, o_goto 4]),
  (39, [o_I (-1), o_ft 4]),
  (40, [o_is 4, o_al 0, o_getR 10 0, o_call 25, o_il 4, o_ret 1])]
/-- CartoonHouse.readTrack(II)I -/
def p_207 : ABl := [(0, [o_al 0, o_getR 10 0, o_call 13, o_al 0, o_getR 10 16, o_I 3, o_aald, o_as 3, o_I 0, o_is 4, o_al 0, o_getR 10 0, o_call 21, o_is 5, o_I 0, o_is 6, o_ft 1]),
  (29, [o_il 5, o_if 0 4, o_il 6, o_I 100, o_ic 4 4, o_il 4, o_I 100, o_ic 3 2, o_al 3, o_il 4, o_al 0, o_getR 10 0, o_I (-100), o_I 100, o_call 27, o_iast, o_iinc 4 1, o_goto 3]),
  (69, [o_al 0, o_getR 10 0, o_al 0, o_getR 10 0, o_getI 1 2, o_call 18, o_ft 3]),
  (83, [o_al 0, o_getR 10 0, o_call 20, o_is 5, o_iinc 6 1, o_goto 1]),
  (98, [o_al 0, o_getR 10 0, o_call 16, o_if 1 5, o_al 0, o_getR 10 0, o_call 24, o_ret 1]),
  (116, [o_al 3, o_I 0, o_al 0, o_getR 10 16, o_il 1, o_aald, o_I 0, o_il 4, o_cp, o_al 0, o_getR 10 17, o_il 1, o_il 4, o_iast, o_al 0, o_getR 10 18, o_il 1, o_il 2, o_iast, o_il 4, o_ret 1])]
/-- CartoonHouse.mix(I)I -/
def p_208 : ABl := [(0, [o_I 0, o_is 2, o_I 0, o_is 3, o_ft 1]),
  (4, [o_il 3, o_I 3, o_ic 3 3, o_il 1, o_al 0, o_getR 10 18, o_il 3, o_iald, o_ic 2 2, o_il 1, o_al 0, o_getR 10 18, o_il 3, o_iald, o_bin 1, o_al 0, o_getR 10 17, o_il 3, o_iald, o_ic 3 2, o_il 2, o_al 0, o_getR 10 16, o_il 3, o_aald, o_il 1, o_al 0, o_getR 10 18, o_il 3, o_iald, o_bin 1, o_iald, o_bin 0, o_is 2, o_ft 2]),
  (54, [o_iinc 3 1, o_goto 1]),
  (60, [o_I (-128), o_I 127, o_il 2, o_call 349, o_call 347, o_ret 1])]
/-- CartoonHouse.count(I)I -/
def p_209 : ABl := [(0, [o_il 1, o_sw 0 11 [1, 2, 3, 4, 5, 6, 7, 8, 9, 10]]),
  (56, [o_al 0, o_call 210, o_ret 1]),
  (61, [o_al 0, o_call 211, o_ret 1]),
  (66, [o_al 0, o_getI 10 10, o_ret 1]),
  (71, [o_al 0, o_getR 10 15, o_getI 8 2, o_ret 1]),
  (79, [o_al 0, o_getR 10 15, o_getI 8 10, o_ret 1]),
  (87, [o_al 0, o_getR 10 15, o_getI 8 11, o_ret 1]),
  (95, [o_al 0, o_getR 10 13, o_getI 6 4, o_ret 1]),
  (103, [o_al 0, o_getR 10 7, o_getI 7 2, o_ret 1]),
  (111, [o_al 0, o_getR 10 14, o_I 0, o_aald, o_getI 4 2, o_ret 1]),
  (121, [o_al 0, o_getR 10 0, o_getI 1 1, o_ret 1]),
  (129, [o_I (-1), o_ret 1])]
/-- CartoonHouse.countStrokes()I -/
def p_210 : ABl := [(0, [o_I 0, o_is 1, o_I 0, o_is 2, o_ft 1]),
  (4, [o_il 2, o_I 16, o_ic 3 2, o_il 1, o_al 0, o_getR 10 2, o_il 2, o_aald, o_getI 3 1, o_bin 0, o_is 1, o_iinc 2 1, o_goto 1]),
  (28, [o_il 1, o_ret 1])]
/-- CartoonHouse.countFills()I -/
def p_211 : ABl := [(0, [o_I 0, o_is 1, o_I 0, o_is 2, o_ft 1]),
  (4, [o_il 2, o_I 16, o_ic 3 2, o_il 1, o_al 0, o_getR 10 2, o_il 2, o_aald, o_getI 3 5, o_bin 0, o_is 1, o_iinc 2 1, o_goto 1]),
  (28, [o_il 1, o_ret 1])]
/-- CartoonHouseModel.<init>()V -/
def p_212 : ABl := [(0, [o_al 0, o_obj, o_al 0, o_I 1600, o_newa 20, o_putR 11 0, o_al 0, o_I 1600, o_newa 20, o_putR 11 1, o_al 0, o_I 49264, o_newa 20, o_putR 11 6, o_al 0, o_I 16, o_newa 20, o_putR 11 8, o_al 0, o_I 128, o_newa 20, o_putR 11 9, o_al 0, o_I 128, o_newa 20, o_putR 11 10, o_al 0, o_I 1280, o_newa 20, o_putR 11 11, o_al 0, o_I 1280, o_newa 20, o_putR 11 12, o_al 0, o_I 10, o_newa 20, o_putR 11 13, o_al 0, o_I 10, o_newa 20, o_putR 11 14, o_al 0, o_I 80, o_newa 20, o_putR 11 18, o_al 0, o_I 80, o_newa 20, o_putR 11 19, o_al 0, o_I 800, o_newa 20, o_putR 11 20, o_al 0, o_I 800, o_newa 20, o_putR 11 21, o_al 0, o_I 16, o_newa 20, o_putR 11 22, o_al 0, o_I 96, o_newa 20, o_putR 11 23, o_al 0, o_I 96, o_newa 20, o_putR 11 24, o_al 0, o_I 96, o_newa 20, o_putR 11 25, o_al 0, o_I 96, o_newa 20, o_putR 11 26, o_al 0, o_I 80, o_newa 20, o_putR 11 27, o_al 0, o_I 80, o_newa 20, o_putR 11 28, o_al 0, o_I 1536, o_newa 20, o_putR 11 29, o_al 0, o_I 1536, o_newa 20, o_putR 11 30, o_al 0, o_I 1536, o_newa 22, o_putR 11 31, o_al 0, o_I 1536, o_newa 22, o_putR 11 32, o_al 0, o_I 1536, o_newa 20, o_putR 11 33, o_al 0, o_I 16, o_newa 20, o_putR 11 34, o_al 0, o_I 16, o_newa 20, o_putR 11 35, o_al 0, o_I 64, o_newa 20, o_putR 11 38, o_al 0, o_I 480, o_newa 20, o_putR 11 39, o_al 0, o_I 4, o_newa 20, o_putR 11 40, o_al 0, o_I 120, o_newa 20, o_putR 11 41, o_al 0, o_I 4, o_newa 20, o_putR 11 43, o_al 0, o_I 4, o_newa 20, o_putR 11 44, o_al 0, o_I 2304, o_newa 20, o_putR 11 46, o_al 0, o_I 8, o_newa 20, o_putR 11 47, o_al 0, o_I 8, o_newa 20, o_putR 11 48, o_al 0, o_I 24, o_putI 11 51, o_al 0, o_I 16, o_putI 11 52, o_al 0, o_I 10, o_newa 20, o_putR 11 53, o_al 0, o_I 10, o_newa 20, o_putR 11 54, o_al 0, o_I 10, o_newa 20, o_putR 11 55, o_al 0, o_I 10, o_newa 20, o_putR 11 56, o_al 0, o_I 10, o_newa 20, o_putR 11 57, o_al 0, o_I 60, o_newa 20, o_putR 11 58, o_al 0, o_I 60, o_newa 20, o_putR 11 59, o_al 0, o_I 10, o_newa 20, o_putR 11 60, o_al 0, o_I 26, o_newa 20, o_putR 11 63, o_al 0, o_I 26, o_newa 20, o_putR 11 64, o_al 0, o_I 120, o_newa 20, o_putR 11 66, o_al 0, o_I 120, o_newa 20, o_putR 11 67, o_al 0, o_I 120, o_newa 20, o_putR 11 68, o_al 0, o_I 120, o_newa 20, o_putR 11 69, o_al 0, o_I 8, o_newa 20, o_putR 11 71, o_al 0, o_I 8, o_newa 20, o_putR 11 72, o_al 0, o_I 8, o_newa 20, o_putR 11 73, o_al 0, o_I 8, o_newa 20, o_putR 11 74, o_al 0, o_I 4, o_newa 20, o_putR 11 75, o_al 0, o_I 4, o_newa 20, o_putR 11 76, o_al 0, o_I 4, o_newa 20, o_putR 11 77, o_al 0, o_I 4, o_newa 20, o_putR 11 78, o_al 0, o_I 10, o_newa 20, o_putR 11 83, o_al 0, o_I 60, o_newa 20, o_putR 11 84, o_al 0, o_I 6, o_newa 20, o_putR 11 85, o_al 0, o_I 15360, o_newa 20, o_putR 11 86, o_al 0, o_I 12288, o_newa 20, o_putR 11 89, o_al 0, o_I 1536, o_newa 20, o_putR 11 90, o_al 0, o_I 1536, o_newa 20, o_putR 11 91, o_al 0, o_I 300, o_newa 20, o_putR 11 92, o_al 0, o_I 3, o_newa 20, o_putR 11 93, o_al 0, o_I 3, o_newa 20, o_putR 11 94, o_al 0, o_I 100, o_newa 20, o_putR 11 95, o_I 0, o_is 1, o_ft 1]),
  (589, [o_il 1, o_I 64, o_ic 3 2, o_al 0, o_getR 11 38, o_il 1, o_il 1, o_I 16, o_bin 10, o_I 1118481, o_bin 2, o_iast, o_iinc 1 1, o_goto 1]),
  (614, [o_I 0, o_is 1, o_ft 3]),
  (616, [o_il 1, o_I 4, o_ic 3 4, o_al 0, o_getR 11 75, o_il 1, o_I 64, o_iast, o_iinc 1 1, o_goto 3]),
  (635, [o_ret 0])]
/-- CartoonHouseModel.feed(IIIII)I -/
def p_213 : ABl := [(0, [o_al 0, o_getI 11 2, o_I 1580, o_ic 5 1, o_I (-4), o_ret 1]),
  (13, [o_I 0, o_is 6, o_ft 2]),
  (16, [o_il 6, o_I 20, o_ic 3 8, o_il 6, o_I 4, o_ic 3 3, o_il 1, o_goto 7]),
  (33, [o_il 6, o_I 8, o_ic 3 4, o_il 2, o_goto 7]),
  (44, [o_il 6, o_I 12, o_ic 3 5, o_il 3, o_goto 7]),
  (55, [o_il 6, o_I 16, o_ic 3 6, o_il 4, o_goto 7]),
  (67, [o_il 5, o_ft 7]),
  (69, [o_is 7, o_al 0, o_getR 11 0, o_al 0, o_getI 11 2, o_il 6, o_bin 0, o_il 7, o_I 24, o_I 8, o_il 6, o_I 4, o_bin 10, o_bin 2, o_bin 1, o_bin 7, o_I 255, o_bin 3, o_iast, o_iinc 6 1, o_goto 2]),
  (106, [o_al 0, o_dup, o_getI 11 2, o_I 20, o_bin 0, o_putI 11 2, o_al 0, o_getI 11 2, o_ret 1])]
/-- CartoonHouseModel.end(I)I -/
def p_214 : ABl := [(0, [o_il 1, o_if 2 1, o_il 1, o_al 0, o_getI 11 2, o_ic 5 2, o_ft 1]),
  (12, [o_I (-1), o_ret 1]),
  (14, [o_al 0, o_il 1, o_putI 11 2, o_il 1, o_ret 1])]
/-- CartoonHouseModel.out(I)I -/
def p_215 : ABl := [(0, [o_il 1, o_if 2 1, o_il 1, o_al 0, o_getI 11 7, o_ic 3 1, o_al 0, o_getR 11 6, o_il 1, o_iald, o_goto 2]),
  (21, [o_I (-1), o_ft 2]),
  (22, [o_ret 1])]
/-- CartoonHouseModel.stroke(I)I -/
def p_216 : ABl := [(0, [o_al 0, o_call 217, o_il 1, o_call 218, o_if 1 1, o_I (-1), o_ret 1]),
  (13, [o_al 0, o_I 0, o_I 1, o_I 15, o_call 220, o_is 2, o_al 0, o_I 0, o_putI 11 15, o_ft 2]),
  (27, [o_al 0, o_call 221, o_if 0 7, o_al 0, o_getI 11 15, o_I 2, o_ic 2 3, o_al 0, o_getI 11 4, o_al 0, o_getI 11 3, o_ic 3 7, o_ft 3]),
  (53, [o_al 0, o_I 32, o_call 225, o_al 0, o_getI 11 4, o_is 3, o_al 0, o_call 221, o_if 0 4, o_al 0, o_getI 11 15, o_I 10, o_ic 1 4, o_al 0, o_al 0, o_getI 11 4, o_call 224, o_ft 4]),
  (88, [o_al 0, o_I 0, o_I 0, o_I 47, o_call 220, o_is 4, o_al 0, o_I 44, o_call 225, o_al 0, o_I 0, o_I 0, o_I 31, o_call 220, o_is 5, o_al 0, o_call 221, o_if 0 5, o_al 0, o_getI 11 15, o_if 5 5, o_al 0, o_getR 11 13, o_al 0, o_getI 11 15, o_I 1, o_bin 1, o_iald, o_il 4, o_ic 1 5, o_al 0, o_getR 11 14, o_al 0, o_getI 11 15, o_I 1, o_bin 1, o_iald, o_il 5, o_ic 1 5, o_al 0, o_il 3, o_call 224, o_ft 5]),
  (165, [o_al 0, o_call 221, o_if 0 6, o_al 0, o_getR 11 13, o_al 0, o_getI 11 15, o_il 4, o_iast, o_al 0, o_getR 11 14, o_al 0, o_getI 11 15, o_il 5, o_iast, o_al 0, o_dup, o_getI 11 15, o_I 1, o_bin 0, o_putI 11 15, o_ft 6]),
  (204, [o_goto 2]),
  (207, [o_al 0, o_call 221, o_if 1 8, o_al 0, o_call 226, o_ret 1]),
  (219, [o_al 0, o_getR 11 8, o_il 1, o_iald, o_I 8, o_ic 1 9, o_I (-4), o_ret 1]),
  (233, [o_al 0, o_il 1, o_al 0, o_getR 11 8, o_il 1, o_iald, o_il 2, o_call 227, o_al 0, o_getR 11 8, o_il 1, o_dup2, o_iald, o_I 1, o_bin 0, o_iast, o_al 0, o_getR 11 8, o_il 1, o_iald, o_I 1, o_bin 1, o_ret 1])]
/-- CartoonHouseModel.takes()V -/
def p_217 : ABl := [(0, [o_I 0, o_is 1, o_ft 1]),
  (2, [o_il 1, o_al 0, o_getI 11 2, o_ic 3 2, o_al 0, o_getR 11 1, o_il 1, o_al 0, o_getR 11 0, o_il 1, o_iald, o_iast, o_iinc 1 1, o_goto 1]),
  (28, [o_al 0, o_al 0, o_getI 11 2, o_putI 11 3, o_al 0, o_I 0, o_putI 11 2, o_al 0, o_I 0, o_putI 11 4, o_al 0, o_I (-1), o_putI 11 5, o_ret 0])]
/-- CartoonHouseModel.isDrawing(I)Z -/
def p_218 : ABl := [(0, [o_il 0, o_I 0, o_I 15, o_call 219, o_ret 1])]
/-- CartoonHouseModel.in(III)Z -/
def p_219 : ABl := [(0, [o_il 0, o_il 1, o_ic 2 1, o_il 0, o_il 2, o_ic 4 1, o_I 1, o_goto 2]),
  (14, [o_I 0, o_ft 2]),
  (15, [o_ret 1])]
/-- CartoonHouseModel.number(ZII)I -/
def p_220 : ABl := [(0, [o_al 0, o_call 221, o_if 1 1, o_il 2, o_ret 1]),
  (9, [o_al 0, o_getI 11 4, o_is 4, o_il 1, o_if 0 2, o_al 0, o_call 222, o_I 45, o_ic 1 2, o_I 1, o_goto 3]),
  (32, [o_I 0, o_ft 3]),
  (33, [o_is 5, o_il 5, o_if 0 4, o_al 0, o_dup, o_getI 11 4, o_I 1, o_bin 0, o_putI 11 4, o_ft 4]),
  (50, [o_al 0, o_call 222, o_call 223, o_if 0 5, o_il 5, o_if 0 6, o_al 0, o_call 222, o_I 48, o_ic 1 6, o_ft 5]),
  (74, [o_al 0, o_al 0, o_getI 11 4, o_call 224, o_il 2, o_ret 1]),
  (84, [o_al 0, o_call 222, o_is 6, o_I 0, o_is 7, o_I 0, o_is 8, o_ft 7]),
  (96, [o_al 0, o_call 222, o_call 223, o_if 0 10, o_al 0, o_call 221, o_if 0 10, o_il 8, o_I 9, o_ic 0 8, o_il 8, o_if 5 9, o_il 6, o_I 48, o_ic 1 9, o_ft 8]),
  (132, [o_al 0, o_al 0, o_getI 11 4, o_call 224, o_goto 7]),
  (143, [o_I 10, o_il 7, o_bin 2, o_al 0, o_call 222, o_bin 0, o_I 48, o_bin 1, o_is 7, o_iinc 8 1, o_al 0, o_dup, o_getI 11 4, o_I 1, o_bin 0, o_putI 11 4, o_goto 7]),
  (174, [o_al 0, o_call 221, o_if 1 11, o_il 2, o_ret 1]),
  (183, [o_il 5, o_if 0 12, o_il 7, o_un 0, o_goto 13]),
  (194, [o_il 7, o_ft 13]),
  (196, [o_is 7, o_il 7, o_il 2, o_ic 2 14, o_il 7, o_il 3, o_ic 5 15, o_ft 14]),
  (210, [o_al 0, o_il 4, o_call 224, o_ft 15]),
  (216, [o_il 7, o_il 2, o_ic 2 16, o_il 7, o_il 3, o_ic 5 17, o_ft 16]),
  (228, [o_il 2, o_goto 18]),
  (232, [o_il 7, o_ft 18]),
  (234, [o_ret 1])]
/-- CartoonHouseModel.good()Z -/
def p_221 : ABl := [(0, [o_al 0, o_getI 11 5, o_I (-1), o_ic 1 1, o_I 1, o_goto 2]),
  (12, [o_I 0, o_ft 2]),
  (13, [o_ret 1])]
/-- CartoonHouseModel.look()I -/
def p_222 : ABl := [(0, [o_al 0, o_getI 11 4, o_al 0, o_getI 11 3, o_ic 3 1, o_al 0, o_getR 11 1, o_al 0, o_getI 11 4, o_iald, o_goto 2]),
  (23, [o_I (-1), o_ft 2]),
  (24, [o_ret 1])]
/-- CartoonHouseModel.isDigit(I)Z -/
def p_223 : ABl := [(0, [o_il 0, o_I 48, o_ic 2 1, o_il 0, o_I 57, o_ic 4 1, o_I 1, o_goto 2]),
  (16, [o_I 0, o_ft 2]),
  (17, [o_ret 1])]
/-- CartoonHouseModel.fail(I)V -/
def p_224 : ABl := [(0, [o_al 0, o_getI 11 5, o_I (-1), o_ic 1 1, o_al 0, o_il 1, o_putI 11 5, o_ft 1]),
  (13, [o_ret 0])]
/-- CartoonHouseModel.wants(I)V -/
def p_225 : ABl := [(0, [o_al 0, o_call 221, o_if 1 1, o_ret 0]),
  (8, [o_al 0, o_call 222, o_il 1, o_ic 1 2, o_al 0, o_dup, o_getI 11 4, o_I 1, o_bin 0, o_putI 11 4, o_goto 3]),
  (29, [o_al 0, o_al 0, o_getI 11 4, o_call 224, o_ft 3]),
  (37, [o_ret 0])]
/-- CartoonHouseModel.refused()I -/
def p_226 : ABl := [(0, [o_I (-1000), o_al 0, o_getI 11 5, o_bin 1, o_ret 1])]
/-- CartoonHouseModel.lays(III)V -/
def p_227 : ABl := [(0, [o_I 8, o_il 1, o_bin 2, o_il 2, o_bin 0, o_is 4, o_al 0, o_getR 11 9, o_il 4, o_il 3, o_iast, o_al 0, o_getR 11 10, o_il 4, o_al 0, o_getI 11 15, o_iast, o_I 0, o_is 5, o_ft 1]),
  (30, [o_il 5, o_al 0, o_getI 11 15, o_ic 3 2, o_al 0, o_getR 11 11, o_I 10, o_il 4, o_bin 2, o_il 5, o_bin 0, o_al 0, o_getR 11 13, o_il 5, o_iald, o_iast, o_al 0, o_getR 11 12, o_I 10, o_il 4, o_bin 2, o_il 5, o_bin 0, o_al 0, o_getR 11 14, o_il 5, o_iald, o_iast, o_iinc 5 1, o_goto 1]),
  (85, [o_ret 0])]
/-- CartoonHouseModel.take(II)I -/
def p_228 : ABl := [(0, [o_al 0, o_il 1, o_il 2, o_call 229, o_if 1 1, o_I (-1), o_ret 1]),
  (11, [o_il 2, o_is 3, o_ft 2]),
  (13, [o_il 3, o_al 0, o_getR 11 8, o_il 1, o_iald, o_I 1, o_bin 1, o_ic 3 3, o_al 0, o_I 8, o_il 1, o_bin 2, o_il 3, o_bin 0, o_I 1, o_bin 0, o_I 8, o_il 1, o_bin 2, o_il 3, o_bin 0, o_call 230, o_iinc 3 1, o_goto 2]),
  (49, [o_al 0, o_getR 11 8, o_il 1, o_dup2, o_iald, o_I 1, o_bin 1, o_iast, o_al 0, o_getR 11 8, o_il 1, o_iald, o_ret 1])]
/-- CartoonHouseModel.isStroke(II)Z -/
def p_229 : ABl := [(0, [o_il 1, o_call 218, o_if 0 1, o_il 2, o_I 0, o_al 0, o_getR 11 8, o_il 1, o_iald, o_I 1, o_bin 1, o_call 219, o_if 0 1, o_I 1, o_goto 2]),
  (27, [o_I 0, o_ft 2]),
  (28, [o_ret 1])]
/-- CartoonHouseModel.copies(II)V -/
def p_230 : ABl := [(0, [o_al 0, o_getR 11 9, o_il 2, o_al 0, o_getR 11 9, o_il 1, o_iald, o_iast, o_al 0, o_getR 11 10, o_il 2, o_al 0, o_getR 11 10, o_il 1, o_iald, o_iast, o_I 0, o_is 3, o_ft 1]),
  (26, [o_il 3, o_I 10, o_ic 3 2, o_al 0, o_getR 11 11, o_I 10, o_il 2, o_bin 2, o_il 3, o_bin 0, o_al 0, o_getR 11 11, o_I 10, o_il 1, o_bin 2, o_il 3, o_bin 0, o_iald, o_iast, o_al 0, o_getR 11 12, o_I 10, o_il 2, o_bin 2, o_il 3, o_bin 0, o_al 0, o_getR 11 12, o_I 10, o_il 1, o_bin 2, o_il 3, o_bin 0, o_iald, o_iast, o_iinc 3 1, o_goto 1]),
  (82, [o_ret 0])]
/-- CartoonHouseModel.written(I)I -/
def p_231 : ABl := [(0, [o_il 1, o_call 218, o_if 1 1, o_I (-1), o_ret 1]),
  (9, [o_al 0, o_I 0, o_putI 11 7, o_I 8, o_il 1, o_bin 2, o_is 2, o_ft 2]),
  (19, [o_il 2, o_I 8, o_il 1, o_bin 2, o_al 0, o_getR 11 8, o_il 1, o_iald, o_bin 0, o_ic 3 5, o_al 0, o_al 0, o_getR 11 9, o_il 2, o_iald, o_call 232, o_I 10, o_il 2, o_bin 2, o_is 3, o_ft 3]),
  (49, [o_il 3, o_I 10, o_il 2, o_bin 2, o_al 0, o_getR 11 10, o_il 2, o_iald, o_bin 0, o_ic 3 4, o_al 0, o_I 32, o_call 233, o_al 0, o_al 0, o_getR 11 11, o_il 3, o_iald, o_call 232, o_al 0, o_I 44, o_call 233, o_al 0, o_al 0, o_getR 11 12, o_il 3, o_iald, o_call 232, o_iinc 3 1, o_goto 3]),
  (102, [o_al 0, o_I 10, o_call 233, o_iinc 2 1, o_goto 2]),
  (114, [o_al 0, o_getI 11 7, o_ret 1])]
/-- CartoonHouseModel.puts(I)V -/
def p_232 : ABl := [(0, [o_I 1, o_is 2, o_ft 1]),
  (2, [o_il 1, o_il 2, o_bin 9, o_I 9, o_ic 5 2, o_I 10, o_il 2, o_bin 2, o_is 2, o_goto 1]),
  (18, [o_il 2, o_is 3, o_ft 3]),
  (20, [o_il 3, o_if 5 4, o_al 0, o_I 48, o_il 1, o_il 3, o_bin 9, o_I 10, o_bin 10, o_bin 0, o_call 233, o_il 3, o_I 10, o_bin 9, o_is 3, o_goto 3]),
  (45, [o_ret 0])]
/-- CartoonHouseModel.put(I)V -/
def p_233 : ABl := [(0, [o_al 0, o_getR 11 6, o_al 0, o_getI 11 7, o_il 1, o_iast, o_al 0, o_dup, o_getI 11 7, o_I 1, o_bin 0, o_putI 11 7, o_ret 0])]
/-- CartoonHouseModel.fit(III)I -/
def p_234 : ABl := [(0, [o_al 0, o_il 1, o_il 2, o_call 229, o_if 0 1, o_il 3, o_I 0, o_I 20, o_call 219, o_if 1 2, o_ft 1]),
  (19, [o_I (-1), o_ret 1]),
  (21, [o_I 8, o_il 1, o_bin 2, o_il 2, o_bin 0, o_is 4, o_al 0, o_I 1, o_putI 11 15, o_al 0, o_getR 11 13, o_I 0, o_al 0, o_getR 11 11, o_I 10, o_il 4, o_bin 2, o_iald, o_iast, o_al 0, o_getR 11 14, o_I 0, o_al 0, o_getR 11 12, o_I 10, o_il 4, o_bin 2, o_iald, o_iast, o_I 0, o_is 5, o_ft 3]),
  (69, [o_il 5, o_al 0, o_getR 11 10, o_il 4, o_iald, o_I 1, o_bin 1, o_ic 3 10, o_il 5, o_I 1, o_bin 0, o_is 6, o_il 5, o_I 1, o_bin 0, o_is 7, o_ft 4]),
  (95, [o_il 7, o_al 0, o_getR 11 10, o_il 4, o_iald, o_ic 3 9, o_al 0, o_getR 11 11, o_I 10, o_il 4, o_bin 2, o_il 7, o_bin 0, o_iald, o_al 0, o_getR 11 11, o_I 10, o_il 4, o_bin 2, o_il 5, o_bin 0, o_iald, o_ic 1 5, o_al 0, o_getR 11 12, o_I 10, o_il 4, o_bin 2, o_il 7, o_bin 0, o_iald, o_al 0, o_getR 11 12, o_I 10, o_il 4, o_bin 2, o_il 5, o_bin 0, o_iald, o_ic 0 6, o_ft 5]),
  (165, [o_I 1, o_goto 7]),
  (169, [o_I 0, o_ft 7]),
  (170, [o_is 8, o_il 8, o_if 0 8, o_al 0, o_il 4, o_il 5, o_il 7, o_il 3, o_call 235, o_if 0 8, o_il 7, o_is 6, o_ft 8]),
  (195, [o_iinc 7 1, o_goto 4]),
  (201, [o_il 6, o_is 5, o_al 0, o_getR 11 13, o_al 0, o_getI 11 15, o_al 0, o_getR 11 11, o_I 10, o_il 4, o_bin 2, o_il 5, o_bin 0, o_iald, o_iast, o_al 0, o_getR 11 14, o_al 0, o_getI 11 15, o_al 0, o_getR 11 12, o_I 10, o_il 4, o_bin 2, o_il 5, o_bin 0, o_iald, o_iast, o_al 0, o_dup, o_getI 11 15, o_I 1, o_bin 0, o_putI 11 15, o_goto 3]),
  (262, [o_al 0, o_il 1, o_il 2, o_al 0, o_getR 11 9, o_il 4, o_iald, o_call 227, o_al 0, o_getI 11 15, o_ret 1])]
/-- CartoonHouseModel.areClose(IIII)Z -/
def p_235 : ABl := [(0, [o_al 0, o_getR 11 11, o_I 10, o_il 1, o_bin 2, o_il 3, o_bin 0, o_iald, o_al 0, o_getR 11 11, o_I 10, o_il 1, o_bin 2, o_il 2, o_bin 0, o_iald, o_bin 1, o_un 1, o_lst 5, o_al 0, o_getR 11 12, o_I 10, o_il 1, o_bin 2, o_il 3, o_bin 0, o_iald, o_al 0, o_getR 11 12, o_I 10, o_il 1, o_bin 2, o_il 2, o_bin 0, o_iald, o_bin 1, o_un 1, o_lst 7, o_I 1, o_is 9, o_il 2, o_I 1, o_bin 0, o_is 10, o_ft 1]),
  (60, [o_il 10, o_il 3, o_ic 3 4, o_ll 5, o_al 0, o_getR 11 12, o_I 10, o_il 1, o_bin 2, o_il 10, o_bin 0, o_iald, o_al 0, o_getR 11 12, o_I 10, o_il 1, o_bin 2, o_il 2, o_bin 0, o_iald, o_bin 1, o_un 1, o_binL 2, o_ll 7, o_al 0, o_getR 11 11, o_I 10, o_il 1, o_bin 2, o_il 10, o_bin 0, o_iald, o_al 0, o_getR 11 11, o_I 10, o_il 1, o_bin 2, o_il 2, o_bin 0, o_iald, o_bin 1, o_un 1, o_binL 2, o_binL 1, o_lst 11, o_il 9, o_if 0 2, o_ll 11, o_ll 11, o_binL 2, o_il 4, o_un 1, o_il 4, o_un 1, o_binL 2, o_ll 5, o_ll 5, o_binL 2, o_ll 7, o_ll 7, o_binL 2, o_binL 0, o_binL 2, o_binL 5, o_if 4 2, o_I 1, o_goto 3]),
  (162, [o_I 0, o_ft 3]),
  (163, [o_is 9, o_iinc 10 1, o_goto 1]),
  (171, [o_il 9, o_ret 1])]
/-- CartoonHouseModel.erase(IIII)I -/
def p_236 : ABl := [(0, [o_il 1, o_call 218, o_if 0 1, o_il 2, o_il 3, o_call 237, o_if 0 1, o_il 4, o_I 0, o_I 10, o_call 219, o_if 1 2, o_ft 1]),
  (26, [o_I (-1), o_ret 1]),
  (28, [o_I 0, o_is 5, o_I 0, o_is 6, o_I 8, o_il 1, o_bin 2, o_is 7, o_ft 3]),
  (40, [o_il 7, o_I 8, o_il 1, o_bin 2, o_al 0, o_getR 11 8, o_il 1, o_iald, o_bin 0, o_ic 3 9, o_I 0, o_is 8, o_I 10, o_il 7, o_bin 2, o_is 9, o_ft 4]),
  (66, [o_il 9, o_I 10, o_il 7, o_bin 2, o_al 0, o_getR 11 10, o_il 7, o_iald, o_bin 0, o_I 1, o_bin 1, o_ic 3 8, o_al 0, o_al 0, o_getR 11 11, o_il 9, o_iald, o_al 0, o_getR 11 12, o_il 9, o_iald, o_al 0, o_getR 11 11, o_il 9, o_I 1, o_bin 0, o_iald, o_al 0, o_getR 11 12, o_il 9, o_I 1, o_bin 0, o_iald, o_il 2, o_il 3, o_il 4, o_call 238, o_if 0 5, o_iinc 6 1, o_I 0, o_is 8, o_goto 7]),
  (138, [o_il 8, o_if 1 6, o_al 0, o_getR 11 18, o_il 5, o_al 0, o_getR 11 9, o_il 7, o_iald, o_iast, o_al 0, o_getR 11 19, o_il 5, o_I 1, o_iast, o_al 0, o_getR 11 20, o_I 10, o_il 5, o_bin 2, o_al 0, o_getR 11 11, o_il 9, o_iald, o_iast, o_al 0, o_getR 11 21, o_I 10, o_il 5, o_bin 2, o_al 0, o_getR 11 12, o_il 9, o_iald, o_iast, o_iinc 5 1, o_I 1, o_is 8, o_ft 6]),
  (205, [o_I 10, o_il 5, o_I 1, o_bin 1, o_bin 2, o_al 0, o_getR 11 19, o_il 5, o_I 1, o_bin 1, o_iald, o_bin 0, o_is 10, o_al 0, o_getR 11 20, o_il 10, o_al 0, o_getR 11 11, o_il 9, o_I 1, o_bin 0, o_iald, o_iast, o_al 0, o_getR 11 21, o_il 10, o_al 0, o_getR 11 12, o_il 9, o_I 1, o_bin 0, o_iald, o_iast, o_al 0, o_getR 11 19, o_il 5, o_I 1, o_bin 1, o_dup2, o_iald, o_I 1, o_bin 0, o_iast, o_ft 7]),
  (269, [o_iinc 9 1, o_goto 4]),
  (275, [o_iinc 7 1, o_goto 3]),
  (281, [o_il 5, o_I 8, o_ic 5 10, o_I (-4), o_ret 1]),
  (291, [o_al 0, o_getR 11 8, o_il 1, o_il 5, o_iast, o_I 0, o_is 7, o_ft 11]),
  (302, [o_il 7, o_il 5, o_ic 3 14, o_al 0, o_al 0, o_getR 11 19, o_il 7, o_iald, o_putI 11 15, o_I 0, o_is 8, o_ft 12]),
  (323, [o_il 8, o_al 0, o_getI 11 15, o_ic 3 13, o_al 0, o_getR 11 13, o_il 8, o_al 0, o_getR 11 20, o_I 10, o_il 7, o_bin 2, o_il 8, o_bin 0, o_iald, o_iast, o_al 0, o_getR 11 14, o_il 8, o_al 0, o_getR 11 21, o_I 10, o_il 7, o_bin 2, o_il 8, o_bin 0, o_iald, o_iast, o_iinc 8 1, o_goto 12]),
  (378, [o_al 0, o_il 1, o_il 7, o_al 0, o_getR 11 18, o_il 7, o_iald, o_call 227, o_iinc 7 1, o_goto 11]),
  (398, [o_il 6, o_ret 1])]
/-- CartoonHouseModel.isPixel(II)Z -/
def p_237 : ABl := [(0, [o_il 0, o_I 0, o_I 47, o_call 219, o_if 0 1, o_il 1, o_I 0, o_I 31, o_call 219, o_if 0 1, o_I 1, o_goto 2]),
  (24, [o_I 0, o_ft 2]),
  (25, [o_ret 1])]
/-- CartoonHouseModel.isNear(IIIIIII)Z -/
def p_238 : ABl := [(0, [o_I 0, o_is 8, o_il 1, o_il 2, o_il 3, o_il 4, o_call 239, o_is 9, o_I 0, o_is 10, o_ft 1]),
  (16, [o_il 10, o_il 9, o_ic 4 5, o_al 0, o_il 1, o_il 2, o_il 3, o_il 4, o_il 10, o_call 242, o_il 8, o_if 1 2, o_al 0, o_getI 11 16, o_il 5, o_bin 1, o_call 240, o_il 7, o_ic 4 3, o_al 0, o_getI 11 17, o_il 6, o_bin 1, o_call 240, o_il 7, o_ic 4 3, o_ft 2]),
  (69, [o_I 1, o_goto 4]),
  (73, [o_I 0, o_ft 4]),
  (74, [o_is 8, o_iinc 10 1, o_goto 1]),
  (82, [o_il 8, o_ret 1])]
/-- CartoonHouseModel.steps(IIII)I -/
def p_239 : ABl := [(0, [o_il 2, o_il 0, o_bin 1, o_call 240, o_il 3, o_il 1, o_bin 1, o_call 240, o_call 241, o_ret 1])]
/-- CartoonHouseModel.far(I)I -/
def p_240 : ABl := [(0, [o_il 0, o_if 3 1, o_il 0, o_un 0, o_goto 2]),
  (9, [o_il 0, o_ft 2]),
  (10, [o_ret 1])]
/-- CartoonHouseModel.more(II)I -/
def p_241 : ABl := [(0, [o_il 0, o_il 1, o_ic 5 1, o_il 0, o_goto 2]),
  (9, [o_il 1, o_ft 2]),
  (10, [o_ret 1])]
/-- CartoonHouseModel.linePixel(IIIII)V -/
def p_242 : ABl := [(0, [o_il 1, o_il 2, o_il 3, o_il 4, o_call 239, o_is 6, o_al 0, o_il 6, o_if 1 1, o_il 1, o_goto 2]),
  (20, [o_il 1, o_il 5, o_un 1, o_il 3, o_il 1, o_bin 1, o_un 1, o_binL 2, o_il 6, o_un 1, o_call 243, o_bin 0, o_ft 2]),
  (36, [o_putI 11 16, o_al 0, o_il 6, o_if 1 3, o_il 2, o_goto 4]),
  (49, [o_il 2, o_il 5, o_un 1, o_il 4, o_il 2, o_bin 1, o_un 1, o_binL 2, o_il 6, o_un 1, o_call 243, o_bin 0, o_ft 4]),
  (66, [o_putI 11 17, o_ret 0])]
/-- CartoonHouseModel.round(JJ)I -/
def p_243 : ABl := [(0, [o_L 2, o_ll 0, o_binL 2, o_ll 2, o_binL 0, o_L 2, o_ll 2, o_binL 2, o_call 244, o_un 2, o_ret 1])]
/-- CartoonHouseModel.div(JJ)J -/
def p_244 : ABl := [(0, [o_ll 0, o_ll 2, o_binL 3, o_lst 4, o_ll 0, o_ll 2, o_binL 4, o_L 0, o_binL 5, o_if 0 5, o_ll 0, o_L 0, o_binL 5, o_if 3 1, o_I 1, o_goto 2]),
  (23, [o_I 0, o_ft 2]),
  (24, [o_ll 2, o_L 0, o_binL 5, o_if 3 3, o_I 1, o_goto 4]),
  (34, [o_I 0, o_ft 4]),
  (35, [o_ic 0 5, o_ll 4, o_L 1, o_binL 1, o_goto 6]),
  (45, [o_ll 4, o_ft 6]),
  (47, [o_ret 2])]
/-- CartoonHouseModel.meets(III)I -/
def p_245 : ABl := [(0, [o_al 0, o_il 1, o_il 2, o_call 229, o_if 0 1, o_al 0, o_il 1, o_il 3, o_call 229, o_if 0 1, o_il 2, o_il 3, o_ic 1 2, o_ft 1]),
  (23, [o_I (-1), o_ret 1]),
  (25, [o_I 8, o_il 1, o_bin 2, o_il 2, o_bin 0, o_is 4, o_I 8, o_il 1, o_bin 2, o_il 3, o_bin 0, o_is 5, o_I 0, o_is 6, o_I 0, o_is 7, o_ft 3]),
  (47, [o_il 7, o_al 0, o_getR 11 10, o_il 4, o_iald, o_I 1, o_bin 1, o_ic 3 8, o_I 0, o_is 8, o_ft 4]),
  (64, [o_il 8, o_al 0, o_getR 11 10, o_il 5, o_iald, o_I 1, o_bin 1, o_ic 3 7, o_il 6, o_al 0, o_I 10, o_il 4, o_bin 2, o_il 7, o_bin 0, o_I 10, o_il 5, o_bin 2, o_il 8, o_bin 0, o_call 246, o_if 0 5, o_I 1, o_goto 6]),
  (107, [o_I 0, o_ft 6]),
  (108, [o_bin 0, o_is 6, o_iinc 8 1, o_goto 4]),
  (117, [o_iinc 7 1, o_goto 3]),
  (123, [o_il 6, o_ret 1])]
/-- CartoonHouseModel.areMet(II)Z -/
def p_246 : ABl := [(0, [o_al 0, o_getR 11 11, o_il 1, o_iald, o_is 3, o_al 0, o_getR 11 12, o_il 1, o_iald, o_is 4, o_al 0, o_getR 11 11, o_il 1, o_I 1, o_bin 0, o_iald, o_is 5, o_al 0, o_getR 11 12, o_il 1, o_I 1, o_bin 0, o_iald, o_is 6, o_al 0, o_getR 11 11, o_il 2, o_iald, o_is 7, o_al 0, o_getR 11 12, o_il 2, o_iald, o_is 8, o_al 0, o_getR 11 11, o_il 2, o_I 1, o_bin 0, o_iald, o_is 9, o_al 0, o_getR 11 12, o_il 2, o_I 1, o_bin 0, o_iald, o_is 10, o_il 3, o_il 4, o_il 5, o_il 6, o_il 7, o_il 8, o_call 247, o_is 11, o_il 3, o_il 4, o_il 5, o_il 6, o_il 9, o_il 10, o_call 247, o_is 12, o_il 7, o_il 8, o_il 9, o_il 10, o_il 3, o_il 4, o_call 247, o_is 13, o_il 7, o_il 8, o_il 9, o_il 10, o_il 5, o_il 6, o_call 247, o_is 14, o_il 11, o_il 12, o_bin 2, o_if 3 1, o_il 13, o_il 14, o_bin 2, o_if 3 1, o_I 1, o_goto 2]),
  (156, [o_I 0, o_ft 2]),
  (157, [o_is 15, o_il 11, o_if 1 3, o_il 3, o_il 4, o_il 5, o_il 6, o_il 7, o_il 8, o_call 248, o_if 1 4, o_ft 3]),
  (181, [o_il 12, o_if 1 5, o_il 3, o_il 4, o_il 5, o_il 6, o_il 9, o_il 10, o_call 248, o_if 0 5, o_ft 4]),
  (203, [o_I 1, o_goto 6]),
  (207, [o_I 0, o_ft 6]),
  (208, [o_is 16, o_il 15, o_if 1 8, o_il 16, o_if 1 8, o_il 13, o_if 1 7, o_il 7, o_il 8, o_il 9, o_il 10, o_il 3, o_il 4, o_call 248, o_if 1 8, o_ft 7]),
  (242, [o_il 14, o_if 1 9, o_il 7, o_il 8, o_il 9, o_il 10, o_il 5, o_il 6, o_call 248, o_if 0 9, o_ft 8]),
  (265, [o_I 1, o_goto 10]),
  (269, [o_I 0, o_ft 10]),
  (270, [o_ret 1])]
/-- CartoonHouseModel.turn(IIIIII)I -/
def p_247 : ABl := [(0, [o_il 2, o_il 0, o_bin 1, o_il 5, o_il 1, o_bin 1, o_bin 2, o_il 3, o_il 1, o_bin 1, o_il 4, o_il 0, o_bin 1, o_bin 2, o_bin 1, o_is 6, o_il 6, o_if 5 1, o_I 1, o_goto 3]),
  (28, [o_il 6, o_if 3 2, o_I (-1), o_goto 3]),
  (37, [o_I 0, o_ft 3]),
  (38, [o_ret 1])]
/-- CartoonHouseModel.isBetween(IIIIII)Z -/
def p_248 : ABl := [(0, [o_il 4, o_il 0, o_il 2, o_ic 3 1, o_il 0, o_goto 2]),
  (11, [o_il 2, o_ft 2]),
  (12, [o_ic 2 5, o_il 4, o_il 0, o_il 2, o_call 241, o_ic 4 5, o_il 5, o_il 1, o_il 3, o_ic 3 3, o_il 1, o_goto 4]),
  (36, [o_il 3, o_ft 4]),
  (37, [o_ic 2 5, o_il 5, o_il 1, o_il 3, o_call 241, o_ic 4 5, o_I 1, o_goto 6]),
  (54, [o_I 0, o_ft 6]),
  (55, [o_ret 1])]
/-- CartoonHouseModel.area(II)I -/
def p_249 : ABl := [(0, [o_al 0, o_il 1, o_il 2, o_call 229, o_if 1 1, o_I (-1000000), o_ret 1]),
  (13, [o_I 8, o_il 1, o_bin 2, o_il 2, o_bin 0, o_is 3, o_I 0, o_is 4, o_I 0, o_is 5, o_ft 2]),
  (26, [o_il 5, o_al 0, o_getR 11 10, o_il 3, o_iald, o_ic 3 5, o_il 5, o_I 1, o_bin 0, o_al 0, o_getR 11 10, o_il 3, o_iald, o_ic 3 3, o_il 5, o_I 1, o_bin 0, o_goto 4]),
  (57, [o_I 0, o_ft 4]),
  (58, [o_is 6, o_il 4, o_al 0, o_getR 11 11, o_I 10, o_il 3, o_bin 2, o_il 5, o_bin 0, o_iald, o_al 0, o_getR 11 12, o_I 10, o_il 3, o_bin 2, o_il 6, o_bin 0, o_iald, o_bin 2, o_al 0, o_getR 11 11, o_I 10, o_il 3, o_bin 2, o_il 6, o_bin 0, o_iald, o_al 0, o_getR 11 12, o_I 10, o_il 3, o_bin 2, o_il 5, o_bin 0, o_iald, o_bin 2, o_bin 1, o_bin 0, o_is 4, o_iinc 5 1, o_goto 2]),
  (122, [o_il 4, o_ret 1])]
/-- CartoonHouseModel.fill(IIIII)I -/
def p_250 : ABl := [(0, [o_il 1, o_call 218, o_if 0 1, o_il 2, o_il 3, o_call 237, o_if 0 1, o_il 4, o_I 0, o_I 8, o_call 219, o_if 0 1, o_il 5, o_I 1, o_I 15, o_call 219, o_if 1 2, o_ft 1]),
  (37, [o_I (-1), o_ret 1]),
  (39, [o_al 0, o_getR 11 22, o_il 1, o_iald, o_I 6, o_ic 1 3, o_I (-4), o_ret 1]),
  (53, [o_al 0, o_il 1, o_I (-1), o_I 0, o_call 251, o_al 0, o_il 1, o_il 2, o_il 3, o_il 4, o_call 254, o_al 0, o_getI 11 36, o_if 1 4, o_I 0, o_ret 1]),
  (78, [o_al 0, o_getI 11 37, o_if 0 5, o_I (-5), o_ret 1]),
  (88, [o_I 6, o_il 1, o_bin 2, o_al 0, o_getR 11 22, o_il 1, o_iald, o_bin 0, o_is 6, o_al 0, o_getR 11 23, o_il 6, o_il 2, o_iast, o_al 0, o_getR 11 24, o_il 6, o_il 3, o_iast, o_al 0, o_getR 11 25, o_il 6, o_il 4, o_iast, o_al 0, o_getR 11 26, o_il 6, o_il 5, o_iast, o_al 0, o_getR 11 22, o_il 1, o_dup2, o_iald, o_I 1, o_bin 0, o_iast, o_al 0, o_getI 11 36, o_ret 1])]
/-- CartoonHouseModel.draws(III)V -/
def p_251 : ABl := [(0, [o_I 0, o_is 4, o_ft 1]),
  (3, [o_il 4, o_I 1536, o_ic 3 2, o_al 0, o_getR 11 29, o_il 4, o_I 0, o_iast, o_iinc 4 1, o_goto 1]),
  (25, [o_I 0, o_is 4, o_ft 3]),
  (28, [o_il 4, o_al 0, o_getR 11 8, o_il 1, o_iald, o_ic 3 11, o_I 8, o_il 1, o_bin 2, o_il 4, o_bin 0, o_is 5, o_I 0, o_is 6, o_ft 4]),
  (51, [o_il 6, o_al 0, o_getR 11 10, o_il 5, o_iald, o_ic 3 6, o_I 0, o_is 7, o_I 0, o_is 8, o_il 2, o_if 2 5, o_al 0, o_getR 11 76, o_il 2, o_iald, o_if 5 5, o_I 2, o_al 0, o_getR 11 77, o_il 2, o_iald, o_bin 2, o_I 1, o_bin 0, o_is 9, o_al 0, o_getR 11 78, o_il 2, o_iald, o_il 3, o_al 0, o_getR 11 76, o_il 2, o_iald, o_bin 9, o_il 4, o_il 6, o_I 0, o_call 252, o_I 8, o_bin 8, o_il 9, o_bin 10, o_al 0, o_getR 11 77, o_il 2, o_iald, o_bin 1, o_is 7, o_al 0, o_getR 11 78, o_il 2, o_iald, o_il 3, o_al 0, o_getR 11 76, o_il 2, o_iald, o_bin 9, o_il 4, o_il 6, o_I 1, o_call 252, o_I 8, o_bin 8, o_il 9, o_bin 10, o_al 0, o_getR 11 77, o_il 2, o_iald, o_bin 1, o_is 8, o_ft 5]),
  (168, [o_al 0, o_getR 11 27, o_I 10, o_il 4, o_bin 2, o_il 6, o_bin 0, o_al 0, o_getR 11 11, o_I 10, o_il 5, o_bin 2, o_il 6, o_bin 0, o_iald, o_il 7, o_bin 0, o_I 47, o_call 253, o_iast, o_al 0, o_getR 11 28, o_I 10, o_il 4, o_bin 2, o_il 6, o_bin 0, o_al 0, o_getR 11 12, o_I 10, o_il 5, o_bin 2, o_il 6, o_bin 0, o_iald, o_il 8, o_bin 0, o_I 31, o_call 253, o_iast, o_iinc 6 1, o_goto 4]),
  (242, [o_I 10, o_il 4, o_bin 2, o_is 6, o_ft 7]),
  (249, [o_il 6, o_I 10, o_il 4, o_bin 2, o_al 0, o_getR 11 10, o_il 5, o_iald, o_bin 0, o_I 1, o_bin 1, o_ic 3 10, o_al 0, o_getR 11 27, o_il 6, o_iald, o_al 0, o_getR 11 28, o_il 6, o_iald, o_al 0, o_getR 11 27, o_il 6, o_I 1, o_bin 0, o_iald, o_al 0, o_getR 11 28, o_il 6, o_I 1, o_bin 0, o_iald, o_call 239, o_is 7, o_I 0, o_is 8, o_ft 8]),
  (309, [o_il 8, o_il 7, o_ic 4 9, o_al 0, o_al 0, o_getR 11 27, o_il 6, o_iald, o_al 0, o_getR 11 28, o_il 6, o_iald, o_al 0, o_getR 11 27, o_il 6, o_I 1, o_bin 0, o_iald, o_al 0, o_getR 11 28, o_il 6, o_I 1, o_bin 0, o_iald, o_il 8, o_call 242, o_al 0, o_getR 11 29, o_I 48, o_al 0, o_getI 11 17, o_bin 2, o_al 0, o_getI 11 16, o_bin 0, o_al 0, o_getR 11 9, o_il 5, o_iald, o_iast, o_iinc 8 1, o_goto 8]),
  (384, [o_iinc 6 1, o_goto 7]),
  (390, [o_iinc 4 1, o_goto 3]),
  (396, [o_ret 0])]
/-- CartoonHouseModel.hash(IIIII)I -/
def p_252 : ABl := [(0, [o_il 0, o_is 5, o_I 0, o_is 6, o_ft 1]),
  (6, [o_il 6, o_I 4, o_ic 3 6, o_il 6, o_if 1 2, o_il 1, o_goto 5]),
  (21, [o_il 6, o_I 1, o_ic 1 3, o_il 2, o_goto 5]),
  (31, [o_il 6, o_I 2, o_ic 1 4, o_il 3, o_goto 5]),
  (41, [o_il 4, o_ft 5]),
  (43, [o_is 7, o_il 5, o_il 7, o_bin 5, o_I 16777619, o_bin 2, o_is 5, o_il 5, o_il 5, o_I 15, o_bin 8, o_bin 5, o_is 5, o_iinc 6 1, o_goto 1]),
  (72, [o_il 5, o_ret 1])]
/-- CartoonHouseModel.kept(II)I -/
def p_253 : ABl := [(0, [o_il 0, o_if 3 1, o_I 0, o_goto 3]),
  (8, [o_il 0, o_il 1, o_ic 5 2, o_il 1, o_goto 3]),
  (17, [o_il 0, o_ft 3]),
  (18, [o_ret 1])]
/-- CartoonHouseModel.comesFrom(IIII)V -/
def p_254 : ABl := [(0, [o_al 0, o_il 1, o_il 4, o_call 255, o_I 0, o_is 5, o_ft 1]),
  (10, [o_il 5, o_I 1536, o_ic 3 2, o_al 0, o_getR 11 32, o_il 5, o_I 0, o_bast, o_iinc 5 1, o_goto 1]),
  (32, [o_al 0, o_I 0, o_putI 11 36, o_al 0, o_I 0, o_putZ 11 37, o_I 0, o_is 5, o_al 0, o_getR 11 31, o_I 48, o_il 3, o_bin 2, o_il 2, o_bin 0, o_bald, o_if 1 3, o_al 0, o_getR 11 32, o_I 48, o_il 3, o_bin 2, o_il 2, o_bin 0, o_I 1, o_bast, o_al 0, o_getR 11 33, o_I 0, o_I 48, o_il 3, o_bin 2, o_il 2, o_bin 0, o_iast, o_I 1, o_is 5, o_ft 3]),
  (86, [o_il 5, o_if 5 17, o_iinc 5 (-1), o_al 0, o_getR 11 33, o_il 5, o_iald, o_is 6, o_il 6, o_I 48, o_bin 10, o_is 7, o_il 6, o_I 48, o_bin 9, o_is 8, o_al 0, o_dup, o_getI 11 36, o_I 1, o_bin 0, o_putI 11 36, o_al 0, o_al 0, o_getI 11 37, o_if 1 4, o_il 7, o_if 0 4, o_il 7, o_I 47, o_ic 0 4, o_il 8, o_if 0 4, o_il 8, o_I 31, o_ic 1 5, o_ft 4]),
  (159, [o_I 1, o_goto 6]),
  (163, [o_I 0, o_ft 6]),
  (164, [o_putZ 11 37, o_I 0, o_is 9, o_ft 7]),
  (170, [o_il 9, o_I 4, o_ic 3 16, o_il 7, o_il 9, o_if 1 8, o_I (-1), o_goto 10]),
  (187, [o_il 9, o_I 1, o_ic 1 9, o_I 1, o_goto 10]),
  (197, [o_I 0, o_ft 10]),
  (198, [o_bin 0, o_is 10, o_il 8, o_il 9, o_I 2, o_ic 1 11, o_I (-1), o_goto 13]),
  (213, [o_il 9, o_I 3, o_ic 1 12, o_I 1, o_goto 13]),
  (223, [o_I 0, o_ft 13]),
  (224, [o_bin 0, o_is 11, o_il 10, o_il 11, o_call 237, o_if 0 15, o_al 0, o_getR 11 31, o_I 48, o_il 11, o_bin 2, o_il 10, o_bin 0, o_bald, o_if 1 15, o_al 0, o_getR 11 32, o_I 48, o_il 11, o_bin 2, o_il 10, o_bin 0, o_bald, o_if 0 14, o_goto 15]),
  (272, [o_al 0, o_getR 11 32, o_I 48, o_il 11, o_bin 2, o_il 10, o_bin 0, o_I 1, o_bast, o_al 0, o_getR 11 33, o_il 5, o_I 48, o_il 11, o_bin 2, o_il 10, o_bin 0, o_iast, o_iinc 5 1, o_ft 15]),
  (304, [o_iinc 9 1, o_goto 7]),
  (310, [o_goto 3]),
  (313, [o_ret 0])]
/-- CartoonHouseModel.walls(II)V -/
def p_255 : ABl := [(0, [o_I 0, o_is 3, o_ft 1]),
  (2, [o_il 3, o_I 1536, o_ic 3 4, o_al 0, o_getR 11 31, o_il 3, o_al 0, o_getR 11 29, o_il 3, o_iald, o_if 5 2, o_I 1, o_goto 3]),
  (27, [o_I 0, o_ft 3]),
  (28, [o_bast, o_iinc 3 1, o_goto 1]),
  (35, [o_I 0, o_is 3, o_I 0, o_is 4, o_ft 5]),
  (40, [o_il 4, o_al 0, o_getR 11 8, o_il 1, o_iald, o_ic 3 8, o_I 10, o_il 4, o_bin 2, o_is 5, o_I 10, o_il 4, o_bin 2, o_al 0, o_getR 11 10, o_I 8, o_il 1, o_bin 2, o_il 4, o_bin 0, o_iald, o_bin 0, o_I 1, o_bin 1, o_is 6, o_al 0, o_getR 11 27, o_il 5, o_iald, o_al 0, o_getR 11 27, o_il 6, o_iald, o_ic 1 6, o_al 0, o_getR 11 28, o_il 5, o_iald, o_al 0, o_getR 11 28, o_il 6, o_iald, o_ic 1 6, o_goto 7]),
  (117, [o_al 0, o_getR 11 34, o_il 3, o_al 0, o_getR 11 27, o_il 5, o_iald, o_iast, o_al 0, o_getR 11 35, o_il 3, o_al 0, o_getR 11 28, o_il 5, o_iald, o_iast, o_al 0, o_getR 11 34, o_il 3, o_I 1, o_bin 0, o_al 0, o_getR 11 27, o_il 6, o_iald, o_iast, o_al 0, o_getR 11 35, o_il 3, o_I 1, o_bin 0, o_al 0, o_getR 11 28, o_il 6, o_iald, o_iast, o_iinc 3 2, o_ft 7]),
  (176, [o_iinc 4 1, o_goto 5]),
  (182, [o_I 0, o_is 4, o_ft 9]),
  (185, [o_il 4, o_il 3, o_ic 3 15, o_il 4, o_I 1, o_bin 0, o_is 5, o_ft 10]),
  (197, [o_il 5, o_il 3, o_ic 3 14, o_al 0, o_getR 11 34, o_il 5, o_iald, o_al 0, o_getR 11 34, o_il 4, o_iald, o_bin 1, o_is 6, o_al 0, o_getR 11 35, o_il 5, o_iald, o_al 0, o_getR 11 35, o_il 4, o_iald, o_bin 1, o_is 7, o_il 6, o_il 6, o_bin 2, o_il 7, o_il 7, o_bin 2, o_bin 0, o_is 8, o_il 8, o_if 0 13, o_il 8, o_il 2, o_il 2, o_bin 2, o_ic 5 11, o_goto 13]),
  (266, [o_al 0, o_getR 11 34, o_il 4, o_iald, o_al 0, o_getR 11 35, o_il 4, o_iald, o_al 0, o_getR 11 34, o_il 5, o_iald, o_al 0, o_getR 11 35, o_il 5, o_iald, o_call 239, o_is 9, o_I 0, o_is 10, o_ft 12]),
  (302, [o_il 10, o_il 9, o_ic 4 13, o_al 0, o_al 0, o_getR 11 34, o_il 4, o_iald, o_al 0, o_getR 11 35, o_il 4, o_iald, o_al 0, o_getR 11 34, o_il 5, o_iald, o_al 0, o_getR 11 35, o_il 5, o_iald, o_il 10, o_call 242, o_al 0, o_getR 11 31, o_I 48, o_al 0, o_getI 11 17, o_bin 2, o_al 0, o_getI 11 16, o_bin 0, o_I 1, o_bast, o_iinc 10 1, o_goto 12]),
  (367, [o_iinc 5 1, o_goto 10]),
  (373, [o_iinc 4 1, o_goto 9]),
  (379, [o_ret 0])]
/-- CartoonHouseModel.unfill(II)I -/
def p_256 : ABl := [(0, [o_al 0, o_il 1, o_il 2, o_call 257, o_if 1 1, o_I (-1), o_ret 1]),
  (11, [o_il 2, o_is 3, o_ft 2]),
  (13, [o_il 3, o_al 0, o_getR 11 22, o_il 1, o_iald, o_I 1, o_bin 1, o_ic 3 3, o_al 0, o_I 6, o_il 1, o_bin 2, o_il 3, o_bin 0, o_I 1, o_bin 0, o_I 6, o_il 1, o_bin 2, o_il 3, o_bin 0, o_call 258, o_iinc 3 1, o_goto 2]),
  (49, [o_al 0, o_getR 11 22, o_il 1, o_dup2, o_iald, o_I 1, o_bin 1, o_iast, o_al 0, o_getR 11 22, o_il 1, o_iald, o_ret 1])]
/-- CartoonHouseModel.isFill(II)Z -/
def p_257 : ABl := [(0, [o_il 1, o_call 218, o_if 0 1, o_il 2, o_I 0, o_al 0, o_getR 11 22, o_il 1, o_iald, o_I 1, o_bin 1, o_call 219, o_if 0 1, o_I 1, o_goto 2]),
  (27, [o_I 0, o_ft 2]),
  (28, [o_ret 1])]
/-- CartoonHouseModel.copiesFill(II)V -/
def p_258 : ABl := [(0, [o_al 0, o_getR 11 23, o_il 2, o_al 0, o_getR 11 23, o_il 1, o_iald, o_iast, o_al 0, o_getR 11 24, o_il 2, o_al 0, o_getR 11 24, o_il 1, o_iald, o_iast, o_al 0, o_getR 11 25, o_il 2, o_al 0, o_getR 11 25, o_il 1, o_iald, o_iast, o_al 0, o_getR 11 26, o_il 2, o_al 0, o_getR 11 26, o_il 1, o_iald, o_iast, o_ret 0])]
/-- CartoonHouseModel.region(II)I -/
def p_259 : ABl := [(0, [o_al 0, o_il 1, o_il 2, o_call 257, o_if 1 1, o_I (-1), o_ret 1]),
  (11, [o_I 6, o_il 1, o_bin 2, o_il 2, o_bin 0, o_is 3, o_al 0, o_il 1, o_I (-1), o_I 0, o_call 251, o_al 0, o_il 1, o_al 0, o_getR 11 23, o_il 3, o_iald, o_al 0, o_getR 11 24, o_il 3, o_iald, o_al 0, o_getR 11 25, o_il 3, o_iald, o_call 254, o_al 0, o_getI 11 37, o_if 0 2, o_I (-5), o_goto 3]),
  (60, [o_al 0, o_getI 11 36, o_ft 3]),
  (64, [o_ret 1])]
/-- CartoonHouseModel.paint(III)I -/
def p_260 : ABl := [(0, [o_il 1, o_call 218, o_if 0 1, o_il 2, o_il 3, o_call 237, o_if 1 2, o_ft 1]),
  (15, [o_I (-1), o_ret 1]),
  (17, [o_al 0, o_il 1, o_I (-1), o_I 0, o_call 261, o_al 0, o_getR 11 30, o_I 48, o_il 3, o_bin 2, o_il 2, o_bin 0, o_iald, o_ret 1])]
/-- CartoonHouseModel.paints(III)V -/
def p_261 : ABl := [(0, [o_al 0, o_il 1, o_il 2, o_il 3, o_call 251, o_I 0, o_is 4, o_ft 1]),
  (10, [o_il 4, o_I 1536, o_ic 3 2, o_al 0, o_getR 11 30, o_il 4, o_al 0, o_getR 11 29, o_il 4, o_iald, o_iast, o_iinc 4 1, o_goto 1]),
  (38, [o_I 6, o_il 1, o_bin 2, o_is 4, o_ft 3]),
  (44, [o_il 4, o_I 6, o_il 1, o_bin 2, o_al 0, o_getR 11 22, o_il 1, o_iald, o_bin 0, o_ic 3 7, o_al 0, o_il 1, o_al 0, o_getR 11 23, o_il 4, o_iald, o_al 0, o_getR 11 24, o_il 4, o_iald, o_al 0, o_getR 11 25, o_il 4, o_iald, o_call 254, o_I 0, o_is 5, o_ft 4]),
  (89, [o_il 5, o_I 1536, o_ic 3 6, o_al 0, o_getI 11 37, o_if 1 6, o_al 0, o_getR 11 32, o_il 5, o_bald, o_if 0 5, o_al 0, o_getR 11 29, o_il 5, o_iald, o_if 1 5, o_al 0, o_getR 11 30, o_il 5, o_al 0, o_getR 11 26, o_il 4, o_iald, o_iast, o_ft 5]),
  (138, [o_iinc 5 1, o_goto 4]),
  (144, [o_iinc 4 1, o_goto 3]),
  (150, [o_ret 0])]
/-- CartoonHouseModel.colour(III)I -/
def p_262 : ABl := [(0, [o_il 1, o_I 0, o_I 3, o_call 219, o_if 0 1, o_il 2, o_I 1, o_I 15, o_call 219, o_if 0 1, o_il 3, o_I 0, o_I 16777215, o_call 219, o_if 1 2, o_ft 1]),
  (30, [o_I (-1), o_ret 1]),
  (32, [o_al 0, o_getR 11 38, o_I 16, o_il 1, o_bin 2, o_il 2, o_bin 0, o_iald, o_is 4, o_al 0, o_getR 11 38, o_I 16, o_il 1, o_bin 2, o_il 2, o_bin 0, o_il 3, o_iast, o_il 4, o_ret 1])]
/-- CartoonHouseModel.sheet(I)I -/
def p_263 : ABl := [(0, [o_al 0, o_call 217, o_il 1, o_call 264, o_if 1 1, o_I (-1), o_ret 1]),
  (13, [o_al 0, o_I 0, o_putI 11 42, o_al 0, o_getI 11 3, o_if 5 2, o_I 1, o_goto 3]),
  (29, [o_I 0, o_ft 3]),
  (30, [o_is 2, o_ft 4]),
  (31, [o_al 0, o_call 221, o_if 0 9, o_il 2, o_if 0 9, o_al 0, o_I 40, o_call 265, o_if 0 5, o_al 0, o_call 266, o_goto 6]),
  (58, [o_al 0, o_call 267, o_ft 6]),
  (62, [o_al 0, o_getI 11 4, o_al 0, o_getI 11 3, o_ic 3 7, o_I 1, o_goto 8]),
  (77, [o_I 0, o_ft 8]),
  (78, [o_is 2, o_il 2, o_if 0 4, o_al 0, o_I 32, o_call 225, o_goto 4]),
  (92, [o_al 0, o_call 221, o_if 1 10, o_al 0, o_call 226, o_ret 1]),
  (104, [o_al 0, o_getR 11 40, o_il 1, o_al 0, o_getI 11 42, o_iast, o_I 0, o_is 3, o_ft 11]),
  (116, [o_il 3, o_al 0, o_getI 11 42, o_ic 3 12, o_al 0, o_getR 11 39, o_I 120, o_il 1, o_bin 2, o_il 3, o_bin 0, o_al 0, o_getR 11 41, o_il 3, o_iald, o_iast, o_iinc 3 1, o_goto 11]),
  (147, [o_al 0, o_getI 11 42, o_ret 1])]
/-- CartoonHouseModel.isLayer(I)Z -/
def p_264 : ABl := [(0, [o_il 0, o_I 0, o_I 3, o_call 219, o_ret 1])]
/-- CartoonHouseModel.isNext(I)Z -/
def p_265 : ABl := [(0, [o_al 0, o_call 221, o_if 0 1, o_al 0, o_call 222, o_il 1, o_ic 1 1, o_I 1, o_goto 2]),
  (19, [o_I 0, o_ft 2]),
  (20, [o_ret 1])]
/-- CartoonHouseModel.bracket()V -/
def p_266 : ABl := [(0, [o_al 0, o_getI 11 4, o_is 1, o_al 0, o_getI 11 42, o_is 2, o_al 0, o_I 40, o_call 225, o_al 0, o_call 267, o_ft 1]),
  (20, [o_al 0, o_I 32, o_call 265, o_if 0 2, o_al 0, o_dup, o_getI 11 4, o_I 1, o_bin 0, o_putI 11 4, o_al 0, o_call 267, o_goto 1]),
  (46, [o_al 0, o_I 41, o_call 225, o_al 0, o_I 42, o_call 225, o_al 0, o_I 0, o_I 1, o_I 20, o_call 220, o_is 3, o_al 0, o_getI 11 42, o_il 2, o_bin 1, o_is 4, o_al 0, o_call 221, o_if 0 3, o_il 2, o_il 3, o_il 4, o_bin 2, o_bin 0, o_I 120, o_ic 5 3, o_al 0, o_il 1, o_call 224, o_ft 3]),
  (98, [o_il 4, o_is 5, o_ft 4]),
  (102, [o_il 5, o_il 3, o_il 4, o_bin 2, o_ic 3 5, o_al 0, o_call 221, o_if 0 5, o_al 0, o_getR 11 41, o_al 0, o_getI 11 42, o_al 0, o_getR 11 41, o_il 2, o_il 5, o_il 4, o_bin 10, o_bin 0, o_iald, o_iast, o_al 0, o_dup, o_getI 11 42, o_I 1, o_bin 0, o_putI 11 42, o_iinc 5 1, o_goto 4]),
  (155, [o_ret 0])]
/-- CartoonHouseModel.item()V -/
def p_267 : ABl := [(0, [o_al 0, o_call 221, o_if 1 1, o_ret 0]),
  (8, [o_al 0, o_getI 11 4, o_is 1, o_I (-1), o_is 2, o_al 0, o_call 222, o_I 45, o_ic 1 2, o_al 0, o_dup, o_getI 11 4, o_I 1, o_bin 0, o_putI 11 4, o_goto 3]),
  (37, [o_al 0, o_I 0, o_I 0, o_I 15, o_call 220, o_is 2, o_ft 3]),
  (46, [o_I 1, o_is 3, o_al 0, o_I 42, o_call 265, o_if 0 4, o_al 0, o_dup, o_getI 11 4, o_I 1, o_bin 0, o_putI 11 4, o_al 0, o_I 0, o_I 1, o_I 99, o_call 220, o_is 3, o_ft 4]),
  (76, [o_al 0, o_call 221, o_if 0 5, o_al 0, o_getI 11 42, o_il 3, o_bin 0, o_I 120, o_ic 5 5, o_al 0, o_il 1, o_call 224, o_ft 5]),
  (99, [o_I 0, o_is 4, o_ft 6]),
  (102, [o_il 4, o_il 3, o_ic 3 7, o_al 0, o_call 221, o_if 0 7, o_al 0, o_getR 11 41, o_al 0, o_getI 11 42, o_il 2, o_iast, o_al 0, o_dup, o_getI 11 42, o_I 1, o_bin 0, o_putI 11 42, o_iinc 4 1, o_goto 6]),
  (141, [o_ret 0])]
/-- CartoonHouseModel.shown(II)I -/
def p_268 : ABl := [(0, [o_il 1, o_call 264, o_if 0 1, o_il 2, o_I 0, o_al 0, o_getR 11 40, o_il 1, o_iald, o_I 1, o_bin 1, o_call 219, o_if 1 2, o_ft 1]),
  (23, [o_I (-1), o_ret 1]),
  (25, [o_al 0, o_getR 11 39, o_I 120, o_il 1, o_bin 2, o_il 2, o_bin 0, o_iald, o_ret 1])]
/-- CartoonHouseModel.stretch(III)I -/
def p_269 : ABl := [(0, [o_il 1, o_call 264, o_if 0 1, o_il 2, o_I 1, o_I 20, o_call 219, o_if 0 1, o_il 3, o_I 1, o_I 20, o_call 219, o_if 1 2, o_ft 1]),
  (27, [o_I (-1), o_ret 1]),
  (29, [o_al 0, o_getR 11 40, o_il 1, o_iald, o_il 2, o_bin 2, o_il 3, o_bin 9, o_is 4, o_il 4, o_I 120, o_ic 5 3, o_I (-4), o_ret 1]),
  (51, [o_I 0, o_is 5, o_ft 4]),
  (54, [o_il 5, o_il 4, o_ic 3 5, o_al 0, o_getR 11 41, o_il 5, o_al 0, o_getR 11 39, o_I 120, o_il 1, o_bin 2, o_il 5, o_il 3, o_bin 2, o_il 2, o_bin 9, o_bin 0, o_iald, o_iast, o_iinc 5 1, o_goto 4]),
  (90, [o_I 0, o_is 5, o_ft 6]),
  (93, [o_il 5, o_il 4, o_ic 3 7, o_al 0, o_getR 11 39, o_I 120, o_il 1, o_bin 2, o_il 5, o_bin 0, o_al 0, o_getR 11 41, o_il 5, o_iald, o_iast, o_iinc 5 1, o_goto 6]),
  (125, [o_al 0, o_getR 11 40, o_il 1, o_il 4, o_iast, o_il 4, o_ret 1])]
/-- CartoonHouseModel.told(I)I -/
def p_270 : ABl := [(0, [o_il 1, o_call 264, o_if 1 1, o_I (-1), o_ret 1]),
  (9, [o_al 0, o_I 0, o_putI 11 7, o_I 0, o_is 2, o_ft 2]),
  (16, [o_il 2, o_al 0, o_getR 11 40, o_il 1, o_iald, o_ic 3 9, o_al 0, o_getR 11 39, o_I 120, o_il 1, o_bin 2, o_il 2, o_bin 0, o_iald, o_is 3, o_I 1, o_is 4, o_ft 3]),
  (41, [o_il 4, o_I 99, o_ic 3 4, o_il 2, o_il 4, o_bin 0, o_al 0, o_getR 11 40, o_il 1, o_iald, o_ic 3 4, o_al 0, o_getR 11 39, o_I 120, o_il 1, o_bin 2, o_il 2, o_bin 0, o_il 4, o_bin 0, o_iald, o_il 3, o_ic 1 4, o_iinc 4 1, o_goto 3]),
  (85, [o_il 2, o_if 5 5, o_al 0, o_I 32, o_call 233, o_ft 5]),
  (95, [o_il 3, o_if 3 6, o_al 0, o_I 45, o_call 233, o_goto 7]),
  (108, [o_al 0, o_il 3, o_call 232, o_ft 7]),
  (113, [o_il 4, o_I 1, o_ic 5 8, o_al 0, o_I 42, o_call 233, o_al 0, o_il 4, o_call 232, o_ft 8]),
  (131, [o_il 2, o_il 4, o_bin 0, o_is 2, o_goto 2]),
  (139, [o_al 0, o_getI 11 7, o_ret 1])]
/-- CartoonHouseModel.mark(II)I -/
def p_271 : ABl := [(0, [o_il 1, o_I 0, o_I 7, o_call 219, o_if 0 1, o_il 2, o_I 0, o_I 7, o_call 219, o_if 1 2, o_ft 1]),
  (20, [o_I (-1), o_ret 1]),
  (22, [o_I 0, o_is 3, o_ft 3]),
  (24, [o_il 3, o_al 0, o_getI 11 45, o_ic 3 6, o_al 0, o_getR 11 43, o_il 3, o_iald, o_il 1, o_ic 0 4, o_al 0, o_getR 11 44, o_il 3, o_iald, o_il 2, o_ic 1 5, o_ft 4]),
  (52, [o_I (-3), o_ret 1]),
  (55, [o_iinc 3 1, o_goto 3]),
  (61, [o_al 0, o_getI 11 45, o_I 4, o_ic 1 7, o_I (-4), o_ret 1]),
  (72, [o_al 0, o_getR 11 43, o_al 0, o_getI 11 45, o_il 1, o_iast, o_al 0, o_getR 11 44, o_al 0, o_getI 11 45, o_il 2, o_iast, o_al 0, o_dup, o_getI 11 45, o_I 1, o_bin 0, o_putI 11 45, o_al 0, o_getI 11 45, o_ret 1])]
/-- CartoonHouseModel.unmark()I -/
def p_272 : ABl := [(0, [o_al 0, o_getI 11 45, o_is 1, o_al 0, o_I 0, o_putI 11 45, o_il 1, o_ret 1])]
/-- CartoonHouseModel.match(II)I -/
def p_273 : ABl := [(0, [o_il 1, o_call 218, o_if 0 1, o_il 2, o_call 218, o_if 1 2, o_ft 1]),
  (14, [o_I (-1), o_ret 1]),
  (16, [o_al 0, o_il 1, o_il 2, o_call 274, o_is 3, o_al 0, o_al 0, o_getR 11 8, o_il 1, o_iald, o_putI 11 49, o_I 0, o_is 4, o_ft 3]),
  (36, [o_il 4, o_al 0, o_getI 11 49, o_ic 3 4, o_al 0, o_getR 11 47, o_il 4, o_al 0, o_getR 11 48, o_il 4, o_iald, o_iast, o_iinc 4 1, o_goto 3]),
  (65, [o_il 3, o_ret 1])]
/-- CartoonHouseModel.best(II)I -/
def p_274 : ABl := [(0, [o_al 0, o_getR 11 8, o_il 1, o_iald, o_is 3, o_I 0, o_is 4, o_ft 1]),
  (10, [o_il 4, o_I 256, o_ic 3 6, o_I 0, o_is 5, o_I 0, o_is 6, o_ft 2]),
  (24, [o_il 6, o_al 0, o_getR 11 8, o_il 2, o_iald, o_ic 3 5, o_il 5, o_il 4, o_il 6, o_bin 7, o_I 1, o_bin 3, o_if 1 3, o_I 1, o_goto 4]),
  (51, [o_I 0, o_ft 4]),
  (52, [o_bin 0, o_is 5, o_iinc 6 1, o_goto 2]),
  (61, [o_al 0, o_getR 11 46, o_I 256, o_il 3, o_bin 2, o_il 4, o_bin 0, o_I 400, o_il 5, o_bin 2, o_iast, o_iinc 4 1, o_goto 1]),
  (86, [o_il 3, o_I 1, o_bin 1, o_is 4, o_ft 7]),
  (91, [o_il 4, o_if 2 16, o_I 0, o_is 5, o_ft 8]),
  (99, [o_il 5, o_I 256, o_ic 3 15, o_I 1000000, o_is 6, o_I 0, o_is 7, o_ft 9]),
  (115, [o_il 7, o_I 9, o_ic 3 14, o_al 0, o_il 2, o_il 7, o_il 5, o_call 275, o_if 0 13, o_al 0, o_il 1, o_il 2, o_il 4, o_il 7, o_call 276, o_if 1 10, o_goto 13]),
  (150, [o_al 0, o_il 1, o_il 2, o_il 4, o_il 7, o_il 5, o_call 277, o_is 8, o_il 8, o_il 6, o_ic 3 11, o_il 8, o_goto 12]),
  (176, [o_il 6, o_ft 12]),
  (178, [o_is 6, o_ft 13]),
  (180, [o_iinc 7 1, o_goto 9]),
  (186, [o_al 0, o_getR 11 46, o_I 256, o_il 4, o_bin 2, o_il 5, o_bin 0, o_il 6, o_iast, o_iinc 5 1, o_goto 8]),
  (208, [o_iinc 4 (-1), o_goto 7]),
  (214, [o_I 0, o_is 4, o_I 0, o_is 5, o_ft 17]),
  (220, [o_il 5, o_il 3, o_ic 3 25, o_I (-1), o_is 6, o_I 8, o_is 7, o_ft 18]),
  (233, [o_il 7, o_if 2 22, o_al 0, o_il 2, o_il 7, o_il 4, o_call 275, o_if 0 19, o_al 0, o_il 1, o_il 2, o_il 5, o_il 7, o_call 276, o_if 0 19, o_I 1, o_goto 20]),
  (267, [o_I 0, o_ft 20]),
  (268, [o_is 8, o_il 8, o_if 0 21, o_al 0, o_il 1, o_il 2, o_il 5, o_il 7, o_il 4, o_call 277, o_al 0, o_getR 11 46, o_I 256, o_il 5, o_bin 2, o_il 4, o_bin 0, o_iald, o_ic 1 21, o_il 7, o_is 6, o_ft 21]),
  (308, [o_iinc 7 (-1), o_goto 18]),
  (314, [o_al 0, o_getR 11 48, o_il 5, o_il 6, o_iast, o_il 6, o_I 8, o_ic 3 23, o_il 4, o_I 1, o_il 6, o_bin 6, o_bin 4, o_goto 24]),
  (340, [o_il 4, o_ft 24]),
  (342, [o_is 4, o_iinc 5 1, o_goto 17]),
  (350, [o_al 0, o_getR 11 46, o_I 0, o_iald, o_ret 1])]
/-- CartoonHouseModel.isFree(III)Z -/
def p_275 : ABl := [(0, [o_il 2, o_I 8, o_ic 0 1, o_il 2, o_al 0, o_getR 11 8, o_il 1, o_iald, o_ic 3 2, o_il 3, o_il 2, o_bin 7, o_I 1, o_bin 3, o_if 1 2, o_ft 1]),
  (24, [o_I 1, o_goto 3]),
  (28, [o_I 0, o_ft 3]),
  (29, [o_ret 1])]
/-- CartoonHouseModel.mayPair(IIII)Z -/
def p_276 : ABl := [(0, [o_I 1, o_is 5, o_I 0, o_is 6, o_ft 1]),
  (6, [o_il 6, o_al 0, o_getI 11 45, o_ic 3 10, o_al 0, o_getR 11 43, o_il 6, o_iald, o_al 0, o_getR 11 8, o_il 1, o_iald, o_ic 3 9, o_al 0, o_getR 11 44, o_il 6, o_iald, o_al 0, o_getR 11 8, o_il 2, o_iald, o_ic 2 2, o_goto 9]),
  (50, [o_il 5, o_if 0 7, o_al 0, o_getR 11 43, o_il 6, o_iald, o_il 3, o_ic 1 3, o_I 1, o_goto 4]),
  (70, [o_I 0, o_ft 4]),
  (71, [o_al 0, o_getR 11 44, o_il 6, o_iald, o_il 4, o_ic 1 5, o_I 1, o_goto 6]),
  (87, [o_I 0, o_ft 6]),
  (88, [o_ic 1 7, o_I 1, o_goto 8]),
  (95, [o_I 0, o_ft 8]),
  (96, [o_is 5, o_ft 9]),
  (98, [o_iinc 6 1, o_goto 1]),
  (104, [o_il 5, o_ret 1])]
/-- CartoonHouseModel.withPair(IIIII)I -/
def p_277 : ABl := [(0, [o_il 4, o_I 8, o_ic 1 1, o_I 400, o_al 0, o_getR 11 46, o_I 256, o_il 3, o_I 1, o_bin 0, o_bin 2, o_il 5, o_bin 0, o_iald, o_bin 0, o_goto 2]),
  (29, [o_al 0, o_I 8, o_il 1, o_bin 2, o_il 3, o_bin 0, o_I 8, o_il 2, o_bin 2, o_il 4, o_bin 0, o_call 278, o_al 0, o_getR 11 46, o_I 256, o_il 3, o_I 1, o_bin 0, o_bin 2, o_il 5, o_I 1, o_il 4, o_bin 6, o_bin 4, o_bin 0, o_iald, o_bin 0, o_ft 2]),
  (67, [o_ret 1])]
/-- CartoonHouseModel.cost(II)I -/
def p_278 : ABl := [(0, [o_al 0, o_getR 11 11, o_I 10, o_il 2, o_bin 2, o_iald, o_al 0, o_getR 11 11, o_I 10, o_il 1, o_bin 2, o_iald, o_bin 1, o_is 3, o_al 0, o_getR 11 12, o_I 10, o_il 2, o_bin 2, o_iald, o_al 0, o_getR 11 12, o_I 10, o_il 1, o_bin 2, o_iald, o_bin 1, o_is 4, o_I 10, o_il 1, o_bin 2, o_al 0, o_getR 11 10, o_il 1, o_iald, o_bin 0, o_I 1, o_bin 1, o_is 5, o_I 10, o_il 2, o_bin 2, o_al 0, o_getR 11 10, o_il 2, o_iald, o_bin 0, o_I 1, o_bin 1, o_is 6, o_al 0, o_getR 11 11, o_il 6, o_iald, o_al 0, o_getR 11 11, o_il 5, o_iald, o_bin 1, o_is 7, o_al 0, o_getR 11 12, o_il 6, o_iald, o_al 0, o_getR 11 12, o_il 5, o_iald, o_bin 1, o_is 8, o_il 3, o_il 3, o_bin 2, o_il 4, o_il 4, o_bin 2, o_bin 0, o_il 7, o_il 7, o_bin 2, o_bin 0, o_il 8, o_il 8, o_bin 2, o_bin 0, o_al 0, o_getR 11 9, o_il 1, o_iald, o_al 0, o_getR 11 9, o_il 2, o_iald, o_ic 1 1, o_I 0, o_goto 2]),
  (145, [o_I 100, o_ft 2]),
  (147, [o_bin 0, o_ret 1])]
/-- CartoonHouseModel.partner(I)I -/
def p_279 : ABl := [(0, [o_il 1, o_I 0, o_al 0, o_getI 11 49, o_I 1, o_bin 1, o_call 219, o_if 0 1, o_al 0, o_getR 11 47, o_il 1, o_iald, o_I 8, o_ic 3 1, o_al 0, o_getR 11 47, o_il 1, o_iald, o_goto 2]),
  (34, [o_I (-1), o_ft 2]),
  (35, [o_ret 1])]
/-- CartoonHouseModel.tween(IIIII)I -/
def p_280 : ABl := [(0, [o_il 1, o_call 218, o_if 0 1, o_il 2, o_call 218, o_if 0 1, o_il 4, o_I 1, o_I 24, o_call 219, o_if 0 1, o_il 3, o_I 0, o_il 4, o_call 219, o_if 0 1, o_il 5, o_call 218, o_if 0 1, o_il 5, o_il 1, o_ic 0 1, o_il 5, o_il 2, o_ic 1 2, o_ft 1]),
  (55, [o_I (-1), o_ret 1]),
  (57, [o_I 2, o_il 3, o_bin 2, o_il 4, o_ic 3 3, o_I 1, o_goto 4]),
  (69, [o_I 0, o_ft 4]),
  (70, [o_is 6, o_I 0, o_is 7, o_al 0, o_il 1, o_il 2, o_call 274, o_is 8, o_il 3, o_if 0 5, o_il 3, o_il 4, o_ic 1 6, o_ft 5]),
  (93, [o_I 1, o_goto 7]),
  (97, [o_I 0, o_ft 7]),
  (98, [o_is 9, o_il 3, o_if 1 8, o_il 1, o_goto 9]),
  (108, [o_il 2, o_ft 9]),
  (109, [o_is 10, o_I 0, o_is 11, o_ft 10]),
  (114, [o_il 9, o_if 0 11, o_il 11, o_al 0, o_getR 11 8, o_il 10, o_iald, o_ic 3 11, o_al 0, o_I 8, o_il 10, o_bin 2, o_il 11, o_bin 0, o_I 8, o_il 5, o_bin 2, o_il 7, o_bin 0, o_call 230, o_iinc 7 1, o_iinc 11 1, o_goto 10]),
  (160, [o_I 0, o_is 11, o_ft 12]),
  (163, [o_il 9, o_if 1 21, o_il 11, o_al 0, o_getR 11 8, o_il 1, o_iald, o_ic 3 21, o_I 8, o_il 1, o_bin 2, o_il 11, o_bin 0, o_is 12, o_al 0, o_getR 11 48, o_il 11, o_iald, o_I 8, o_ic 1 16, o_il 6, o_if 0 13, o_al 0, o_il 12, o_I 8, o_il 5, o_bin 2, o_il 7, o_bin 0, o_call 230, o_ft 13]),
  (219, [o_il 7, o_il 6, o_if 0 14, o_I 1, o_goto 15]),
  (230, [o_I 0, o_ft 15]),
  (231, [o_bin 0, o_is 7, o_goto 20]),
  (237, [o_I 8, o_il 2, o_bin 2, o_al 0, o_getR 11 48, o_il 11, o_iald, o_bin 0, o_is 13, o_al 0, o_il 12, o_il 13, o_il 3, o_il 4, o_call 281, o_al 0, o_getI 11 15, o_I 2, o_ic 3 17, o_goto 20]),
  (273, [o_al 0, o_il 5, o_il 7, o_il 6, o_if 0 18, o_al 0, o_getR 11 9, o_il 12, o_iald, o_goto 19]),
  (293, [o_al 0, o_getR 11 9, o_il 13, o_iald, o_ft 19]),
  (300, [o_call 227, o_iinc 7 1, o_ft 20]),
  (306, [o_iinc 11 1, o_goto 12]),
  (312, [o_I 0, o_is 11, o_ft 22]),
  (315, [o_il 9, o_if 1 30, o_il 6, o_if 1 30, o_il 11, o_al 0, o_getR 11 8, o_il 2, o_iald, o_ic 3 30, o_I 0, o_is 12, o_I 0, o_is 13, o_ft 23]),
  (342, [o_il 13, o_al 0, o_getR 11 8, o_il 1, o_iald, o_ic 3 27, o_il 12, o_if 1 24, o_al 0, o_getR 11 48, o_il 13, o_iald, o_il 11, o_ic 1 25, o_ft 24]),
  (370, [o_I 1, o_goto 26]),
  (374, [o_I 0, o_ft 26]),
  (375, [o_is 12, o_iinc 13 1, o_goto 23]),
  (383, [o_il 12, o_if 0 28, o_goto 29]),
  (391, [o_al 0, o_I 8, o_il 2, o_bin 2, o_il 11, o_bin 0, o_I 8, o_il 5, o_bin 2, o_il 7, o_bin 0, o_call 230, o_iinc 7 1, o_ft 29]),
  (413, [o_iinc 11 1, o_goto 22]),
  (419, [o_al 0, o_getR 11 8, o_il 5, o_il 7, o_iast, o_il 6, o_if 0 31, o_il 1, o_goto 32]),
  (437, [o_il 2, o_ft 32]),
  (438, [o_is 11, o_al 0, o_getR 11 22, o_il 5, o_al 0, o_getR 11 22, o_il 11, o_iald, o_iast, o_I 0, o_is 12, o_ft 33]),
  (457, [o_il 12, o_al 0, o_getR 11 22, o_il 11, o_iald, o_ic 3 34, o_al 0, o_I 6, o_il 11, o_bin 2, o_il 12, o_bin 0, o_I 6, o_il 5, o_bin 2, o_il 12, o_bin 0, o_call 258, o_iinc 12 1, o_goto 33]),
  (495, [o_il 8, o_if 3 35, o_I (-1), o_goto 36]),
  (504, [o_il 7, o_ft 36]),
  (506, [o_ret 1])]
/-- CartoonHouseModel.halfway(IIII)V -/
def p_281 : ABl := [(0, [o_al 0, o_getR 11 10, o_il 1, o_iald, o_al 0, o_getR 11 10, o_il 2, o_iald, o_call 241, o_is 5, o_al 0, o_I 0, o_putI 11 15, o_I 0, o_is 6, o_ft 1]),
  (25, [o_il 6, o_il 5, o_ic 3 10, o_I 0, o_is 7, o_I 0, o_is 8, o_I 0, o_is 9, o_ft 2]),
  (41, [o_il 9, o_I 2, o_ic 3 7, o_al 0, o_il 1, o_il 6, o_il 5, o_il 9, o_call 282, o_lst 10, o_al 0, o_il 2, o_il 6, o_il 5, o_il 9, o_call 282, o_lst 12, o_ll 10, o_il 4, o_un 1, o_binL 2, o_ll 12, o_ll 10, o_binL 1, o_il 3, o_un 1, o_binL 2, o_binL 0, o_il 5, o_I 1, o_bin 1, o_un 1, o_il 4, o_un 1, o_binL 2, o_call 243, o_is 14, o_il 9, o_if 1 3, o_il 14, o_goto 4]),
  (112, [o_il 7, o_ft 4]),
  (114, [o_is 7, o_il 9, o_if 1 5, o_il 8, o_goto 6]),
  (126, [o_il 14, o_ft 6]),
  (128, [o_is 8, o_iinc 9 1, o_goto 2]),
  (136, [o_al 0, o_getI 11 15, o_if 5 8, o_al 0, o_getR 11 13, o_al 0, o_getI 11 15, o_I 1, o_bin 1, o_iald, o_il 7, o_ic 1 8, o_al 0, o_getR 11 14, o_al 0, o_getI 11 15, o_I 1, o_bin 1, o_iald, o_il 8, o_ic 1 8, o_goto 9]),
  (178, [o_al 0, o_getR 11 13, o_al 0, o_getI 11 15, o_il 7, o_iast, o_al 0, o_getR 11 14, o_al 0, o_getI 11 15, o_il 8, o_iast, o_al 0, o_dup, o_getI 11 15, o_I 1, o_bin 0, o_putI 11 15, o_ft 9]),
  (210, [o_iinc 6 1, o_goto 1]),
  (216, [o_ret 0])]
/-- CartoonHouseModel.part(IIII)J -/
def p_282 : ABl := [(0, [o_il 2, o_al 0, o_getR 11 10, o_il 1, o_iald, o_I 1, o_bin 1, o_bin 2, o_il 3, o_I 1, o_bin 1, o_bin 9, o_is 5, o_il 2, o_al 0, o_getR 11 10, o_il 1, o_iald, o_I 1, o_bin 1, o_bin 2, o_il 3, o_I 1, o_bin 1, o_bin 10, o_is 6, o_il 4, o_if 1 1, o_al 0, o_getR 11 11, o_I 10, o_il 1, o_bin 2, o_il 5, o_bin 0, o_iald, o_goto 2]),
  (52, [o_al 0, o_getR 11 12, o_I 10, o_il 1, o_bin 2, o_il 5, o_bin 0, o_iald, o_ft 2]),
  (64, [o_is 7, o_il 6, o_if 1 3, o_il 7, o_goto 5]),
  (76, [o_il 4, o_if 1 4, o_al 0, o_getR 11 11, o_I 10, o_il 1, o_bin 2, o_il 5, o_bin 0, o_I 1, o_bin 0, o_iald, o_goto 5]),
  (98, [o_al 0, o_getR 11 12, o_I 10, o_il 1, o_bin 2, o_il 5, o_bin 0, o_I 1, o_bin 0, o_iald, o_ft 5]),
  (112, [o_is 8, o_il 7, o_un 1, o_il 3, o_I 1, o_bin 1, o_un 1, o_binL 2, o_il 8, o_il 7, o_bin 1, o_un 1, o_il 6, o_un 1, o_binL 2, o_binL 0, o_ret 2])]
/-- CartoonHouseModel.bone(IIII)I -/
def p_283 : ABl := [(0, [o_al 0, o_getI 11 50, o_if 1 2, o_il 1, o_I (-1), o_ic 1 1, o_I 1, o_goto 3]),
  (16, [o_I 0, o_goto 3]),
  (20, [o_il 1, o_I 0, o_al 0, o_getI 11 50, o_I 1, o_bin 1, o_call 219, o_ft 3]),
  (31, [o_is 5, o_il 5, o_if 0 4, o_il 2, o_I 0, o_I 40, o_call 219, o_if 0 4, o_il 3, o_I 0, o_I 31, o_call 219, o_if 0 4, o_il 4, o_il 3, o_I 31, o_call 219, o_if 1 5, o_ft 4]),
  (69, [o_I (-1), o_ret 1]),
  (71, [o_al 0, o_getI 11 50, o_I 10, o_ic 1 6, o_I (-4), o_ret 1]),
  (83, [o_al 0, o_getR 11 53, o_al 0, o_getI 11 50, o_il 1, o_iast, o_al 0, o_getR 11 54, o_al 0, o_getI 11 50, o_il 2, o_iast, o_al 0, o_getR 11 55, o_al 0, o_getI 11 50, o_il 3, o_iast, o_al 0, o_getR 11 56, o_al 0, o_getI 11 50, o_il 4, o_iast, o_al 0, o_getR 11 57, o_al 0, o_getI 11 50, o_I 0, o_iast, o_al 0, o_dup, o_getI 11 50, o_I 1, o_bin 0, o_putI 11 50, o_al 0, o_getI 11 50, o_I 1, o_bin 1, o_ret 1])]
/-- CartoonHouseModel.pivot(II)I -/
def p_284 : ABl := [(0, [o_il 1, o_I (-400), o_I 400, o_call 219, o_if 0 1, o_il 2, o_I (-400), o_I 400, o_call 219, o_if 1 2, o_ft 1]),
  (26, [o_I (-1), o_ret 1]),
  (28, [o_al 0, o_il 1, o_putI 11 51, o_al 0, o_il 2, o_putI 11 52, o_I 1, o_ret 1])]
/-- CartoonHouseModel.key(III)I -/
def p_285 : ABl := [(0, [o_al 0, o_il 1, o_call 286, o_if 0 1, o_il 2, o_call 287, o_if 0 1, o_il 3, o_al 0, o_getR 11 55, o_il 1, o_iald, o_al 0, o_getR 11 56, o_il 1, o_iald, o_call 219, o_if 1 2, o_ft 1]),
  (34, [o_I (-1), o_ret 1]),
  (36, [o_al 0, o_il 1, o_il 2, o_call 288, o_if 3 3, o_al 0, o_getR 11 57, o_il 1, o_iald, o_I 6, o_ic 1 3, o_I (-4), o_ret 1]),
  (59, [o_al 0, o_il 1, o_il 2, o_il 3, o_call 289, o_al 0, o_getR 11 57, o_il 1, o_iald, o_ret 1])]
/-- CartoonHouseModel.isBone(I)Z -/
def p_286 : ABl := [(0, [o_il 1, o_I 0, o_al 0, o_getI 11 50, o_I 1, o_bin 1, o_call 219, o_ret 1])]
/-- CartoonHouseModel.isFrame(I)Z -/
def p_287 : ABl := [(0, [o_il 0, o_I 0, o_I 119, o_call 219, o_ret 1])]
/-- CartoonHouseModel.keyAt(II)I -/
def p_288 : ABl := [(0, [o_I (-1), o_is 3, o_I 6, o_il 1, o_bin 2, o_is 4, o_ft 1]),
  (8, [o_il 4, o_I 6, o_il 1, o_bin 2, o_al 0, o_getR 11 57, o_il 1, o_iald, o_bin 0, o_ic 3 4, o_al 0, o_getR 11 58, o_il 4, o_iald, o_il 2, o_ic 1 2, o_il 4, o_goto 3]),
  (40, [o_il 3, o_ft 3]),
  (41, [o_is 3, o_iinc 4 1, o_goto 1]),
  (48, [o_il 3, o_ret 1])]
/-- CartoonHouseModel.putKey(III)V -/
def p_289 : ABl := [(0, [o_al 0, o_il 1, o_il 2, o_call 288, o_is 4, o_il 4, o_if 3 1, o_I 6, o_il 1, o_bin 2, o_al 0, o_getR 11 57, o_il 1, o_iald, o_bin 0, o_is 4, o_al 0, o_getR 11 57, o_il 1, o_dup2, o_iald, o_I 1, o_bin 0, o_iast, o_ft 1]),
  (36, [o_al 0, o_getR 11 58, o_il 4, o_il 2, o_iast, o_al 0, o_getR 11 59, o_il 4, o_il 3, o_iast, o_ret 0])]
/-- CartoonHouseModel.angle(II)I -/
def p_290 : ABl := [(0, [o_al 0, o_il 1, o_call 286, o_if 0 1, o_il 2, o_call 287, o_if 0 1, o_al 0, o_il 1, o_il 2, o_call 291, o_goto 2]),
  (24, [o_I (-1), o_ft 2]),
  (25, [o_ret 1])]
/-- CartoonHouseModel.angleAt(II)I -/
def p_291 : ABl := [(0, [o_al 0, o_getR 11 58, o_al 0, o_getR 11 59, o_I 6, o_il 1, o_bin 2, o_al 0, o_getR 11 57, o_il 1, o_iald, o_il 2, o_al 0, o_getR 11 55, o_il 1, o_iald, o_call 292, o_ret 1])]
/-- CartoonHouseModel.byKeys([I[IIIII)I -/
def p_292 : ABl := [(0, [o_I (-1), o_is 6, o_I (-1), o_is 7, o_il 2, o_is 8, o_ft 1]),
  (9, [o_il 8, o_il 2, o_il 3, o_bin 0, o_ic 3 6, o_al 0, o_il 8, o_iald, o_il 4, o_ic 4 3, o_il 6, o_if 2 2, o_al 0, o_il 8, o_iald, o_al 0, o_il 6, o_iald, o_ic 5 3, o_ft 2]),
  (42, [o_il 8, o_is 6, o_ft 3]),
  (46, [o_al 0, o_il 8, o_iald, o_il 4, o_ic 2 5, o_il 7, o_if 2 4, o_al 0, o_il 8, o_iald, o_al 0, o_il 7, o_iald, o_ic 3 5, o_ft 4]),
  (71, [o_il 8, o_is 7, o_ft 5]),
  (75, [o_iinc 8 1, o_goto 1]),
  (81, [o_il 6, o_if 3 7, o_il 7, o_if 3 7, o_il 5, o_ret 1]),
  (94, [o_il 6, o_if 3 8, o_al 1, o_il 7, o_iald, o_ret 1]),
  (104, [o_il 7, o_if 2 9, o_il 6, o_il 7, o_ic 1 10, o_ft 9]),
  (116, [o_al 1, o_il 6, o_iald, o_ret 1]),
  (121, [o_al 1, o_il 6, o_iald, o_al 1, o_il 7, o_iald, o_al 1, o_il 6, o_iald, o_bin 1, o_un 1, o_il 4, o_al 0, o_il 6, o_iald, o_bin 1, o_un 1, o_binL 2, o_al 0, o_il 7, o_iald, o_al 0, o_il 6, o_iald, o_bin 1, o_un 1, o_call 243, o_bin 0, o_ret 1])]
/-- CartoonHouseModel.at(III)I -/
def p_293 : ABl := [(0, [o_al 0, o_il 1, o_call 286, o_if 0 1, o_il 2, o_call 287, o_if 0 1, o_il 3, o_I 0, o_I 1, o_call 219, o_if 1 2, o_ft 1]),
  (24, [o_I (-100000), o_ret 1]),
  (28, [o_al 0, o_il 2, o_call 294, o_al 0, o_il 1, o_call 295, o_il 3, o_if 1 3, o_al 0, o_getI 11 61, o_goto 4]),
  (49, [o_al 0, o_getI 11 62, o_ft 4]),
  (53, [o_ret 1])]
/-- CartoonHouseModel.poses(I)V -/
def p_294 : ABl := [(0, [o_I 0, o_is 2, o_ft 1]),
  (2, [o_il 2, o_al 0, o_getI 11 50, o_ic 3 2, o_al 0, o_getR 11 60, o_il 2, o_al 0, o_il 2, o_il 1, o_call 291, o_iast, o_iinc 2 1, o_goto 1]),
  (28, [o_ret 0])]
/-- CartoonHouseModel.goesTo(I)V -/
def p_295 : ABl := [(0, [o_al 0, o_getI 11 51, o_is 2, o_al 0, o_getI 11 52, o_is 3, o_il 1, o_is 4, o_ft 1]),
  (13, [o_il 4, o_if 2 4, o_I 0, o_is 5, o_il 4, o_is 6, o_ft 2]),
  (25, [o_il 6, o_if 2 3, o_il 5, o_al 0, o_getR 11 60, o_il 6, o_iald, o_bin 0, o_is 5, o_al 0, o_getR 11 53, o_il 6, o_iald, o_is 6, o_goto 2]),
  (54, [o_il 2, o_al 0, o_getR 11 54, o_il 4, o_iald, o_un 1, o_il 5, o_I 8, o_bin 0, o_call 296, o_un 1, o_binL 2, o_L 1024, o_call 243, o_bin 0, o_is 2, o_il 3, o_al 0, o_getR 11 54, o_il 4, o_iald, o_un 1, o_il 5, o_call 296, o_un 1, o_binL 2, o_L 1024, o_call 243, o_bin 0, o_is 3, o_al 0, o_getR 11 53, o_il 4, o_iald, o_is 4, o_goto 1]),
  (117, [o_al 0, o_il 2, o_putI 11 61, o_al 0, o_il 3, o_putI 11 62, o_ret 0])]
/-- CartoonHouseModel.sine(I)I -/
def p_296 : ABl := [(0, [o_il 0, o_I 31, o_bin 3, o_is 1, o_il 1, o_I 16, o_bin 10, o_is 2, o_il 2, o_I 8, o_ic 5 1, o_I 16, o_il 2, o_bin 1, o_goto 2]),
  (23, [o_il 2, o_ft 2]),
  (24, [o_is 3, o_il 3, o_if 1 3, o_I 0, o_goto 11]),
  (33, [o_il 3, o_I 1, o_ic 1 4, o_I 200, o_goto 11]),
  (44, [o_il 3, o_I 2, o_ic 1 5, o_I 392, o_goto 11]),
  (55, [o_il 3, o_I 3, o_ic 1 6, o_I 569, o_goto 11]),
  (66, [o_il 3, o_I 4, o_ic 1 7, o_I 724, o_goto 11]),
  (77, [o_il 3, o_I 5, o_ic 1 8, o_I 851, o_goto 11]),
  (88, [o_il 3, o_I 6, o_ic 1 9, o_I 946, o_goto 11]),
  (100, [o_il 3, o_I 7, o_ic 1 10, o_I 1004, o_goto 11]),
  (112, [o_I 1024, o_ft 11]),
  (115, [o_is 4, o_il 1, o_I 16, o_ic 3 12, o_il 4, o_goto 13]),
  (128, [o_il 4, o_un 0, o_ft 13]),
  (131, [o_ret 1])]
/-- CartoonHouseModel.reach(IIII)I -/
def p_297 : ABl := [(0, [o_al 0, o_il 1, o_call 286, o_if 0 1, o_il 2, o_call 287, o_if 0 1, o_il 3, o_I (-400), o_I 400, o_call 219, o_if 0 1, o_il 4, o_I (-400), o_I 400, o_call 219, o_if 1 2, o_ft 1]),
  (42, [o_I (-1), o_ret 1]),
  (44, [o_al 0, o_getR 11 53, o_il 1, o_iald, o_is 5, o_il 5, o_if 3 3, o_I (-1), o_goto 4]),
  (61, [o_al 0, o_getR 11 53, o_il 5, o_iald, o_ft 4]),
  (68, [o_is 6, o_I 1, o_is 7, o_I 0, o_is 8, o_ft 5]),
  (76, [o_il 8, o_I 3, o_ic 3 12, o_il 8, o_if 1 6, o_il 1, o_goto 8]),
  (91, [o_il 8, o_I 1, o_ic 1 7, o_il 5, o_goto 8]),
  (102, [o_il 6, o_ft 8]),
  (104, [o_is 9, o_il 7, o_if 0 10, o_il 9, o_if 2 9, o_al 0, o_il 9, o_il 2, o_call 288, o_if 3 9, o_al 0, o_getR 11 57, o_il 9, o_iald, o_I 6, o_ic 3 10, o_ft 9]),
  (138, [o_I 1, o_goto 11]),
  (142, [o_I 0, o_ft 11]),
  (143, [o_is 7, o_iinc 8 1, o_goto 5]),
  (151, [o_il 7, o_if 1 13, o_I (-4), o_ret 1]),
  (159, [o_al 0, o_il 2, o_call 294, o_I (-1), o_is 8, o_I 0, o_is 9, o_I 0, o_is 10, o_I 0, o_is 11, o_il 6, o_if 3 14, o_I 0, o_goto 15]),
  (185, [o_al 0, o_getR 11 55, o_il 6, o_iald, o_ft 15]),
  (192, [o_is 12, o_ft 16]),
  (194, [o_il 12, o_il 6, o_if 3 17, o_I 0, o_goto 18]),
  (205, [o_al 0, o_getR 11 56, o_il 6, o_iald, o_ft 18]),
  (212, [o_ic 4 31, o_il 6, o_if 2 19, o_al 0, o_getR 11 60, o_il 6, o_il 12, o_iast, o_ft 19]),
  (229, [o_il 5, o_if 3 20, o_I 0, o_goto 21]),
  (238, [o_al 0, o_getR 11 55, o_il 5, o_iald, o_ft 21]),
  (245, [o_is 13, o_ft 22]),
  (247, [o_il 13, o_il 5, o_if 3 23, o_I 0, o_goto 24]),
  (258, [o_al 0, o_getR 11 56, o_il 5, o_iald, o_ft 24]),
  (265, [o_ic 4 30, o_il 5, o_if 2 25, o_al 0, o_getR 11 60, o_il 5, o_il 13, o_iast, o_ft 25]),
  (282, [o_al 0, o_getR 11 55, o_il 1, o_iald, o_is 14, o_ft 26]),
  (290, [o_il 14, o_al 0, o_getR 11 56, o_il 1, o_iald, o_ic 4 29, o_al 0, o_getR 11 60, o_il 1, o_il 14, o_iast, o_al 0, o_il 1, o_call 295, o_al 0, o_getI 11 61, o_il 3, o_bin 1, o_al 0, o_getI 11 61, o_il 3, o_bin 1, o_bin 2, o_al 0, o_getI 11 62, o_il 4, o_bin 1, o_al 0, o_getI 11 62, o_il 4, o_bin 1, o_bin 2, o_bin 0, o_is 15, o_il 8, o_if 2 27, o_il 15, o_il 8, o_ic 2 27, o_goto 28]),
  (360, [o_il 15, o_is 8, o_il 12, o_is 9, o_il 13, o_is 10, o_il 14, o_is 11, o_ft 28]),
  (376, [o_iinc 14 1, o_goto 26]),
  (382, [o_iinc 13 1, o_goto 22]),
  (388, [o_iinc 12 1, o_goto 16]),
  (394, [o_il 6, o_if 2 32, o_al 0, o_il 6, o_il 2, o_il 9, o_call 289, o_ft 32]),
  (408, [o_il 5, o_if 2 33, o_al 0, o_il 5, o_il 2, o_il 10, o_call 289, o_ft 33]),
  (422, [o_al 0, o_il 1, o_il 2, o_il 11, o_call 289, o_il 8, o_ret 1])]
/-- CartoonHouseModel.swing(IIII)I -/
def p_298 : ABl := [(0, [o_al 0, o_il 1, o_call 286, o_if 0 1, o_il 2, o_call 287, o_if 0 1, o_il 3, o_I 0, o_I 16, o_call 219, o_if 0 1, o_il 4, o_I 0, o_I 16, o_call 219, o_if 1 2, o_ft 1]),
  (36, [o_I (-1000000000), o_ret 1]),
  (40, [o_L 256, o_al 0, o_il 1, o_I 0, o_call 291, o_un 1, o_binL 2, o_lst 5, o_L 0, o_lst 7, o_I 1, o_is 9, o_ft 3]),
  (59, [o_il 9, o_il 2, o_ic 4 4, o_ll 7, o_L 256, o_al 0, o_il 1, o_il 9, o_call 291, o_un 1, o_binL 2, o_ll 5, o_binL 1, o_il 3, o_un 1, o_binL 2, o_L 16, o_call 244, o_binL 0, o_ll 7, o_il 4, o_un 1, o_binL 2, o_L 16, o_call 244, o_binL 1, o_lst 7, o_ll 5, o_ll 7, o_binL 0, o_lst 5, o_iinc 9 1, o_goto 3]),
  (120, [o_ll 5, o_un 2, o_ret 1])]
/-- CartoonHouseModel.language()I -/
def p_299 : ABl := [(0, [o_al 0, o_call 217, o_I 0, o_is 1, o_ft 1]),
  (6, [o_il 1, o_I 26, o_ic 3 2, o_al 0, o_getR 11 64, o_il 1, o_al 0, o_getR 11 63, o_il 1, o_iald, o_iast, o_iinc 1 1, o_goto 1]),
  (30, [o_I 0, o_is 1, o_I 1, o_is 2, o_ft 3]),
  (34, [o_al 0, o_call 221, o_if 0 13, o_il 2, o_if 0 13, o_al 0, o_getI 11 4, o_is 3, o_al 0, o_call 222, o_call 300, o_if 1 4, o_al 0, o_al 0, o_getI 11 4, o_call 224, o_ft 4]),
  (68, [o_al 0, o_call 222, o_call 300, o_if 0 5, o_al 0, o_dup, o_getI 11 4, o_I 1, o_bin 0, o_putI 11 4, o_goto 4]),
  (91, [o_al 0, o_getI 11 4, o_is 4, o_al 0, o_I 61, o_call 225, o_al 0, o_call 221, o_if 0 6, o_al 0, o_call 222, o_I 48, o_I 55, o_call 219, o_if 1 6, o_al 0, o_al 0, o_getI 11 4, o_call 224, o_ft 6]),
  (132, [o_il 3, o_is 5, o_ft 7]),
  (135, [o_il 5, o_il 4, o_ic 3 8, o_al 0, o_call 221, o_if 0 8, o_al 0, o_getR 11 64, o_al 0, o_getR 11 1, o_il 5, o_iald, o_I 97, o_bin 1, o_al 0, o_call 222, o_I 48, o_bin 1, o_iast, o_iinc 5 1, o_goto 7]),
  (177, [o_al 0, o_call 221, o_if 0 9, o_al 0, o_dup, o_getI 11 4, o_I 1, o_bin 0, o_putI 11 4, o_ft 9]),
  (194, [o_iinc 1 1, o_al 0, o_getI 11 4, o_al 0, o_getI 11 3, o_ic 3 10, o_I 1, o_goto 11]),
  (212, [o_I 0, o_ft 11]),
  (213, [o_is 2, o_il 2, o_if 0 12, o_al 0, o_I 32, o_call 225, o_ft 12]),
  (224, [o_goto 3]),
  (227, [o_al 0, o_call 221, o_if 1 14, o_al 0, o_call 226, o_ret 1]),
  (239, [o_I 0, o_is 3, o_ft 15]),
  (241, [o_il 3, o_I 26, o_ic 3 16, o_al 0, o_getR 11 63, o_il 3, o_al 0, o_getR 11 64, o_il 3, o_iald, o_iast, o_iinc 3 1, o_goto 15]),
  (265, [o_il 1, o_ret 1])]
/-- CartoonHouseModel.isSmall(I)Z -/
def p_300 : ABl := [(0, [o_il 0, o_I 97, o_ic 2 1, o_il 0, o_I 122, o_ic 4 1, o_I 1, o_goto 2]),
  (16, [o_I 0, o_ft 2]),
  (17, [o_ret 1])]
/-- CartoonHouseModel.letter(I)I -/
def p_301 : ABl := [(0, [o_il 1, o_I 0, o_I 25, o_call 219, o_if 0 1, o_al 0, o_getR 11 63, o_il 1, o_iald, o_goto 2]),
  (19, [o_I (-1), o_ft 2]),
  (20, [o_ret 1])]
/-- CartoonHouseModel.speech()I -/
def p_302 : ABl := [(0, [o_al 0, o_call 217, o_I 0, o_is 1, o_I 0, o_is 2, o_I 1, o_is 3, o_ft 1]),
  (10, [o_al 0, o_call 221, o_if 0 10, o_il 3, o_if 0 10, o_al 0, o_getI 11 4, o_is 4, o_I 0, o_is 5, o_al 0, o_call 222, o_call 300, o_if 0 2, o_al 0, o_getR 11 63, o_al 0, o_call 222, o_I 97, o_bin 1, o_iald, o_is 5, o_goto 3]),
  (57, [o_al 0, o_call 222, o_I 46, o_ic 0 3, o_al 0, o_al 0, o_getI 11 4, o_call 224, o_ft 3]),
  (74, [o_al 0, o_call 221, o_if 0 4, o_al 0, o_dup, o_getI 11 4, o_I 1, o_bin 0, o_putI 11 4, o_ft 4]),
  (91, [o_al 0, o_I 0, o_I 1, o_I 99, o_call 220, o_is 6, o_al 0, o_call 221, o_if 0 5, o_il 2, o_il 6, o_bin 0, o_I 120, o_ic 5 5, o_al 0, o_il 4, o_call 224, o_ft 5]),
  (123, [o_al 0, o_call 221, o_if 0 6, o_al 0, o_getR 11 68, o_il 1, o_il 5, o_iast, o_al 0, o_getR 11 69, o_il 1, o_il 6, o_iast, o_iinc 1 1, o_il 2, o_il 6, o_bin 0, o_is 2, o_ft 6]),
  (154, [o_al 0, o_getI 11 4, o_al 0, o_getI 11 3, o_ic 3 7, o_I 1, o_goto 8]),
  (169, [o_I 0, o_ft 8]),
  (170, [o_is 3, o_il 3, o_if 0 9, o_al 0, o_I 32, o_call 225, o_ft 9]),
  (181, [o_goto 1]),
  (184, [o_al 0, o_call 221, o_if 1 11, o_al 0, o_call 226, o_ret 1]),
  (196, [o_al 0, o_il 1, o_call 303, o_is 1, o_ft 12]),
  (202, [o_il 1, o_I 1, o_ic 5 17, o_al 0, o_il 1, o_call 304, o_if 2 17, o_al 0, o_il 1, o_call 304, o_is 4, o_al 0, o_getR 11 69, o_il 4, o_il 1, o_I 1, o_bin 1, o_ic 3 13, o_il 4, o_I 1, o_bin 0, o_goto 14]),
  (241, [o_il 4, o_I 1, o_bin 1, o_ft 14]),
  (245, [o_dup2, o_iald, o_I 1, o_bin 0, o_iast, o_il 4, o_is 5, o_ft 15]),
  (254, [o_il 5, o_il 1, o_I 1, o_bin 1, o_ic 3 16, o_al 0, o_getR 11 68, o_il 5, o_al 0, o_getR 11 68, o_il 5, o_I 1, o_bin 0, o_iald, o_iast, o_al 0, o_getR 11 69, o_il 5, o_al 0, o_getR 11 69, o_il 5, o_I 1, o_bin 0, o_iald, o_iast, o_iinc 5 1, o_goto 15]),
  (300, [o_al 0, o_il 1, o_I 1, o_bin 1, o_call 303, o_is 1, o_goto 12]),
  (311, [o_al 0, o_il 1, o_putI 11 65, o_I 0, o_is 4, o_ft 18]),
  (319, [o_il 4, o_il 1, o_ic 3 19, o_al 0, o_getR 11 66, o_il 4, o_al 0, o_getR 11 68, o_il 4, o_iald, o_iast, o_al 0, o_getR 11 67, o_il 4, o_al 0, o_getR 11 69, o_il 4, o_iald, o_iast, o_iinc 4 1, o_goto 18]),
  (359, [o_il 1, o_ret 1])]
/-- CartoonHouseModel.joins(I)I -/
def p_303 : ABl := [(0, [o_I 0, o_is 2, o_I 0, o_is 3, o_ft 1]),
  (4, [o_il 3, o_il 1, o_ic 3 4, o_il 2, o_if 5 2, o_al 0, o_getR 11 68, o_il 2, o_I 1, o_bin 1, o_iald, o_al 0, o_getR 11 68, o_il 3, o_iald, o_ic 1 2, o_al 0, o_getR 11 69, o_il 2, o_I 1, o_bin 1, o_dup2, o_iald, o_al 0, o_getR 11 69, o_il 3, o_iald, o_bin 0, o_iast, o_goto 3]),
  (50, [o_al 0, o_getR 11 68, o_il 2, o_al 0, o_getR 11 68, o_il 3, o_iald, o_iast, o_al 0, o_getR 11 69, o_il 2, o_al 0, o_getR 11 69, o_il 3, o_iald, o_iast, o_iinc 2 1, o_ft 3]),
  (77, [o_iinc 3 1, o_goto 1]),
  (83, [o_il 2, o_ret 1])]
/-- CartoonHouseModel.single(I)I -/
def p_304 : ABl := [(0, [o_I (-1), o_is 2, o_il 1, o_I 1, o_bin 1, o_is 3, o_ft 1]),
  (6, [o_il 3, o_if 2 4, o_al 0, o_getR 11 69, o_il 3, o_iald, o_I 1, o_ic 1 2, o_il 3, o_goto 3]),
  (24, [o_il 2, o_ft 3]),
  (25, [o_is 2, o_iinc 3 (-1), o_goto 1]),
  (32, [o_il 2, o_ret 1])]
/-- CartoonHouseModel.mouth(II)I -/
def p_305 : ABl := [(0, [o_il 1, o_I 0, o_al 0, o_getI 11 65, o_I 1, o_bin 1, o_call 219, o_if 1 1, o_I (-1), o_ret 1]),
  (16, [o_I 0, o_is 3, o_I 0, o_is 4, o_ft 2]),
  (21, [o_il 4, o_il 1, o_ic 3 3, o_il 3, o_al 0, o_getR 11 67, o_il 4, o_iald, o_bin 0, o_is 3, o_iinc 4 1, o_goto 2]),
  (43, [o_il 2, o_if 1 4, o_al 0, o_getR 11 66, o_il 1, o_iald, o_goto 7]),
  (56, [o_il 2, o_I 1, o_ic 1 5, o_il 3, o_goto 7]),
  (65, [o_il 2, o_I 2, o_ic 1 6, o_al 0, o_getR 11 67, o_il 1, o_iald, o_goto 7]),
  (79, [o_I (-1), o_ft 7]),
  (80, [o_ret 1])]
/-- CartoonHouseModel.blink(II)I -/
def p_306 : ABl := [(0, [o_il 2, o_I 0, o_I 9999, o_call 219, o_if 1 1, o_I (-1), o_ret 1]),
  (13, [o_il 1, o_I 1103515245, o_bin 2, o_I 12345, o_bin 0, o_is 3, o_I 20, o_il 3, o_I 16, o_bin 8, o_I 32, o_bin 10, o_bin 0, o_is 4, o_ft 2]),
  (35, [o_il 4, o_I 3, o_bin 0, o_il 2, o_ic 4 3, o_il 3, o_I 1103515245, o_bin 2, o_I 12345, o_bin 0, o_is 3, o_il 4, o_I 24, o_il 3, o_I 16, o_bin 8, o_I 64, o_bin 10, o_bin 0, o_bin 0, o_is 4, o_goto 2]),
  (71, [o_il 4, o_il 2, o_ic 4 4, o_I 1, o_goto 5]),
  (81, [o_I 0, o_ft 5]),
  (82, [o_ret 1])]
/-- CartoonHouseModel.camera(IIII)I -/
def p_307 : ABl := [(0, [o_il 1, o_call 287, o_if 0 1, o_il 2, o_I (-400), o_I 400, o_call 219, o_if 0 1, o_il 3, o_I (-400), o_I 400, o_call 219, o_if 0 1, o_il 4, o_if 0 2, o_il 4, o_I 16, o_I 256, o_call 219, o_if 1 2, o_ft 1]),
  (51, [o_I (-1), o_ret 1]),
  (53, [o_I (-1), o_is 5, o_I 0, o_is 6, o_ft 3]),
  (59, [o_il 6, o_al 0, o_getI 11 70, o_ic 3 6, o_al 0, o_getR 11 71, o_il 6, o_iald, o_il 1, o_ic 1 4, o_il 6, o_goto 5]),
  (84, [o_il 5, o_ft 5]),
  (86, [o_is 5, o_iinc 6 1, o_goto 3]),
  (94, [o_il 4, o_if 1 11, o_il 5, o_is 6, o_ft 7]),
  (103, [o_il 5, o_if 2 8, o_il 6, o_al 0, o_getI 11 70, o_I 1, o_bin 1, o_ic 3 8, o_al 0, o_getR 11 71, o_il 6, o_al 0, o_getR 11 71, o_il 6, o_I 1, o_bin 0, o_iald, o_iast, o_al 0, o_getR 11 72, o_il 6, o_al 0, o_getR 11 72, o_il 6, o_I 1, o_bin 0, o_iald, o_iast, o_al 0, o_getR 11 73, o_il 6, o_al 0, o_getR 11 73, o_il 6, o_I 1, o_bin 0, o_iald, o_iast, o_al 0, o_getR 11 74, o_il 6, o_al 0, o_getR 11 74, o_il 6, o_I 1, o_bin 0, o_iald, o_iast, o_iinc 6 1, o_goto 7]),
  (189, [o_al 0, o_dup, o_getI 11 70, o_il 5, o_if 2 9, o_I 1, o_goto 10]),
  (203, [o_I 0, o_ft 10]),
  (204, [o_bin 1, o_putI 11 70, o_al 0, o_getI 11 70, o_ret 1]),
  (213, [o_il 5, o_if 3 12, o_al 0, o_getI 11 70, o_I 8, o_ic 1 12, o_I (-4), o_ret 1]),
  (230, [o_il 5, o_if 3 13, o_al 0, o_getI 11 70, o_is 5, o_al 0, o_dup, o_getI 11 70, o_I 1, o_bin 0, o_putI 11 70, o_ft 13]),
  (251, [o_al 0, o_getR 11 71, o_il 5, o_il 1, o_iast, o_al 0, o_getR 11 72, o_il 5, o_il 2, o_iast, o_al 0, o_getR 11 73, o_il 5, o_il 3, o_iast, o_al 0, o_getR 11 74, o_il 5, o_il 4, o_iast, o_al 0, o_getI 11 70, o_ret 1])]
/-- CartoonHouseModel.depth(II)I -/
def p_308 : ABl := [(0, [o_il 1, o_call 264, o_if 0 1, o_il 2, o_I 16, o_I 1024, o_call 219, o_if 1 2, o_ft 1]),
  (19, [o_I (-1), o_ret 1]),
  (21, [o_al 0, o_getR 11 75, o_il 1, o_iald, o_is 3, o_al 0, o_getR 11 75, o_il 1, o_il 2, o_iast, o_il 3, o_ret 1])]
/-- CartoonHouseModel.seen(IIIII)I -/
def p_309 : ABl := [(0, [o_il 1, o_call 264, o_if 0 1, o_il 2, o_I (-400), o_I 400, o_call 219, o_if 0 1, o_il 3, o_I (-400), o_I 400, o_call 219, o_if 0 1, o_il 4, o_call 287, o_if 0 1, o_il 5, o_I 0, o_I 1, o_call 219, o_if 1 2, o_ft 1]),
  (51, [o_I (-1000000), o_ret 1]),
  (55, [o_al 0, o_il 4, o_call 310, o_L 64, o_al 0, o_getR 11 75, o_il 1, o_iald, o_un 1, o_binL 2, o_lst 6, o_il 5, o_if 1 3, o_I 24, o_il 2, o_I 24, o_bin 1, o_un 1, o_al 0, o_getR 11 75, o_il 1, o_iald, o_un 1, o_binL 2, o_L 64, o_al 0, o_getI 11 79, o_un 1, o_binL 2, o_binL 1, o_al 0, o_getI 11 81, o_un 1, o_binL 2, o_ll 6, o_call 243, o_bin 0, o_ret 1]),
  (117, [o_I 16, o_il 3, o_I 16, o_bin 1, o_un 1, o_al 0, o_getR 11 75, o_il 1, o_iald, o_un 1, o_binL 2, o_L 64, o_al 0, o_getI 11 80, o_un 1, o_binL 2, o_binL 1, o_al 0, o_getI 11 81, o_un 1, o_binL 2, o_ll 6, o_call 243, o_bin 0, o_ret 1])]
/-- CartoonHouseModel.films(I)V -/
def p_310 : ABl := [(0, [o_al 0, o_al 0, o_getR 11 71, o_al 0, o_getR 11 72, o_I 0, o_al 0, o_getI 11 70, o_il 1, o_I 0, o_call 292, o_putI 11 79, o_al 0, o_al 0, o_getR 11 71, o_al 0, o_getR 11 73, o_I 0, o_al 0, o_getI 11 70, o_il 1, o_I 0, o_call 292, o_putI 11 80, o_al 0, o_al 0, o_getR 11 71, o_al 0, o_getR 11 74, o_I 0, o_al 0, o_getI 11 70, o_il 1, o_I 64, o_call 292, o_putI 11 81, o_ret 0])]
/-- CartoonHouseModel.cutOff(III)I -/
def p_311 : ABl := [(0, [o_il 1, o_call 264, o_if 0 1, o_il 2, o_call 287, o_if 0 1, o_il 3, o_call 287, o_if 1 2, o_ft 1]),
  (21, [o_I (-1), o_ret 1]),
  (23, [o_il 2, o_is 4, o_ft 3]),
  (26, [o_il 4, o_il 3, o_ic 4 6, o_al 0, o_il 4, o_call 310, o_al 0, o_il 1, o_I 0, o_call 312, o_al 0, o_il 1, o_I 0, o_call 313, o_call 237, o_if 0 4, o_al 0, o_il 1, o_I 47, o_call 312, o_al 0, o_il 1, o_I 31, o_call 313, o_call 237, o_if 1 5, o_ft 4]),
  (76, [o_il 4, o_ret 1]),
  (79, [o_iinc 4 1, o_goto 3]),
  (85, [o_I (-1), o_ret 1])]
/-- CartoonHouseModel.placeX(II)I -/
def p_312 : ABl := [(0, [o_I 24, o_il 2, o_I 24, o_bin 1, o_un 1, o_L 64, o_binL 2, o_al 0, o_getR 11 75, o_il 1, o_iald, o_un 1, o_binL 2, o_L 64, o_al 0, o_getI 11 79, o_un 1, o_binL 2, o_al 0, o_getI 11 81, o_un 1, o_binL 2, o_binL 0, o_al 0, o_getI 11 81, o_un 1, o_al 0, o_getR 11 75, o_il 1, o_iald, o_un 1, o_binL 2, o_call 243, o_bin 0, o_ret 1])]
/-- CartoonHouseModel.placeY(II)I -/
def p_313 : ABl := [(0, [o_I 16, o_il 2, o_I 16, o_bin 1, o_un 1, o_L 64, o_binL 2, o_al 0, o_getR 11 75, o_il 1, o_iald, o_un 1, o_binL 2, o_L 64, o_al 0, o_getI 11 80, o_un 1, o_binL 2, o_al 0, o_getI 11 81, o_un 1, o_binL 2, o_binL 0, o_al 0, o_getI 11 81, o_un 1, o_al 0, o_getR 11 75, o_il 1, o_iald, o_un 1, o_binL 2, o_call 243, o_bin 0, o_ret 1])]
/-- CartoonHouseModel.wiggle(IIII)I -/
def p_314 : ABl := [(0, [o_il 1, o_call 264, o_if 0 1, o_il 3, o_I 0, o_I 24, o_call 219, o_if 0 1, o_il 4, o_I 0, o_I 3, o_call 219, o_if 1 2, o_ft 1]),
  (27, [o_I (-1), o_ret 1]),
  (29, [o_al 0, o_getR 11 76, o_il 1, o_il 3, o_iast, o_al 0, o_getR 11 78, o_il 1, o_il 2, o_iast, o_al 0, o_getR 11 77, o_il 1, o_il 4, o_iast, o_I 1, o_ret 1])]
/-- CartoonHouseModel.node()I -/
def p_315 : ABl := [(0, [o_al 0, o_call 217, o_al 0, o_call 222, o_call 300, o_if 1 1, o_al 0, o_al 0, o_getI 11 4, o_call 224, o_ft 1]),
  (22, [o_al 0, o_call 221, o_if 0 3, o_al 0, o_call 222, o_call 300, o_if 1 2, o_al 0, o_call 222, o_call 223, o_if 0 3, o_ft 2]),
  (49, [o_al 0, o_dup, o_getI 11 4, o_I 1, o_bin 0, o_putI 11 4, o_goto 1]),
  (62, [o_al 0, o_call 221, o_if 0 4, o_al 0, o_I 0, o_call 316, o_goto 5]),
  (77, [o_I (-1), o_ft 5]),
  (78, [o_is 1, o_al 0, o_call 221, o_if 0 6, o_il 1, o_if 3 6, o_al 0, o_I 0, o_call 224, o_ft 6]),
  (95, [o_al 0, o_call 221, o_if 0 7, o_al 0, o_il 1, o_call 318, o_ft 7]),
  (107, [o_al 0, o_call 321, o_al 0, o_call 221, o_if 1 8, o_al 0, o_call 226, o_ret 1]),
  (123, [o_al 0, o_getI 11 82, o_I 10, o_ic 1 9, o_I (-4), o_ret 1]),
  (135, [o_al 0, o_getR 11 83, o_al 0, o_getI 11 82, o_il 1, o_iast, o_I 0, o_is 2, o_ft 10]),
  (147, [o_il 2, o_I 6, o_ic 3 11, o_al 0, o_getR 11 84, o_I 6, o_al 0, o_getI 11 82, o_bin 2, o_il 2, o_bin 0, o_al 0, o_getR 11 85, o_il 2, o_iald, o_iast, o_iinc 2 1, o_goto 10]),
  (179, [o_al 0, o_dup, o_getI 11 82, o_I 1, o_bin 0, o_putI 11 82, o_al 0, o_getI 11 82, o_I 1, o_bin 1, o_ret 1])]
/-- CartoonHouseModel.sortAt(I)I -/
def p_316 : ABl := [(0, [o_al 0, o_il 1, o_I 1885433957, o_I 114, o_call 317, o_if 0 1, o_I 0, o_ret 1]),
  (15, [o_al 0, o_il 1, o_I 1818327397, o_I 114, o_call 317, o_if 0 2, o_I 1, o_ret 1]),
  (30, [o_al 0, o_il 1, o_I 1870030194, o_I 0, o_call 317, o_if 0 3, o_I 2, o_ret 1]),
  (44, [o_al 0, o_il 1, o_I 1936222566, o_I 116, o_call 317, o_if 0 4, o_I 3, o_ret 1]),
  (59, [o_al 0, o_il 1, o_I 1835103348, o_I 101, o_call 317, o_if 0 5, o_I 4, o_ret 1]),
  (74, [o_al 0, o_il 1, o_I 1717658725, o_I 0, o_call 317, o_if 0 6, o_I 5, o_ret 1]),
  (88, [o_al 0, o_il 1, o_I 1651275122, o_I 0, o_call 317, o_if 0 7, o_I 6, o_ret 1]),
  (103, [o_al 0, o_il 1, o_I 1936744818, o_I 27507, o_call 317, o_if 0 8, o_I 7, o_ret 1]),
  (120, [o_I (-1), o_ret 1])]
/-- CartoonHouseModel.isWord(III)Z -/
def p_317 : ABl := [(0, [o_il 3, o_if 1 1, o_I 4, o_goto 3]),
  (8, [o_il 3, o_I 128, o_ic 3 2, o_I 5, o_goto 3]),
  (19, [o_I 6, o_ft 3]),
  (21, [o_is 4, o_al 0, o_getI 11 4, o_il 1, o_bin 1, o_il 4, o_ic 0 4, o_I 0, o_ret 1]),
  (36, [o_I 1, o_is 5, o_I 0, o_is 6, o_ft 5]),
  (42, [o_il 6, o_il 4, o_ic 3 11, o_il 6, o_I 4, o_ic 3 6, o_il 2, o_I 24, o_I 8, o_il 6, o_bin 2, o_bin 1, o_bin 7, o_I 255, o_bin 3, o_goto 8]),
  (72, [o_il 4, o_I 5, o_ic 1 7, o_il 3, o_goto 8]),
  (82, [o_il 3, o_I 8, o_I 5, o_il 6, o_bin 1, o_bin 2, o_bin 7, o_I 255, o_bin 3, o_ft 8]),
  (95, [o_is 7, o_il 5, o_if 0 9, o_al 0, o_getR 11 1, o_il 1, o_il 6, o_bin 0, o_iald, o_il 7, o_ic 1 9, o_I 1, o_goto 10]),
  (120, [o_I 0, o_ft 10]),
  (121, [o_is 5, o_iinc 6 1, o_goto 5]),
  (129, [o_il 5, o_ret 1])]
/-- CartoonHouseModel.arguments(I)V -/
def p_318 : ABl := [(0, [o_il 1, o_sw 0 7 [1, 2, 3, 4, 3, 5, 6]]),
  (44, [o_al 0, o_I 0, o_I 0, o_I 0, o_I 16777215, o_call 319, o_ret 0]),
  (55, [o_al 0, o_I 0, o_I 0, o_I 0, o_I 3, o_call 319, o_al 0, o_I 1, o_I 0, o_I 0, o_I 3, o_call 319, o_ret 0]),
  (72, [o_al 0, o_I 0, o_call 320, o_al 0, o_I 1, o_call 320, o_ret 0]),
  (83, [o_al 0, o_I 0, o_call 320, o_al 0, o_I 1, o_I 1, o_I (-60), o_I 60, o_call 319, o_al 0, o_I 2, o_I 1, o_I (-60), o_I 60, o_call 319, o_ret 0]),
  (109, [o_al 0, o_I 0, o_call 320, o_al 0, o_I 1, o_call 320, o_al 0, o_I 2, o_I 0, o_I 0, o_I 119, o_call 319, o_al 0, o_I 3, o_I 0, o_al 0, o_getR 11 85, o_I 2, o_iald, o_I 1, o_bin 0, o_I 119, o_call 319, o_ret 0]),
  (145, [o_al 0, o_I 0, o_call 320, o_ret 0]),
  (151, [o_al 0, o_I 0, o_I 1, o_I (-99999), o_I 99999, o_call 319, o_al 0, o_I 1, o_I 0, o_I 0, o_I 47, o_call 319, o_al 0, o_I 2, o_I 0, o_I 0, o_I 31, o_call 319, o_al 0, o_I 3, o_I 0, o_I 1, o_I 20, o_call 319, o_al 0, o_I 4, o_I 0, o_I 0, o_I 16777215, o_call 319, o_ret 0])]
/-- CartoonHouseModel.argument(IZII)V -/
def p_319 : ABl := [(0, [o_al 0, o_I 32, o_call 225, o_al 0, o_getR 11 85, o_il 1, o_al 0, o_il 2, o_il 3, o_il 4, o_call 220, o_iast, o_ret 0])]
/-- CartoonHouseModel.lower(I)V -/
def p_320 : ABl := [(0, [o_al 0, o_il 1, o_I 0, o_I 0, o_al 0, o_getI 11 82, o_I 1, o_bin 1, o_call 319, o_ret 0])]
/-- CartoonHouseModel.ends()V -/
def p_321 : ABl := [(0, [o_al 0, o_call 221, o_if 0 1, o_al 0, o_getI 11 4, o_al 0, o_getI 11 3, o_ic 3 1, o_al 0, o_al 0, o_getI 11 4, o_call 224, o_ft 1]),
  (26, [o_ret 0])]
/-- CartoonHouseModel.clear()I -/
def p_322 : ABl := [(0, [o_al 0, o_getI 11 82, o_is 1, o_al 0, o_I 0, o_putI 11 82, o_il 1, o_ret 1])]
/-- CartoonHouseModel.sample(IIII)I -/
def p_323 : ABl := [(0, [o_al 0, o_il 1, o_call 324, o_if 0 1, o_il 2, o_call 287, o_if 0 1, o_il 3, o_il 4, o_call 237, o_if 1 2, o_ft 1]),
  (24, [o_I (-1), o_ret 1]),
  (26, [o_al 0, o_il 1, o_il 2, o_call 325, o_al 0, o_getR 11 86, o_I 1536, o_il 1, o_bin 2, o_I 48, o_il 4, o_bin 2, o_bin 0, o_il 3, o_bin 0, o_iald, o_ret 1])]
/-- CartoonHouseModel.isNode(I)Z -/
def p_324 : ABl := [(0, [o_il 1, o_I 0, o_al 0, o_getI 11 82, o_I 1, o_bin 1, o_call 219, o_ret 1])]
/-- CartoonHouseModel.shoots(II)V -/
def p_325 : ABl := [(0, [o_I 0, o_is 3, o_ft 1]),
  (2, [o_il 3, o_il 1, o_ic 4 2, o_al 0, o_il 3, o_il 2, o_call 326, o_iinc 3 1, o_goto 1]),
  (19, [o_ret 0])]
/-- CartoonHouseModel.works(II)V -/
def p_326 : ABl := [(0, [o_I 6, o_il 1, o_bin 2, o_is 3, o_I 1536, o_il 1, o_bin 2, o_is 4, o_I 1536, o_al 0, o_getR 11 84, o_il 3, o_iald, o_bin 2, o_is 5, o_I 1536, o_al 0, o_getR 11 84, o_il 3, o_I 1, o_bin 0, o_iald, o_bin 2, o_is 6, o_al 0, o_getR 11 83, o_il 1, o_iald, o_is 7, o_I 0, o_is 8, o_il 7, o_I 1, o_ic 1 3, o_al 0, o_il 2, o_call 310, o_al 0, o_al 0, o_getR 11 84, o_il 3, o_iald, o_il 2, o_call 268, o_is 9, o_il 9, o_if 2 1, o_I 1, o_goto 2]),
  (82, [o_I 0, o_ft 2]),
  (83, [o_is 8, o_il 8, o_if 0 3, o_al 0, o_il 9, o_al 0, o_getR 11 84, o_il 3, o_iald, o_il 2, o_call 261, o_ft 3]),
  (103, [o_I 0, o_is 9, o_ft 4]),
  (106, [o_il 9, o_I 1536, o_ic 3 22, o_il 9, o_I 48, o_bin 10, o_is 10, o_il 9, o_I 48, o_bin 9, o_is 11, o_I (-1), o_is 12, o_il 7, o_if 1 5, o_al 0, o_getR 11 84, o_il 3, o_iald, o_is 12, o_goto 21]),
  (147, [o_il 7, o_I 1, o_ic 1 10, o_al 0, o_al 0, o_getR 11 84, o_il 3, o_iald, o_il 10, o_call 312, o_is 13, o_al 0, o_al 0, o_getR 11 84, o_il 3, o_iald, o_il 11, o_call 313, o_is 14, o_il 8, o_if 0 6, o_il 13, o_il 14, o_call 237, o_if 0 6, o_al 0, o_getR 11 30, o_I 48, o_il 14, o_bin 2, o_il 13, o_bin 0, o_iald, o_goto 7]),
  (212, [o_I 0, o_ft 7]),
  (213, [o_is 15, o_il 15, o_if 5 8, o_al 0, o_getR 11 38, o_I 16, o_al 0, o_getR 11 84, o_il 3, o_I 1, o_bin 0, o_iald, o_bin 2, o_il 15, o_bin 0, o_iald, o_goto 9]),
  (242, [o_I (-1), o_ft 9]),
  (243, [o_is 12, o_goto 21]),
  (248, [o_il 7, o_I 2, o_ic 1 13, o_al 0, o_getR 11 86, o_il 5, o_il 9, o_bin 0, o_iald, o_I (-1), o_ic 0 11, o_al 0, o_getR 11 86, o_il 5, o_il 9, o_bin 0, o_iald, o_goto 12]),
  (281, [o_al 0, o_getR 11 86, o_il 6, o_il 9, o_bin 0, o_iald, o_ft 12]),
  (291, [o_is 12, o_goto 21]),
  (296, [o_il 7, o_I 3, o_ic 1 16, o_il 10, o_al 0, o_getR 11 84, o_il 3, o_I 1, o_bin 0, o_iald, o_bin 1, o_is 13, o_il 11, o_al 0, o_getR 11 84, o_il 3, o_I 2, o_bin 0, o_iald, o_bin 1, o_is 14, o_il 13, o_il 14, o_call 237, o_if 0 14, o_al 0, o_getR 11 86, o_il 5, o_I 48, o_il 14, o_bin 2, o_bin 0, o_il 13, o_bin 0, o_iald, o_goto 15]),
  (357, [o_I (-1), o_ft 15]),
  (358, [o_is 12, o_goto 21]),
  (363, [o_il 7, o_I 4, o_ic 1 19, o_al 0, o_getR 11 86, o_il 6, o_il 9, o_bin 0, o_iald, o_I (-1), o_ic 0 17, o_al 0, o_getR 11 86, o_il 5, o_il 9, o_bin 0, o_iald, o_goto 18]),
  (396, [o_I (-1), o_ft 18]),
  (397, [o_is 12, o_goto 21]),
  (402, [o_il 7, o_I 5, o_ic 1 20, o_al 0, o_getR 11 84, o_il 3, o_I 3, o_bin 0, o_iald, o_al 0, o_getR 11 84, o_il 3, o_I 2, o_bin 0, o_iald, o_bin 1, o_is 13, o_al 0, o_al 0, o_getR 11 86, o_il 5, o_il 9, o_bin 0, o_iald, o_al 0, o_getR 11 86, o_il 6, o_il 9, o_bin 0, o_iald, o_il 2, o_al 0, o_getR 11 84, o_il 3, o_I 2, o_bin 0, o_iald, o_bin 1, o_il 13, o_call 253, o_il 13, o_call 327, o_is 12, o_goto 21]),
  (473, [o_il 7, o_I 6, o_ic 1 21, o_al 0, o_al 0, o_getR 11 84, o_il 3, o_iald, o_il 10, o_il 11, o_call 329, o_is 12, o_ft 21]),
  (496, [o_al 0, o_getR 11 86, o_il 4, o_il 9, o_bin 0, o_il 12, o_iast, o_iinc 9 1, o_goto 4]),
  (514, [o_I 0, o_is 9, o_ft 23]),
  (517, [o_il 7, o_I 7, o_ic 1 26, o_il 9, o_al 0, o_getR 11 84, o_il 3, o_I 3, o_bin 0, o_iald, o_ic 3 26, o_il 2, o_il 9, o_bin 1, o_is 10, o_il 10, o_I 0, o_I 23, o_call 219, o_if 1 24, o_goto 25]),
  (557, [o_al 0, o_getR 11 84, o_il 3, o_iald, o_il 9, o_I 1, o_I 0, o_I 0, o_call 252, o_I 8, o_bin 8, o_I 17, o_bin 10, o_I 8, o_bin 1, o_is 11, o_al 0, o_getR 11 84, o_il 3, o_iald, o_il 9, o_I 2, o_I 0, o_I 0, o_call 252, o_I 8, o_bin 8, o_I 33, o_bin 10, o_I 24, o_bin 1, o_is 12, o_al 0, o_getR 11 84, o_il 3, o_I 1, o_bin 0, o_iald, o_il 11, o_un 1, o_il 10, o_un 1, o_binL 2, o_L 4, o_call 244, o_un 2, o_bin 0, o_is 13, o_al 0, o_getR 11 84, o_il 3, o_I 2, o_bin 0, o_iald, o_il 12, o_un 1, o_il 10, o_un 1, o_binL 2, o_il 10, o_un 1, o_il 10, o_un 1, o_binL 2, o_binL 0, o_L 8, o_call 244, o_un 2, o_bin 0, o_is 14, o_il 13, o_il 14, o_call 237, o_if 0 25, o_al 0, o_getR 11 86, o_il 4, o_I 48, o_il 14, o_bin 2, o_bin 0, o_il 13, o_bin 0, o_al 0, o_getR 11 84, o_il 3, o_I 4, o_bin 0, o_iald, o_iast, o_ft 25]),
  (699, [o_iinc 9 1, o_goto 23]),
  (705, [o_ret 0])]
/-- CartoonHouseModel.faded(IIII)I -/
def p_327 : ABl := [(0, [o_il 1, o_I (-1), o_ic 0 1, o_il 2, o_I (-1), o_ic 0 1, o_il 1, o_il 2, o_il 3, o_il 4, o_call 328, o_ret 1]),
  (19, [o_I 2, o_il 3, o_bin 2, o_il 4, o_ic 3 2, o_il 1, o_ret 1]),
  (29, [o_il 2, o_ret 1])]
/-- CartoonHouseModel.mix3(IIII)I -/
def p_328 : ABl := [(0, [o_I 0, o_is 4, o_I 16, o_is 5, o_ft 1]),
  (7, [o_il 5, o_if 2 2, o_il 4, o_I 8, o_bin 6, o_il 0, o_il 5, o_bin 7, o_I 255, o_bin 3, o_un 1, o_il 3, o_il 2, o_bin 1, o_un 1, o_binL 2, o_il 1, o_il 5, o_bin 7, o_I 255, o_bin 3, o_un 1, o_il 2, o_un 1, o_binL 2, o_binL 0, o_il 3, o_un 1, o_call 243, o_bin 4, o_is 4, o_iinc 5 (-8), o_goto 1]),
  (58, [o_il 4, o_ret 1])]
/-- CartoonHouseModel.blurred(III)I -/
def p_329 : ABl := [(0, [o_al 0, o_getR 11 86, o_I 1536, o_il 1, o_bin 2, o_I 48, o_il 3, o_bin 2, o_bin 0, o_il 2, o_bin 0, o_iald, o_I (-1), o_ic 1 1, o_I (-1), o_ret 1]),
  (23, [o_I 0, o_is 4, o_I 0, o_is 5, o_I 0, o_is 6, o_I 0, o_is 7, o_il 3, o_I 1, o_bin 1, o_is 8, o_ft 2]),
  (40, [o_il 8, o_il 3, o_I 1, o_bin 0, o_ic 4 9, o_il 2, o_I 1, o_bin 1, o_is 9, o_ft 3]),
  (53, [o_il 9, o_il 2, o_I 1, o_bin 0, o_ic 4 8, o_il 9, o_il 8, o_call 237, o_if 0 4, o_al 0, o_getR 11 86, o_I 1536, o_il 1, o_bin 2, o_I 48, o_il 8, o_bin 2, o_bin 0, o_il 9, o_bin 0, o_iald, o_goto 5]),
  (93, [o_I (-1), o_ft 5]),
  (94, [o_is 10, o_il 10, o_I (-1), o_ic 1 6, o_goto 7]),
  (105, [o_iinc 4 1, o_il 5, o_il 10, o_I 16, o_bin 7, o_bin 0, o_is 5, o_il 6, o_il 10, o_I 8, o_bin 7, o_I 255, o_bin 3, o_bin 0, o_is 6, o_il 7, o_il 10, o_I 255, o_bin 3, o_bin 0, o_is 7, o_ft 7]),
  (143, [o_iinc 9 1, o_goto 3]),
  (149, [o_iinc 8 1, o_goto 2]),
  (155, [o_il 5, o_un 1, o_il 4, o_un 1, o_call 243, o_I 16, o_bin 6, o_il 6, o_un 1, o_il 4, o_un 1, o_call 243, o_I 8, o_bin 6, o_bin 4, o_il 7, o_un 1, o_il 4, o_un 1, o_call 243, o_bin 4, o_ret 1])]
/-- CartoonHouseModel.drawn(II)I -/
def p_330 : ABl := [(0, [o_al 0, o_il 1, o_call 324, o_if 0 1, o_il 2, o_call 287, o_if 1 2, o_ft 1]),
  (15, [o_I (-1), o_ret 1]),
  (17, [o_al 0, o_il 1, o_il 2, o_call 325, o_I 0, o_is 3, o_I 0, o_is 4, o_ft 3]),
  (28, [o_il 4, o_I 1536, o_ic 3 6, o_il 3, o_al 0, o_getR 11 86, o_I 1536, o_il 1, o_bin 2, o_il 4, o_bin 0, o_iald, o_I (-1), o_ic 0 4, o_I 1, o_goto 5]),
  (58, [o_I 0, o_ft 5]),
  (59, [o_bin 0, o_is 3, o_iinc 4 1, o_goto 3]),
  (67, [o_il 3, o_ret 1])]
/-- CartoonHouseModel.film(III)I -/
def p_331 : ABl := [(0, [o_al 0, o_il 1, o_call 324, o_if 0 1, o_il 2, o_call 287, o_if 0 1, o_il 3, o_call 287, o_if 0 1, o_il 3, o_il 2, o_ic 2 1, o_il 3, o_il 2, o_bin 1, o_I 7, o_ic 5 2, o_ft 1]),
  (35, [o_I (-1), o_ret 1]),
  (37, [o_al 0, o_il 3, o_il 2, o_bin 1, o_I 1, o_bin 0, o_putI 11 87, o_al 0, o_I 0, o_putI 11 7, o_I 0, o_is 4, o_ft 3]),
  (54, [o_il 4, o_I 1536, o_ic 3 4, o_al 0, o_getR 11 90, o_il 4, o_I (-1), o_iast, o_iinc 4 1, o_goto 3]),
  (76, [o_I 0, o_is 4, o_ft 5]),
  (79, [o_il 4, o_al 0, o_getI 11 87, o_ic 3 10, o_al 0, o_il 1, o_il 2, o_il 4, o_bin 0, o_call 325, o_I 0, o_is 5, o_ft 6]),
  (100, [o_il 5, o_I 1536, o_ic 3 7, o_al 0, o_getR 11 89, o_I 1536, o_il 4, o_bin 2, o_il 5, o_bin 0, o_al 0, o_getR 11 86, o_I 1536, o_il 1, o_bin 2, o_il 5, o_bin 0, o_iald, o_iast, o_iinc 5 1, o_goto 6]),
  (141, [o_al 0, o_I 1536, o_il 4, o_bin 2, o_call 332, o_I 0, o_is 5, o_ft 8]),
  (154, [o_il 5, o_I 1536, o_ic 3 9, o_al 0, o_getR 11 90, o_il 5, o_al 0, o_getR 11 89, o_I 1536, o_il 4, o_bin 2, o_il 5, o_bin 0, o_iald, o_iast, o_iinc 5 1, o_goto 8]),
  (189, [o_iinc 4 1, o_goto 5]),
  (195, [o_al 0, o_al 0, o_getI 11 7, o_putI 11 88, o_al 0, o_getI 11 7, o_ret 1])]
/-- CartoonHouseModel.writesFrame(I)V -/
def p_332 : ABl := [(0, [o_I 0, o_is 2, o_ft 1]),
  (2, [o_il 2, o_I 1536, o_ic 3 10, o_I 0, o_is 3, o_ft 2]),
  (11, [o_il 2, o_I 1536, o_ic 3 3, o_il 3, o_I 255, o_ic 3 3, o_al 0, o_getR 11 89, o_il 1, o_il 2, o_bin 0, o_iald, o_al 0, o_getR 11 90, o_il 2, o_iald, o_ic 1 3, o_iinc 3 1, o_iinc 2 1, o_goto 2]),
  (51, [o_I 0, o_is 4, o_ft 4]),
  (54, [o_il 2, o_il 4, o_bin 0, o_I 1536, o_ic 3 5, o_il 4, o_I 255, o_ic 3 5, o_al 0, o_getR 11 89, o_il 1, o_il 2, o_bin 0, o_il 4, o_bin 0, o_iald, o_al 0, o_getR 11 90, o_il 2, o_il 4, o_bin 0, o_iald, o_ic 0 5, o_iinc 4 1, o_goto 4]),
  (101, [o_al 0, o_il 3, o_call 233, o_al 0, o_il 4, o_call 233, o_I 0, o_is 5, o_ft 6]),
  (115, [o_il 5, o_il 4, o_ic 3 9, o_al 0, o_getR 11 89, o_il 1, o_il 2, o_bin 0, o_iald, o_is 6, o_il 6, o_I (-1), o_ic 1 7, o_al 0, o_I 0, o_call 233, o_goto 8]),
  (146, [o_al 0, o_I 1, o_call 233, o_al 0, o_il 6, o_I 16, o_bin 7, o_call 233, o_al 0, o_il 6, o_I 8, o_bin 7, o_I 255, o_bin 3, o_call 233, o_al 0, o_il 6, o_I 255, o_bin 3, o_call 233, o_ft 8]),
  (183, [o_iinc 2 1, o_iinc 5 1, o_goto 6]),
  (192, [o_goto 1]),
  (195, [o_ret 0])]
/-- CartoonHouseModel.played(III)I -/
def p_333 : ABl := [(0, [o_il 1, o_I 0, o_al 0, o_getI 11 87, o_I 1, o_bin 1, o_call 219, o_if 0 1, o_il 2, o_il 3, o_call 237, o_if 1 2, o_ft 1]),
  (22, [o_I (-3), o_ret 1]),
  (25, [o_al 0, o_getR 11 89, o_I 1536, o_il 1, o_bin 2, o_I 48, o_il 3, o_bin 2, o_bin 0, o_il 2, o_bin 0, o_iald, o_ret 1])]
/-- CartoonHouseModel.flicker(II)I -/
def p_334 : ABl := [(0, [o_al 0, o_il 1, o_call 324, o_if 0 1, o_il 2, o_I 1, o_I 118, o_call 219, o_if 1 2, o_ft 1]),
  (18, [o_I (-1), o_ret 1]),
  (20, [o_al 0, o_il 1, o_il 2, o_I 1, o_bin 1, o_call 325, o_I 0, o_is 3, o_ft 3]),
  (30, [o_il 3, o_I 1536, o_ic 3 4, o_al 0, o_getR 11 90, o_il 3, o_al 0, o_getR 11 86, o_I 1536, o_il 1, o_bin 2, o_il 3, o_bin 0, o_iald, o_iast, o_iinc 3 1, o_goto 3]),
  (61, [o_al 0, o_il 1, o_il 2, o_I 1, o_bin 0, o_call 325, o_I 0, o_is 3, o_ft 5]),
  (71, [o_il 3, o_I 1536, o_ic 3 6, o_al 0, o_getR 11 91, o_il 3, o_al 0, o_getR 11 86, o_I 1536, o_il 1, o_bin 2, o_il 3, o_bin 0, o_iald, o_iast, o_iinc 3 1, o_goto 5]),
  (102, [o_al 0, o_il 1, o_il 2, o_call 325, o_I 0, o_is 3, o_I 0, o_is 4, o_ft 7]),
  (113, [o_il 4, o_I 1536, o_ic 3 10, o_il 3, o_al 0, o_getR 11 86, o_I 1536, o_il 1, o_bin 2, o_il 4, o_bin 0, o_iald, o_al 0, o_getR 11 90, o_il 4, o_iald, o_ic 0 8, o_al 0, o_getR 11 90, o_il 4, o_iald, o_al 0, o_getR 11 91, o_il 4, o_iald, o_ic 1 8, o_I 1, o_goto 9]),
  (166, [o_I 0, o_ft 9]),
  (167, [o_bin 0, o_is 3, o_iinc 4 1, o_goto 7]),
  (175, [o_il 3, o_ret 1])]
/-- CartoonHouseModel.track(II)I -/
def p_335 : ABl := [(0, [o_al 0, o_call 217, o_il 1, o_I 0, o_I 2, o_call 219, o_if 0 1, o_il 2, o_I 0, o_I 999, o_call 219, o_if 1 2, o_ft 1]),
  (24, [o_I (-1), o_ret 1]),
  (26, [o_I 0, o_is 3, o_al 0, o_getI 11 3, o_if 5 3, o_I 1, o_goto 4]),
  (39, [o_I 0, o_ft 4]),
  (40, [o_is 4, o_ft 5]),
  (42, [o_al 0, o_call 221, o_if 0 11, o_il 4, o_if 0 11, o_il 3, o_I 100, o_ic 1 6, o_al 0, o_al 0, o_getI 11 4, o_call 224, o_ft 6]),
  (68, [o_al 0, o_I 1, o_I (-100), o_I 100, o_call 220, o_is 5, o_al 0, o_call 221, o_if 0 7, o_al 0, o_getR 11 95, o_il 3, o_il 5, o_iast, o_iinc 3 1, o_ft 7]),
  (97, [o_al 0, o_getI 11 4, o_al 0, o_getI 11 3, o_ic 3 8, o_I 1, o_goto 9]),
  (112, [o_I 0, o_ft 9]),
  (113, [o_is 4, o_il 4, o_if 0 10, o_al 0, o_I 32, o_call 225, o_ft 10]),
  (126, [o_goto 5]),
  (129, [o_al 0, o_call 221, o_if 1 12, o_al 0, o_call 226, o_ret 1]),
  (141, [o_al 0, o_getR 11 93, o_il 1, o_il 3, o_iast, o_al 0, o_getR 11 94, o_il 1, o_il 2, o_iast, o_I 0, o_is 5, o_ft 13]),
  (158, [o_il 5, o_il 3, o_ic 3 14, o_al 0, o_getR 11 92, o_I 100, o_il 1, o_bin 2, o_il 5, o_bin 0, o_al 0, o_getR 11 95, o_il 5, o_iald, o_iast, o_iinc 5 1, o_goto 13]),
  (189, [o_il 3, o_ret 1])]
/-- CartoonHouseModel.mix(I)I -/
def p_336 : ABl := [(0, [o_I 0, o_is 2, o_I 0, o_is 3, o_ft 1]),
  (4, [o_il 3, o_I 3, o_ic 3 4, o_il 1, o_al 0, o_getR 11 94, o_il 3, o_iald, o_bin 1, o_is 4, o_il 2, o_il 4, o_I 0, o_al 0, o_getR 11 93, o_il 3, o_iald, o_I 1, o_bin 1, o_call 219, o_if 0 2, o_al 0, o_getR 11 92, o_I 100, o_il 3, o_bin 2, o_il 4, o_bin 0, o_iald, o_goto 3]),
  (52, [o_I 0, o_ft 3]),
  (53, [o_bin 0, o_is 2, o_iinc 3 1, o_goto 1]),
  (61, [o_il 2, o_I (-128), o_ic 3 5, o_I (-128), o_goto 7]),
  (72, [o_il 2, o_I 127, o_ic 5 6, o_I 127, o_goto 7]),
  (83, [o_il 2, o_ft 7]),
  (84, [o_ret 1])]
/-- CartoonHouseModel.count(I)I -/
def p_337 : ABl := [(0, [o_I 0, o_is 2, o_il 1, o_sw 0 15 [1, 4, 7, 8, 9, 10, 11, 12, 13, 14]]),
  (56, [o_I 0, o_is 3, o_ft 2]),
  (58, [o_il 3, o_I 16, o_ic 3 3, o_il 2, o_al 0, o_getR 11 8, o_il 3, o_iald, o_bin 0, o_is 2, o_iinc 3 1, o_goto 2]),
  (79, [o_il 2, o_ret 1]),
  (81, [o_I 0, o_is 3, o_ft 5]),
  (83, [o_il 3, o_I 16, o_ic 3 6, o_il 2, o_al 0, o_getR 11 22, o_il 3, o_iald, o_bin 0, o_is 2, o_iinc 3 1, o_goto 5]),
  (104, [o_il 2, o_ret 1]),
  (106, [o_al 0, o_getI 11 50, o_ret 1]),
  (111, [o_al 0, o_getI 11 82, o_ret 1]),
  (116, [o_al 0, o_getI 11 87, o_ret 1]),
  (121, [o_al 0, o_getI 11 88, o_ret 1]),
  (126, [o_al 0, o_getI 11 65, o_ret 1]),
  (131, [o_al 0, o_getI 11 45, o_ret 1]),
  (136, [o_al 0, o_getI 11 70, o_ret 1]),
  (141, [o_al 0, o_getI 11 2, o_ret 1]),
  (146, [o_I (-1), o_ret 1])]
/-- CartoonHouse$Kind.isCalled(LCartoonHouse$Bytes;II)Z -/
def p_338 : ABl := [(0, [o_il 3, o_il 2, o_bin 1, o_al 0, o_getR 12 0, o_call 339, o_ic 0 1, o_I 0, o_ret 1]),
  (15, [o_I 0, o_is 4, o_ft 2]),
  (18, [o_il 4, o_al 0, o_getR 12 0, o_call 339, o_ic 3 4, o_al 1, o_il 2, o_il 4, o_bin 0, o_call 12, o_al 0, o_getR 12 0, o_il 4, o_call 341, o_ic 0 3, o_I 0, o_ret 1]),
  (52, [o_iinc 4 1, o_goto 2]),
  (58, [o_I 1, o_ret 1])]
/-- java/lang/String.length()I -/
def p_339 : ABl := [(0, [o_al 0, o_getR 13 0, o_alen, o_al 0, o_call 340, o_bin 7, o_ret 1])]
/-- java/lang/String.coder()B -/
def p_340 : ABl := [(0, [o_I 1, o_if 0 1, o_al 0, o_getI 13 1, o_goto 2]),
  (13, [o_I 1, o_ft 2]),
  (14, [o_ret 1])]
/-- java/lang/String.charAt(I)C -/
def p_341 : ABl := [(0, [o_al 0, o_call 342, o_if 0 1, o_al 0, o_getR 13 0, o_il 1, o_call 351, o_ret 1]),
  (16, [o_al 0, o_getR 13 0, o_il 1, o_call 352, o_ret 1])]
/-- java/lang/String.isLatin1()Z -/
def p_342 : ABl := [(0, [o_I 1, o_if 0 1, o_al 0, o_getI 13 1, o_if 1 1, o_I 1, o_goto 2]),
  (17, [o_I 0, o_ft 2]),
  (18, [o_ret 1])]
/-- java/lang/String.checkIndex(II)V -/
def p_343 : ABl := [(0, [o_il 0, o_il 1, o_cR 27, o_call 358, o_pop, o_ret 0])]
/-- java/lang/Enum.ordinal()I -/
def p_344 : ABl := [(0, [o_al 0, o_getI 12 3, o_ret 1])]
/-- java/lang/Integer.bitCount(I)I -/
def p_345 : ABl := [(0, [o_il 0, o_il 0, o_I 1, o_bin 8, o_I 1431655765, o_bin 3, o_bin 1, o_is 0, o_il 0, o_I 858993459, o_bin 3, o_il 0, o_I 2, o_bin 8, o_I 858993459, o_bin 3, o_bin 0, o_is 0, o_il 0, o_il 0, o_I 4, o_bin 8, o_bin 0, o_I 252645135, o_bin 3, o_is 0, o_il 0, o_il 0, o_I 8, o_bin 8, o_bin 0, o_is 0, o_il 0, o_il 0, o_I 16, o_bin 8, o_bin 0, o_is 0, o_il 0, o_I 63, o_bin 3, o_ret 1])]
/-- java/lang/Math.abs(I)I -/
def p_346 : ABl := [(0, [o_il 0, o_if 3 1, o_il 0, o_un 0, o_goto 2]),
  (9, [o_il 0, o_ft 2]),
  (10, [o_ret 1])]
/-- java/lang/Math.max(II)I -/
def p_347 : ABl := [(0, [o_il 0, o_il 1, o_ic 2 1, o_il 0, o_goto 2]),
  (9, [o_il 1, o_ft 2]),
  (10, [o_ret 1])]
/-- java/lang/Math.floorDiv(JJ)J -/
def p_348 : ABl := [(0, [o_ll 0, o_ll 2, o_binL 3, o_lst 4, o_ll 0, o_ll 2, o_binL 6, o_L 0, o_binL 5, o_if 3 1, o_ll 4, o_ll 2, o_binL 2, o_ll 0, o_binL 5, o_if 0 1, o_ll 4, o_L 1, o_binL 1, o_ret 2]),
  (27, [o_ll 4, o_ret 2])]
/-- java/lang/Math.min(II)I -/
def p_349 : ABl := [(0, [o_il 0, o_il 1, o_ic 4 1, o_il 0, o_goto 2]),
  (9, [o_il 1, o_ft 2]),
  (10, [o_ret 1])]
/-- java/lang/Math.floorDiv(II)I -/
def p_350 : ABl := [(0, [o_il 0, o_il 1, o_bin 9, o_is 2, o_il 0, o_il 1, o_bin 5, o_if 3 1, o_il 2, o_il 1, o_bin 2, o_il 0, o_ic 0 1, o_il 2, o_I 1, o_bin 1, o_ret 1]),
  (21, [o_il 2, o_ret 1])]
/-- java/lang/StringLatin1.charAt([BI)C -/
def p_351 : ABl := [(0, [o_il 1, o_al 0, o_alen, o_call 343, o_al 0, o_il 1, o_bald, o_I 255, o_bin 3, o_un 4, o_ret 1])]
/-- java/lang/StringUTF16.charAt([BI)C -/
def p_352 : ABl := [(0, [o_il 1, o_al 0, o_call 353, o_al 0, o_il 1, o_call 355, o_ret 1])]
/-- java/lang/StringUTF16.checkIndex(I[B)V -/
def p_353 : ABl := [(0, [o_il 0, o_al 1, o_call 354, o_call 343, o_ret 0])]
/-- java/lang/StringUTF16.length([B)I -/
def p_354 : ABl := [(0, [o_al 0, o_alen, o_I 1, o_bin 7, o_ret 1])]
/-- java/lang/StringUTF16.getChar([BI)C -/
def p_355 : ABl := [(0, [o_bad]),
  (18, [o_bad]),
  (28, [o_il 1, o_I 1, o_bin 6, o_is 1, o_al 0, o_il 1, o_iinc 1 1, o_bald, o_I 255, o_bin 3, o_bad])]
/-- java/util/Arrays.fill([II)V -/
def p_356 : ABl := [(0, [o_I 0, o_is 2, o_al 0, o_alen, o_is 3, o_ft 1]),
  (5, [o_il 2, o_il 3, o_ic 3 2, o_al 0, o_il 2, o_il 1, o_iast, o_iinc 2 1, o_goto 1]),
  (20, [o_ret 0])]
/-- java/util/Arrays.copyOf([BI)[B -/
def p_357 : ABl := [(0, [o_il 1, o_al 0, o_alen, o_ic 1 1, o_al 0, o_bad]),
  (14, [o_il 1, o_newa 21, o_as 2, o_al 0, o_I 0, o_al 2, o_I 0, o_al 0, o_alen, o_il 1, o_call 349, o_cp, o_al 2, o_ret 3])]
/-- jdk/internal/util/Preconditions.checkIndex(IILjava/util/function/BiFunction;)I -/
def p_358 : ABl := [(0, [o_il 0, o_if 2 1, o_il 0, o_il 1, o_ic 2 2, o_ft 1]),
  (9, [o_al 2, o_il 0, o_il 1, o_bad]),
  (16, [o_il 0, o_ret 1])]
/-- CartoonHouseLaw.law([I)Z -/
def p_359 : ABl := [(0, [o_new 10, o_dup, o_call 132, o_as 1, o_new 11, o_dup, o_call 212, o_as 2, o_I 0, o_is 3, o_ft 1]),
  (18, [o_il 3, o_al 0, o_alen, o_I 6, o_bin 1, o_ic 4 54, o_al 0, o_il 3, o_iald, o_I 63, o_bin 3, o_sw 0 53 [2, 3, 4, 5, 6, 7, 8, 9, 10, 11, 12, 13, 14, 15, 16, 17, 18, 19, 20, 21, 22, 23, 24, 25, 26, 27, 28, 29, 30, 31, 32, 33, 34, 35, 36, 37, 38, 39, 40, 41, 42, 43, 44, 45, 46, 47, 48, 49, 50, 51, 52]]),
  (252, [o_al 1, o_al 0, o_il 3, o_I 1, o_bin 0, o_iald, o_al 0, o_il 3, o_I 2, o_bin 0, o_iald, o_al 0, o_il 3, o_I 3, o_bin 0, o_iald, o_al 0, o_il 3, o_I 4, o_bin 0, o_iald, o_al 0, o_il 3, o_I 5, o_bin 0, o_iald, o_call 133, o_al 2, o_al 0, o_il 3, o_I 1, o_bin 0, o_iald, o_al 0, o_il 3, o_I 2, o_bin 0, o_iald, o_al 0, o_il 3, o_I 3, o_bin 0, o_iald, o_al 0, o_il 3, o_I 4, o_bin 0, o_iald, o_al 0, o_il 3, o_I 5, o_bin 0, o_iald, o_call 213, o_ic 0 53, o_I 0, o_ret 1]),
  (315, [o_al 1, o_al 0, o_il 3, o_I 1, o_bin 0, o_iald, o_call 134, o_al 2, o_al 0, o_il 3, o_I 1, o_bin 0, o_iald, o_call 214, o_ic 0 53, o_I 0, o_ret 1]),
  (338, [o_al 1, o_al 0, o_il 3, o_I 1, o_bin 0, o_iald, o_call 135, o_al 2, o_al 0, o_il 3, o_I 1, o_bin 0, o_iald, o_call 215, o_ic 0 53, o_I 0, o_ret 1]),
  (361, [o_al 1, o_al 0, o_il 3, o_I 1, o_bin 0, o_iald, o_call 136, o_al 2, o_al 0, o_il 3, o_I 1, o_bin 0, o_iald, o_call 216, o_ic 0 53, o_I 0, o_ret 1]),
  (384, [o_al 1, o_al 0, o_il 3, o_I 1, o_bin 0, o_iald, o_al 0, o_il 3, o_I 2, o_bin 0, o_iald, o_call 140, o_al 2, o_al 0, o_il 3, o_I 1, o_bin 0, o_iald, o_al 0, o_il 3, o_I 2, o_bin 0, o_iald, o_call 228, o_ic 0 53, o_I 0, o_ret 1]),
  (417, [o_al 1, o_al 0, o_il 3, o_I 1, o_bin 0, o_iald, o_call 142, o_al 2, o_al 0, o_il 3, o_I 1, o_bin 0, o_iald, o_call 231, o_ic 0 53, o_I 0, o_ret 1]),
  (440, [o_al 1, o_al 0, o_il 3, o_I 1, o_bin 0, o_iald, o_al 0, o_il 3, o_I 2, o_bin 0, o_iald, o_al 0, o_il 3, o_I 3, o_bin 0, o_iald, o_call 143, o_al 2, o_al 0, o_il 3, o_I 1, o_bin 0, o_iald, o_al 0, o_il 3, o_I 2, o_bin 0, o_iald, o_al 0, o_il 3, o_I 3, o_bin 0, o_iald, o_call 234, o_ic 0 53, o_I 0, o_ret 1]),
  (483, [o_al 1, o_al 0, o_il 3, o_I 1, o_bin 0, o_iald, o_al 0, o_il 3, o_I 2, o_bin 0, o_iald, o_al 0, o_il 3, o_I 3, o_bin 0, o_iald, o_al 0, o_il 3, o_I 4, o_bin 0, o_iald, o_call 144, o_al 2, o_al 0, o_il 3, o_I 1, o_bin 0, o_iald, o_al 0, o_il 3, o_I 2, o_bin 0, o_iald, o_al 0, o_il 3, o_I 3, o_bin 0, o_iald, o_al 0, o_il 3, o_I 4, o_bin 0, o_iald, o_call 236, o_ic 0 53, o_I 0, o_ret 1]),
  (536, [o_al 1, o_al 0, o_il 3, o_I 1, o_bin 0, o_iald, o_al 0, o_il 3, o_I 2, o_bin 0, o_iald, o_al 0, o_il 3, o_I 3, o_bin 0, o_iald, o_call 147, o_al 2, o_al 0, o_il 3, o_I 1, o_bin 0, o_iald, o_al 0, o_il 3, o_I 2, o_bin 0, o_iald, o_al 0, o_il 3, o_I 3, o_bin 0, o_iald, o_call 245, o_ic 0 53, o_I 0, o_ret 1]),
  (579, [o_al 1, o_al 0, o_il 3, o_I 1, o_bin 0, o_iald, o_al 0, o_il 3, o_I 2, o_bin 0, o_iald, o_call 148, o_al 2, o_al 0, o_il 3, o_I 1, o_bin 0, o_iald, o_al 0, o_il 3, o_I 2, o_bin 0, o_iald, o_call 249, o_ic 0 53, o_I 0, o_ret 1]),
  (612, [o_al 1, o_al 0, o_il 3, o_I 1, o_bin 0, o_iald, o_al 0, o_il 3, o_I 2, o_bin 0, o_iald, o_al 0, o_il 3, o_I 3, o_bin 0, o_iald, o_al 0, o_il 3, o_I 4, o_bin 0, o_iald, o_al 0, o_il 3, o_I 5, o_bin 0, o_iald, o_call 149, o_al 2, o_al 0, o_il 3, o_I 1, o_bin 0, o_iald, o_al 0, o_il 3, o_I 2, o_bin 0, o_iald, o_al 0, o_il 3, o_I 3, o_bin 0, o_iald, o_al 0, o_il 3, o_I 4, o_bin 0, o_iald, o_al 0, o_il 3, o_I 5, o_bin 0, o_iald, o_call 250, o_ic 0 53, o_I 0, o_ret 1]),
  (675, [o_al 1, o_al 0, o_il 3, o_I 1, o_bin 0, o_iald, o_al 0, o_il 3, o_I 2, o_bin 0, o_iald, o_call 152, o_al 2, o_al 0, o_il 3, o_I 1, o_bin 0, o_iald, o_al 0, o_il 3, o_I 2, o_bin 0, o_iald, o_call 256, o_ic 0 53, o_I 0, o_ret 1]),
  (708, [o_al 1, o_al 0, o_il 3, o_I 1, o_bin 0, o_iald, o_al 0, o_il 3, o_I 2, o_bin 0, o_iald, o_call 154, o_al 2, o_al 0, o_il 3, o_I 1, o_bin 0, o_iald, o_al 0, o_il 3, o_I 2, o_bin 0, o_iald, o_call 259, o_ic 0 53, o_I 0, o_ret 1]),
  (741, [o_al 1, o_al 0, o_il 3, o_I 1, o_bin 0, o_iald, o_al 0, o_il 3, o_I 2, o_bin 0, o_iald, o_al 0, o_il 3, o_I 3, o_bin 0, o_iald, o_call 155, o_al 2, o_al 0, o_il 3, o_I 1, o_bin 0, o_iald, o_al 0, o_il 3, o_I 2, o_bin 0, o_iald, o_al 0, o_il 3, o_I 3, o_bin 0, o_iald, o_call 260, o_ic 0 53, o_I 0, o_ret 1]),
  (784, [o_al 1, o_al 0, o_il 3, o_I 1, o_bin 0, o_iald, o_al 0, o_il 3, o_I 2, o_bin 0, o_iald, o_al 0, o_il 3, o_I 3, o_bin 0, o_iald, o_call 156, o_al 2, o_al 0, o_il 3, o_I 1, o_bin 0, o_iald, o_al 0, o_il 3, o_I 2, o_bin 0, o_iald, o_al 0, o_il 3, o_I 3, o_bin 0, o_iald, o_call 262, o_ic 0 53, o_I 0, o_ret 1]),
  (827, [o_al 1, o_al 0, o_il 3, o_I 1, o_bin 0, o_iald, o_call 157, o_al 2, o_al 0, o_il 3, o_I 1, o_bin 0, o_iald, o_call 263, o_ic 0 53, o_I 0, o_ret 1]),
  (850, [o_al 1, o_al 0, o_il 3, o_I 1, o_bin 0, o_iald, o_al 0, o_il 3, o_I 2, o_bin 0, o_iald, o_call 159, o_al 2, o_al 0, o_il 3, o_I 1, o_bin 0, o_iald, o_al 0, o_il 3, o_I 2, o_bin 0, o_iald, o_call 268, o_ic 0 53, o_I 0, o_ret 1]),
  (883, [o_al 1, o_al 0, o_il 3, o_I 1, o_bin 0, o_iald, o_al 0, o_il 3, o_I 2, o_bin 0, o_iald, o_al 0, o_il 3, o_I 3, o_bin 0, o_iald, o_call 160, o_al 2, o_al 0, o_il 3, o_I 1, o_bin 0, o_iald, o_al 0, o_il 3, o_I 2, o_bin 0, o_iald, o_al 0, o_il 3, o_I 3, o_bin 0, o_iald, o_call 269, o_ic 0 53, o_I 0, o_ret 1]),
  (926, [o_al 1, o_al 0, o_il 3, o_I 1, o_bin 0, o_iald, o_call 161, o_al 2, o_al 0, o_il 3, o_I 1, o_bin 0, o_iald, o_call 270, o_ic 0 53, o_I 0, o_ret 1]),
  (949, [o_al 1, o_al 0, o_il 3, o_I 1, o_bin 0, o_iald, o_al 0, o_il 3, o_I 2, o_bin 0, o_iald, o_call 162, o_al 2, o_al 0, o_il 3, o_I 1, o_bin 0, o_iald, o_al 0, o_il 3, o_I 2, o_bin 0, o_iald, o_call 271, o_ic 0 53, o_I 0, o_ret 1]),
  (982, [o_al 1, o_call 163, o_al 2, o_call 272, o_ic 0 53, o_I 0, o_ret 1]),
  (995, [o_al 1, o_al 0, o_il 3, o_I 1, o_bin 0, o_iald, o_al 0, o_il 3, o_I 2, o_bin 0, o_iald, o_call 164, o_al 2, o_al 0, o_il 3, o_I 1, o_bin 0, o_iald, o_al 0, o_il 3, o_I 2, o_bin 0, o_iald, o_call 273, o_ic 0 53, o_I 0, o_ret 1]),
  (1028, [o_al 1, o_al 0, o_il 3, o_I 1, o_bin 0, o_iald, o_call 165, o_al 2, o_al 0, o_il 3, o_I 1, o_bin 0, o_iald, o_call 279, o_ic 0 53, o_I 0, o_ret 1]),
  (1051, [o_al 1, o_al 0, o_il 3, o_I 1, o_bin 0, o_iald, o_al 0, o_il 3, o_I 2, o_bin 0, o_iald, o_al 0, o_il 3, o_I 3, o_bin 0, o_iald, o_al 0, o_il 3, o_I 4, o_bin 0, o_iald, o_al 0, o_il 3, o_I 5, o_bin 0, o_iald, o_call 166, o_al 2, o_al 0, o_il 3, o_I 1, o_bin 0, o_iald, o_al 0, o_il 3, o_I 2, o_bin 0, o_iald, o_al 0, o_il 3, o_I 3, o_bin 0, o_iald, o_al 0, o_il 3, o_I 4, o_bin 0, o_iald, o_al 0, o_il 3, o_I 5, o_bin 0, o_iald, o_call 280, o_ic 0 53, o_I 0, o_ret 1]),
  (1114, [o_al 1, o_al 0, o_il 3, o_I 1, o_bin 0, o_iald, o_al 0, o_il 3, o_I 2, o_bin 0, o_iald, o_al 0, o_il 3, o_I 3, o_bin 0, o_iald, o_al 0, o_il 3, o_I 4, o_bin 0, o_iald, o_call 167, o_al 2, o_al 0, o_il 3, o_I 1, o_bin 0, o_iald, o_al 0, o_il 3, o_I 2, o_bin 0, o_iald, o_al 0, o_il 3, o_I 3, o_bin 0, o_iald, o_al 0, o_il 3, o_I 4, o_bin 0, o_iald, o_call 283, o_ic 0 53, o_I 0, o_ret 1]),
  (1167, [o_al 1, o_al 0, o_il 3, o_I 1, o_bin 0, o_iald, o_al 0, o_il 3, o_I 2, o_bin 0, o_iald, o_call 170, o_al 2, o_al 0, o_il 3, o_I 1, o_bin 0, o_iald, o_al 0, o_il 3, o_I 2, o_bin 0, o_iald, o_call 284, o_ic 0 53, o_I 0, o_ret 1]),
  (1200, [o_al 1, o_al 0, o_il 3, o_I 1, o_bin 0, o_iald, o_al 0, o_il 3, o_I 2, o_bin 0, o_iald, o_al 0, o_il 3, o_I 3, o_bin 0, o_iald, o_call 172, o_al 2, o_al 0, o_il 3, o_I 1, o_bin 0, o_iald, o_al 0, o_il 3, o_I 2, o_bin 0, o_iald, o_al 0, o_il 3, o_I 3, o_bin 0, o_iald, o_call 285, o_ic 0 53, o_I 0, o_ret 1]),
  (1243, [o_al 1, o_al 0, o_il 3, o_I 1, o_bin 0, o_iald, o_al 0, o_il 3, o_I 2, o_bin 0, o_iald, o_call 174, o_al 2, o_al 0, o_il 3, o_I 1, o_bin 0, o_iald, o_al 0, o_il 3, o_I 2, o_bin 0, o_iald, o_call 290, o_ic 0 53, o_I 0, o_ret 1]),
  (1276, [o_al 1, o_al 0, o_il 3, o_I 1, o_bin 0, o_iald, o_al 0, o_il 3, o_I 2, o_bin 0, o_iald, o_al 0, o_il 3, o_I 3, o_bin 0, o_iald, o_call 175, o_al 2, o_al 0, o_il 3, o_I 1, o_bin 0, o_iald, o_al 0, o_il 3, o_I 2, o_bin 0, o_iald, o_al 0, o_il 3, o_I 3, o_bin 0, o_iald, o_call 293, o_ic 0 53, o_I 0, o_ret 1]),
  (1319, [o_al 1, o_al 0, o_il 3, o_I 1, o_bin 0, o_iald, o_al 0, o_il 3, o_I 2, o_bin 0, o_iald, o_al 0, o_il 3, o_I 3, o_bin 0, o_iald, o_al 0, o_il 3, o_I 4, o_bin 0, o_iald, o_call 176, o_al 2, o_al 0, o_il 3, o_I 1, o_bin 0, o_iald, o_al 0, o_il 3, o_I 2, o_bin 0, o_iald, o_al 0, o_il 3, o_I 3, o_bin 0, o_iald, o_al 0, o_il 3, o_I 4, o_bin 0, o_iald, o_call 297, o_ic 0 53, o_I 0, o_ret 1]),
  (1372, [o_al 1, o_al 0, o_il 3, o_I 1, o_bin 0, o_iald, o_al 0, o_il 3, o_I 2, o_bin 0, o_iald, o_al 0, o_il 3, o_I 3, o_bin 0, o_iald, o_al 0, o_il 3, o_I 4, o_bin 0, o_iald, o_call 179, o_al 2, o_al 0, o_il 3, o_I 1, o_bin 0, o_iald, o_al 0, o_il 3, o_I 2, o_bin 0, o_iald, o_al 0, o_il 3, o_I 3, o_bin 0, o_iald, o_al 0, o_il 3, o_I 4, o_bin 0, o_iald, o_call 298, o_ic 0 53, o_I 0, o_ret 1]),
  (1425, [o_al 1, o_call 180, o_al 2, o_call 299, o_ic 0 53, o_I 0, o_ret 1]),
  (1438, [o_al 1, o_al 0, o_il 3, o_I 1, o_bin 0, o_iald, o_call 181, o_al 2, o_al 0, o_il 3, o_I 1, o_bin 0, o_iald, o_call 301, o_ic 0 53, o_I 0, o_ret 1]),
  (1461, [o_al 1, o_call 182, o_al 2, o_call 302, o_ic 0 53, o_I 0, o_ret 1]),
  (1474, [o_al 1, o_al 0, o_il 3, o_I 1, o_bin 0, o_iald, o_al 0, o_il 3, o_I 2, o_bin 0, o_iald, o_call 183, o_al 2, o_al 0, o_il 3, o_I 1, o_bin 0, o_iald, o_al 0, o_il 3, o_I 2, o_bin 0, o_iald, o_call 305, o_ic 0 53, o_I 0, o_ret 1]),
  (1507, [o_al 1, o_al 0, o_il 3, o_I 1, o_bin 0, o_iald, o_al 0, o_il 3, o_I 2, o_bin 0, o_iald, o_call 184, o_al 2, o_al 0, o_il 3, o_I 1, o_bin 0, o_iald, o_al 0, o_il 3, o_I 2, o_bin 0, o_iald, o_call 306, o_ic 0 53, o_I 0, o_ret 1]),
  (1540, [o_al 1, o_al 0, o_il 3, o_I 1, o_bin 0, o_iald, o_al 0, o_il 3, o_I 2, o_bin 0, o_iald, o_al 0, o_il 3, o_I 3, o_bin 0, o_iald, o_al 0, o_il 3, o_I 4, o_bin 0, o_iald, o_call 185, o_al 2, o_al 0, o_il 3, o_I 1, o_bin 0, o_iald, o_al 0, o_il 3, o_I 2, o_bin 0, o_iald, o_al 0, o_il 3, o_I 3, o_bin 0, o_iald, o_al 0, o_il 3, o_I 4, o_bin 0, o_iald, o_call 307, o_ic 0 53, o_I 0, o_ret 1]),
  (1593, [o_al 1, o_al 0, o_il 3, o_I 1, o_bin 0, o_iald, o_al 0, o_il 3, o_I 2, o_bin 0, o_iald, o_call 186, o_al 2, o_al 0, o_il 3, o_I 1, o_bin 0, o_iald, o_al 0, o_il 3, o_I 2, o_bin 0, o_iald, o_call 308, o_ic 0 53, o_I 0, o_ret 1]),
  (1626, [o_al 1, o_al 0, o_il 3, o_I 1, o_bin 0, o_iald, o_al 0, o_il 3, o_I 2, o_bin 0, o_iald, o_al 0, o_il 3, o_I 3, o_bin 0, o_iald, o_al 0, o_il 3, o_I 4, o_bin 0, o_iald, o_al 0, o_il 3, o_I 5, o_bin 0, o_iald, o_call 187, o_al 2, o_al 0, o_il 3, o_I 1, o_bin 0, o_iald, o_al 0, o_il 3, o_I 2, o_bin 0, o_iald, o_al 0, o_il 3, o_I 3, o_bin 0, o_iald, o_al 0, o_il 3, o_I 4, o_bin 0, o_iald, o_al 0, o_il 3, o_I 5, o_bin 0, o_iald, o_call 309, o_ic 0 53, o_I 0, o_ret 1]),
  (1689, [o_al 1, o_al 0, o_il 3, o_I 1, o_bin 0, o_iald, o_al 0, o_il 3, o_I 2, o_bin 0, o_iald, o_al 0, o_il 3, o_I 3, o_bin 0, o_iald, o_call 190, o_al 2, o_al 0, o_il 3, o_I 1, o_bin 0, o_iald, o_al 0, o_il 3, o_I 2, o_bin 0, o_iald, o_al 0, o_il 3, o_I 3, o_bin 0, o_iald, o_call 311, o_ic 0 53, o_I 0, o_ret 1]),
  (1732, [o_al 1, o_al 0, o_il 3, o_I 1, o_bin 0, o_iald, o_al 0, o_il 3, o_I 2, o_bin 0, o_iald, o_al 0, o_il 3, o_I 3, o_bin 0, o_iald, o_al 0, o_il 3, o_I 4, o_bin 0, o_iald, o_call 192, o_al 2, o_al 0, o_il 3, o_I 1, o_bin 0, o_iald, o_al 0, o_il 3, o_I 2, o_bin 0, o_iald, o_al 0, o_il 3, o_I 3, o_bin 0, o_iald, o_al 0, o_il 3, o_I 4, o_bin 0, o_iald, o_call 314, o_ic 0 53, o_I 0, o_ret 1]),
  (1785, [o_al 1, o_call 193, o_al 2, o_call 315, o_ic 0 53, o_I 0, o_ret 1]),
  (1798, [o_al 1, o_call 194, o_al 2, o_call 322, o_ic 0 53, o_I 0, o_ret 1]),
  (1811, [o_al 1, o_al 0, o_il 3, o_I 1, o_bin 0, o_iald, o_al 0, o_il 3, o_I 2, o_bin 0, o_iald, o_al 0, o_il 3, o_I 3, o_bin 0, o_iald, o_al 0, o_il 3, o_I 4, o_bin 0, o_iald, o_call 195, o_al 2, o_al 0, o_il 3, o_I 1, o_bin 0, o_iald, o_al 0, o_il 3, o_I 2, o_bin 0, o_iald, o_al 0, o_il 3, o_I 3, o_bin 0, o_iald, o_al 0, o_il 3, o_I 4, o_bin 0, o_iald, o_call 323, o_ic 0 53, o_I 0, o_ret 1]),
  (1864, [o_al 1, o_al 0, o_il 3, o_I 1, o_bin 0, o_iald, o_al 0, o_il 3, o_I 2, o_bin 0, o_iald, o_call 202, o_al 2, o_al 0, o_il 3, o_I 1, o_bin 0, o_iald, o_al 0, o_il 3, o_I 2, o_bin 0, o_iald, o_call 330, o_ic 0 53, o_I 0, o_ret 1]),
  (1897, [o_al 1, o_al 0, o_il 3, o_I 1, o_bin 0, o_iald, o_al 0, o_il 3, o_I 2, o_bin 0, o_iald, o_al 0, o_il 3, o_I 3, o_bin 0, o_iald, o_call 203, o_al 2, o_al 0, o_il 3, o_I 1, o_bin 0, o_iald, o_al 0, o_il 3, o_I 2, o_bin 0, o_iald, o_al 0, o_il 3, o_I 3, o_bin 0, o_iald, o_call 331, o_ic 0 53, o_I 0, o_ret 1]),
  (1940, [o_al 1, o_al 0, o_il 3, o_I 1, o_bin 0, o_iald, o_al 0, o_il 3, o_I 2, o_bin 0, o_iald, o_al 0, o_il 3, o_I 3, o_bin 0, o_iald, o_call 204, o_al 2, o_al 0, o_il 3, o_I 1, o_bin 0, o_iald, o_al 0, o_il 3, o_I 2, o_bin 0, o_iald, o_al 0, o_il 3, o_I 3, o_bin 0, o_iald, o_call 333, o_ic 0 53, o_I 0, o_ret 1]),
  (1983, [o_al 1, o_al 0, o_il 3, o_I 1, o_bin 0, o_iald, o_al 0, o_il 3, o_I 2, o_bin 0, o_iald, o_call 205, o_al 2, o_al 0, o_il 3, o_I 1, o_bin 0, o_iald, o_al 0, o_il 3, o_I 2, o_bin 0, o_iald, o_call 334, o_ic 0 53, o_I 0, o_ret 1]),
  (2016, [o_al 1, o_al 0, o_il 3, o_I 1, o_bin 0, o_iald, o_al 0, o_il 3, o_I 2, o_bin 0, o_iald, o_call 206, o_al 2, o_al 0, o_il 3, o_I 1, o_bin 0, o_iald, o_al 0, o_il 3, o_I 2, o_bin 0, o_iald, o_call 335, o_ic 0 53, o_I 0, o_ret 1]),
  (2049, [o_al 1, o_al 0, o_il 3, o_I 1, o_bin 0, o_iald, o_call 208, o_al 2, o_al 0, o_il 3, o_I 1, o_bin 0, o_iald, o_call 336, o_ic 0 53, o_I 0, o_ret 1]),
  (2072, [o_al 1, o_al 0, o_il 3, o_I 1, o_bin 0, o_iald, o_call 209, o_al 2, o_al 0, o_il 3, o_I 1, o_bin 0, o_iald, o_call 337, o_ic 0 53, o_I 0, o_ret 1]),
  (2095, [o_iinc 3 6, o_goto 1]),
  (2101, [o_I 1, o_ret 1])]
