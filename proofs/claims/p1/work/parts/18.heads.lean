/-! ===== the methods of the small machine ===== -/
def vd_nmR : MethodName := match lw_tbl[2582]? with
  | some (Cond.static y) => y
  | _ => objectInit
def vd_h0 : vd_H := (x, code, maxLocals, ret, 1, 99)
def vd_h1 : vd_H := (⟨"VideoDecoder", "<init>", "()V"⟩, prog_1_method_1_code, 4, (Option.none : Option Jvm.ClassFile.FieldType), 1, 0)
def vd_h2 : vd_H := (⟨"VideoDecoder$PlainBits", "<init>", "([B)V"⟩, prog_9_method_1_code, 2, (Option.none : Option Jvm.ClassFile.FieldType), 2, 8)
def vd_h3 : vd_H := (⟨"VideoDecoder$Header", "<init>", "()V"⟩, prog_6_method_1_code, 1, (Option.none : Option Jvm.ClassFile.FieldType), 1, 5)
def vd_h4 : vd_H := (⟨"VideoDecoder$Settings", "<init>", "()V"⟩, prog_11_method_1_code, 1, (Option.none : Option Jvm.ClassFile.FieldType), 1, 10)
def vd_h5 : vd_H := (⟨"VideoDecoder$Coder", "<init>", "([B)V"⟩, prog_3_method_1_code, 2, (Option.none : Option Jvm.ClassFile.FieldType), 2, 2)
def vd_h6 : vd_H := (⟨"VideoDecoder$Grid", "<init>", "()V"⟩, prog_5_method_1_code, 1, (Option.none : Option Jvm.ClassFile.FieldType), 1, 4)
def vd_h7 : vd_H := (⟨"VideoDecoder$Blocks", "<init>", "(LVideoDecoder$Coder;LVideoDecoder$Header;LVideoDecoder$Settings;LVideoDecoder$Grid;)V"⟩, prog_2_method_1_code, 5, (Option.none : Option Jvm.ClassFile.FieldType), 5, 1)
def vd_h8 : vd_H := (⟨"VideoDecoder$Residue", "<init>", "(LVideoDecoder$Coder;LVideoDecoder$Settings;LVideoDecoder$Grid;)V"⟩, prog_10_method_1_code, 6, (Option.none : Option Jvm.ClassFile.FieldType), 4, 9)
def vd_h9 : vd_H := (⟨"VideoDecoder$Residue", "scanOf", "(II)I"⟩, prog_10_method_3_code, 2, (Option.some Jvm.ClassFile.FieldType.int), 2, 99)
def vd_h10 : vd_H := (⟨"VideoDecoder$Residue", "fillScan", "([IIIII)V"⟩, prog_10_method_4_code, 9, (Option.none : Option Jvm.ClassFile.FieldType), 5, 99)
def vd_h11 : vd_H := (⟨"VideoDecoder$Residue", "wave", "(I)I"⟩, prog_10_method_2_code, 2, (Option.some Jvm.ClassFile.FieldType.int), 1, 99)
def vd_h12 : vd_H := (⟨"VideoDecoder$StillPrediction", "<init>", "(LVideoDecoder$Grid;)V"⟩, prog_12_method_1_code, 2, (Option.none : Option Jvm.ClassFile.FieldType), 2, 11)
def vd_h13 : vd_H := (⟨"VideoDecoder$Motion", "<init>", "(LVideoDecoder$Header;LVideoDecoder$Grid;)V"⟩, prog_7_method_1_code, 6, (Option.none : Option Jvm.ClassFile.FieldType), 3, 6)
def vd_h14 : vd_H := (⟨"VideoDecoder$EdgeFilter", "<init>", "(LVideoDecoder$Settings;LVideoDecoder$Grid;)V"⟩, prog_4_method_1_code, 3, (Option.none : Option Jvm.ClassFile.FieldType), 3, 3)
def vd_h15 : vd_H := (⟨"VideoDecoder", "count", "(I)I"⟩, prog_1_method_11_code, 2, (Option.some Jvm.ClassFile.FieldType.int), 2, 0)
def vd_h16 : vd_H := (⟨"VideoDecoderLaw", "feed", "(LVideoDecoder;IIIII[J)I"⟩, method_3_code, 8, (Option.some Jvm.ClassFile.FieldType.int), 7, 99)
def vd_h17 : vd_H := (⟨"VideoDecoder", "feed", "(IIIII)I"⟩, prog_1_method_2_code, 6, (Option.some Jvm.ClassFile.FieldType.int), 6, 0)
def vd_h18 : vd_H := (⟨"VideoDecoder", "append", "(I)V"⟩, prog_1_method_12_code, 3, (Option.none : Option Jvm.ClassFile.FieldType), 2, 0)
def vd_h19 : vd_H := (⟨"VideoDecoderLaw", "end", "(LVideoDecoder;I[J)I"⟩, method_4_code, 4, (Option.some Jvm.ClassFile.FieldType.int), 3, 99)
def vd_h20 : vd_H := (⟨"VideoDecoder", "end", "(I)I"⟩, prog_1_method_3_code, 2, (Option.some Jvm.ClassFile.FieldType.int), 2, 0)
def vd_h21 : vd_H := (⟨"VideoDecoderLaw", "decode", "(LVideoDecoder;[J)I"⟩, method_5_code, 3, (Option.some Jvm.ClassFile.FieldType.int), 2, 99)
def vd_h22 : vd_H := (⟨"VideoDecoder", "decode", "()I"⟩, prog_1_method_4_code, 8, (Option.some Jvm.ClassFile.FieldType.int), 1, 0)
def vd_h23 : vd_H := (⟨"VideoDecoder", "indexLength", "(I)I"⟩, prog_1_method_14_code, 4, (Option.some Jvm.ClassFile.FieldType.int), 2, 0)
def vd_h24 : vd_H := (⟨"VideoDecoder", "framesLength", "(II)J"⟩, prog_1_method_16_code, 7, (Option.some Jvm.ClassFile.FieldType.long), 3, 0)
def vd_h25 : vd_H := (⟨"VideoDecoder", "frameLength", "(III)J"⟩, prog_1_method_15_code, 9, (Option.some Jvm.ClassFile.FieldType.long), 4, 0)
def vd_h26 : vd_H := (⟨"VideoDecoder", "decodeFrame", "(II)I"⟩, prog_1_method_17_code, 6, (Option.some Jvm.ClassFile.FieldType.int), 3, 0)
def vd_h27 : vd_H := (⟨"VideoDecoder$PlainBits", "start", "(II)V"⟩, prog_9_method_2_code, 3, (Option.none : Option Jvm.ClassFile.FieldType), 3, 8)
def vd_h28 : vd_H := (⟨"VideoDecoder$Settings", "copy", "(LVideoDecoder$Settings;)V"⟩, prog_11_method_2_code, 2, (Option.none : Option Jvm.ClassFile.FieldType), 2, 10)
def vd_h29 : vd_H := (⟨"VideoDecoder$Header", "read", "(LVideoDecoder$PlainBits;[LVideoDecoder$Picture;LVideoDecoder$Settings;I)V"⟩, prog_6_method_4_code, 7, (Option.none : Option Jvm.ClassFile.FieldType), 5, 5)
def vd_h30 : vd_H := (⟨"VideoDecoder$PlainBits", "number", "(I)I"⟩, prog_9_method_4_code, 4, (Option.some Jvm.ClassFile.FieldType.int), 2, 8)
def vd_h31 : vd_H := (⟨"VideoDecoder$PlainBits", "meet", "(I)V"⟩, prog_9_method_3_code, 2, (Option.none : Option Jvm.ClassFile.FieldType), 2, 8)
def vd_h32 : vd_H := (⟨"VideoDecoder$PlainBits", "flag", "()Z"⟩, prog_9_method_5_code, 1, (Option.some Jvm.ClassFile.FieldType.boolean), 1, 8)
def vd_h33 : vd_H := (⟨"VideoDecoder$Header", "still", "()Z"⟩, prog_6_method_2_code, 1, (Option.some Jvm.ClassFile.FieldType.boolean), 1, 5)
def vd_h34 : vd_H := (⟨"VideoDecoder$Header", "readWidthAndHeight", "(LVideoDecoder$PlainBits;)V"⟩, prog_6_method_5_code, 2, (Option.none : Option Jvm.ClassFile.FieldType), 2, 5)
def vd_h35 : vd_H := (⟨"VideoDecoder$Header", "readReferences", "(LVideoDecoder$PlainBits;[LVideoDecoder$Picture;)V"⟩, prog_6_method_6_code, 5, (Option.none : Option Jvm.ClassFile.FieldType), 3, 5)
def vd_h36 : vd_H := (⟨"VideoDecoder$Header", "afresh", "()Z"⟩, prog_6_method_3_code, 1, (Option.some Jvm.ClassFile.FieldType.boolean), 1, 5)
def vd_h37 : vd_H := (⟨"VideoDecoder$Settings", "read", "(LVideoDecoder$PlainBits;Z)V"⟩, prog_11_method_6_code, 4, (Option.none : Option Jvm.ClassFile.FieldType), 3, 10)
def vd_h38 : vd_H := (⟨"VideoDecoder$Settings", "forget", "()V"⟩, prog_11_method_7_code, 1, (Option.none : Option Jvm.ClassFile.FieldType), 1, 10)
def vd_h39 : vd_H := (⟨"VideoDecoder$Settings", "readFilter", "(LVideoDecoder$PlainBits;)V"⟩, prog_11_method_8_code, 3, (Option.none : Option Jvm.ClassFile.FieldType), 2, 10)
def vd_h40 : vd_H := (⟨"VideoDecoder$PlainBits", "signed", "(I)I"⟩, prog_9_method_6_code, 3, (Option.some Jvm.ClassFile.FieldType.int), 2, 8)
def vd_h41 : vd_H := (⟨"VideoDecoder$Settings", "readSegments", "(LVideoDecoder$PlainBits;)V"⟩, prog_11_method_9_code, 3, (Option.none : Option Jvm.ClassFile.FieldType), 2, 10)
def vd_h42 : vd_H := (⟨"VideoDecoder$PlainBits", "chance", "()I"⟩, prog_9_method_7_code, 1, (Option.some Jvm.ClassFile.FieldType.int), 1, 8)
def vd_h43 : vd_H := (⟨"VideoDecoder$Settings", "readFeatures", "(LVideoDecoder$PlainBits;)V"⟩, prog_11_method_10_code, 3, (Option.none : Option Jvm.ClassFile.FieldType), 2, 10)
def vd_h44 : vd_H := (⟨"VideoDecoder$Settings", "setFeature", "(III)V"⟩, prog_11_method_11_code, 4, (Option.none : Option Jvm.ClassFile.FieldType), 4, 10)
def vd_h45 : vd_H := (⟨"VideoDecoder$PlainBits", "nextByte", "()I"⟩, prog_9_method_8_code, 1, (Option.some Jvm.ClassFile.FieldType.int), 1, 8)
def vd_h46 : vd_H := (⟨"VideoDecoder", "show", "(LVideoDecoder$Picture;)V"⟩, prog_1_method_18_code, 2, (Option.none : Option Jvm.ClassFile.FieldType), 2, 0)
def vd_h47 : vd_H := (⟨"VideoDecoder$Grid", "forgetMotion", "()V"⟩, prog_5_method_3_code, 1, (Option.none : Option Jvm.ClassFile.FieldType), 1, 4)
def vd_h48 : vd_H := (⟨"VideoDecoder$Grid", "begin", "(LVideoDecoder$Header;)V"⟩, prog_5_method_2_code, 3, (Option.none : Option Jvm.ClassFile.FieldType), 2, 4)
def vd_h49 : vd_H := (⟨"VideoDecoder$Grid", "swapWithLast", "()V"⟩, prog_5_method_4_code, 3, (Option.none : Option Jvm.ClassFile.FieldType), 1, 4)
def vd_h50 : vd_H := (⟨"VideoDecoder", "beginModels", "(I)V"⟩, prog_1_method_19_code, 2, (Option.none : Option Jvm.ClassFile.FieldType), 2, 0)
def vd_h51 : vd_H := (⟨"VideoDecoder$Coder", "start", "(II)V"⟩, prog_3_method_2_code, 3, (Option.none : Option Jvm.ClassFile.FieldType), 3, 2)
def vd_h52 : vd_H := (⟨"VideoDecoder$Settings", "lossless", "()Z"⟩, prog_11_method_3_code, 1, (Option.some Jvm.ClassFile.FieldType.boolean), 1, 10)
def vd_h53 : vd_H := (⟨"VideoDecoder$Header", "readSecond", "(LVideoDecoder$Coder;Z)V"⟩, prog_6_method_7_code, 4, (Option.none : Option Jvm.ClassFile.FieldType), 3, 5)
def vd_h54 : vd_H := (⟨"VideoDecoder$Coder", "plain", "(I)I"⟩, prog_3_method_5_code, 4, (Option.some Jvm.ClassFile.FieldType.int), 2, 2)
def vd_h55 : vd_H := (⟨"VideoDecoder$Coder", "bit", "(I)I"⟩, prog_3_method_4_code, 5, (Option.some Jvm.ClassFile.FieldType.int), 2, 2)
def vd_h56 : vd_H := (⟨"VideoDecoder$Coder", "changeModels", "()V"⟩, prog_3_method_8_code, 2, (Option.none : Option Jvm.ClassFile.FieldType), 1, 2)
def vd_h57 : vd_H := (⟨"VideoDecoder$Coder", "changed", "(I)I"⟩, prog_3_method_9_code, 3, (Option.some Jvm.ClassFile.FieldType.int), 2, 2)
def vd_h58 : vd_H := (⟨"VideoDecoder", "within", "(III)I"⟩, prog_1_method_24_code, 3, (Option.some Jvm.ClassFile.FieldType.int), 3, 99)
def vd_h59 : vd_H := (⟨"VideoDecoder$Coder", "forgetReadings", "()V"⟩, prog_3_method_3_code, 1, (Option.none : Option Jvm.ClassFile.FieldType), 1, 2)
def vd_h60 : vd_H := (⟨"VideoDecoder", "freePicture", "()LVideoDecoder$Picture;"⟩, prog_1_method_21_code, 2, (Option.some (Jvm.ClassFile.FieldType.object "VideoDecoder$Picture")), 1, 0)
def vd_h61 : vd_H := (⟨"VideoDecoder$Picture", "<init>", "()V"⟩, prog_8_method_1_code, 1, (Option.none : Option Jvm.ClassFile.FieldType), 1, 7)
def vd_h62 : vd_H := (⟨"VideoDecoder", "isHeld", "(LVideoDecoder$Picture;)Z"⟩, prog_1_method_22_code, 4, (Option.some Jvm.ClassFile.FieldType.boolean), 2, 0)
def vd_h63 : vd_H := (⟨"VideoDecoder$Picture", "begin", "(II)V"⟩, prog_8_method_2_code, 3, (Option.none : Option Jvm.ClassFile.FieldType), 3, 7)
def vd_h64 : vd_H := (⟨"VideoDecoder$Blocks", "begin", "(LVideoDecoder$Picture;[LVideoDecoder$Picture;)V"⟩, prog_2_method_2_code, 3, (Option.none : Option Jvm.ClassFile.FieldType), 3, 1)
def vd_h65 : vd_H := (⟨"VideoDecoder$Motion", "begin", "([LVideoDecoder$Picture;)V"⟩, prog_7_method_2_code, 3, (Option.none : Option Jvm.ClassFile.FieldType), 2, 6)
def vd_h66 : vd_H := (⟨"VideoDecoder$Blocks", "divide", "(III)V"⟩, prog_2_method_3_code, 8, (Option.none : Option Jvm.ClassFile.FieldType), 4, 1)
def vd_h67 : vd_H := (⟨"VideoDecoder$Blocks", "take", "(IIII)V"⟩, prog_2_method_5_code, 8, (Option.none : Option Jvm.ClassFile.FieldType), 5, 1)
def vd_h68 : vd_H := (⟨"VideoDecoder$Grid", "placeOf", "(II)I"⟩, prog_5_method_6_code, 3, (Option.some Jvm.ClassFile.FieldType.int), 3, 4)
def vd_h69 : vd_H := (⟨"VideoDecoder$Grid", "isInside", "(II)Z"⟩, prog_5_method_5_code, 3, (Option.some Jvm.ClassFile.FieldType.boolean), 3, 4)
def vd_h70 : vd_H := (⟨"VideoDecoder$Grid", "open", "(IIII)I"⟩, prog_5_method_8_code, 6, (Option.some Jvm.ClassFile.FieldType.int), 5, 4)
def vd_h71 : vd_H := (⟨"VideoDecoder$Blocks", "readSegment", "()I"⟩, prog_2_method_9_code, 3, (Option.some Jvm.ClassFile.FieldType.int), 1, 1)
def vd_h72 : vd_H := (⟨"VideoDecoder$Grid", "leastInMap", "(I)I"⟩, prog_5_method_12_code, 7, (Option.some Jvm.ClassFile.FieldType.int), 2, 4)
def vd_h73 : vd_H := (⟨"VideoDecoder$Blocks", "alike", "(II)I"⟩, prog_2_method_8_code, 4, (Option.some Jvm.ClassFile.FieldType.int), 3, 1)
def vd_h74 : vd_H := (⟨"VideoDecoder$Blocks", "put", "(II)V"⟩, prog_2_method_6_code, 3, (Option.none : Option Jvm.ClassFile.FieldType), 3, 1)
def vd_h75 : vd_H := (⟨"VideoDecoder$Blocks", "readTree", "()I"⟩, prog_2_method_10_code, 4, (Option.some Jvm.ClassFile.FieldType.int), 1, 1)
def vd_h76 : vd_H := (⟨"VideoDecoder$Grid", "setMap", "(II)V"⟩, prog_5_method_10_code, 3, (Option.none : Option Jvm.ClassFile.FieldType), 3, 4)
def vd_h77 : vd_H := (⟨"VideoDecoder$Grid", "fillUnits", "([III)V"⟩, prog_5_method_11_code, 8, (Option.none : Option Jvm.ClassFile.FieldType), 4, 4)
def vd_h78 : vd_H := (⟨"VideoDecoder$Settings", "has", "(II)Z"⟩, prog_11_method_4_code, 3, (Option.some Jvm.ClassFile.FieldType.boolean), 3, 10)
def vd_h79 : vd_H := (⟨"VideoDecoder$Coder", "read", "(I)I"⟩, prog_3_method_6_code, 3, (Option.some Jvm.ClassFile.FieldType.int), 2, 2)
def vd_h80 : vd_H := (⟨"VideoDecoder$Blocks", "readOther", "(I)Z"⟩, prog_2_method_11_code, 2, (Option.some Jvm.ClassFile.FieldType.boolean), 2, 1)
def vd_h81 : vd_H := (⟨"VideoDecoder$Settings", "valueOf", "(II)I"⟩, prog_11_method_5_code, 3, (Option.some Jvm.ClassFile.FieldType.int), 3, 10)
def vd_h82 : vd_H := (⟨"VideoDecoder$Blocks", "readSize", "(Z)I"⟩, prog_2_method_12_code, 5, (Option.some Jvm.ClassFile.FieldType.int), 2, 1)
def vd_h83 : vd_H := (⟨"VideoDecoder$Blocks", "fact", "(I)I"⟩, prog_2_method_7_code, 2, (Option.some Jvm.ClassFile.FieldType.int), 2, 1)
def vd_h84 : vd_H := (⟨"VideoDecoder", "rank", "(I)I"⟩, prog_1_method_25_code, 1, (Option.some Jvm.ClassFile.FieldType.int), 1, 99)
def vd_h85 : vd_H := (⟨"VideoDecoder$Blocks", "sizeOf", "(II)I"⟩, prog_2_method_13_code, 4, (Option.some Jvm.ClassFile.FieldType.int), 3, 1)
def vd_h86 : vd_H := (⟨"VideoDecoder$Coder", "ladder", "(II)I"⟩, prog_3_method_7_code, 5, (Option.some Jvm.ClassFile.FieldType.int), 3, 2)
def vd_h87 : vd_H := (⟨"VideoDecoder$Blocks", "readReferences", "(I)V"⟩, prog_2_method_16_code, 4, (Option.none : Option Jvm.ClassFile.FieldType), 2, 1)
def vd_h88 : vd_H := (⟨"VideoDecoder$Blocks", "readKind", "(I)V"⟩, prog_2_method_17_code, 3, (Option.none : Option Jvm.ClassFile.FieldType), 2, 1)
def vd_h89 : vd_H := (⟨"VideoDecoder$Blocks", "readVectors", "()V"⟩, prog_2_method_18_code, 8, (Option.none : Option Jvm.ClassFile.FieldType), 1, 1)
def vd_h90 : vd_H := (⟨"VideoDecoder$Motion", "collect", "(II)V"⟩, prog_7_method_4_code, 9, (Option.none : Option Jvm.ClassFile.FieldType), 3, 6)
def vd_h91 : vd_H := (⟨"VideoDecoder$Grid", "lastPlaceOf", "(II)I"⟩, prog_5_method_7_code, 3, (Option.some Jvm.ClassFile.FieldType.int), 3, 4)
def vd_h92 : vd_H := (⟨"VideoDecoder$Motion", "placeColumn", "(II)I"⟩, prog_7_method_5_code, 3, (Option.some Jvm.ClassFile.FieldType.int), 3, 6)
def vd_h93 : vd_H := (⟨"VideoDecoder$Motion", "placeRow", "(II)I"⟩, prog_7_method_6_code, 3, (Option.some Jvm.ClassFile.FieldType.int), 3, 6)
def vd_h94 : vd_H := (⟨"VideoDecoder$Motion", "offer", "([IIIZ)V"⟩, prog_7_method_7_code, 8, (Option.none : Option Jvm.ClassFile.FieldType), 5, 6)
def vd_h95 : vd_H := (⟨"VideoDecoder$Motion", "add", "(II)V"⟩, prog_7_method_8_code, 3, (Option.none : Option Jvm.ClassFile.FieldType), 3, 6)
def vd_h96 : vd_H := (⟨"VideoDecoder$Motion", "isShort", "(II)Z"⟩, prog_7_method_3_code, 2, (Option.some Jvm.ClassFile.FieldType.boolean), 2, 99)
def vd_h97 : vd_H := (⟨"VideoDecoder$Motion", "hold", "(IIII)I"⟩, prog_7_method_9_code, 4, (Option.some Jvm.ClassFile.FieldType.int), 4, 99)
def vd_h98 : vd_H := (⟨"VideoDecoder$Blocks", "readDifference", "(IZ)I"⟩, prog_2_method_19_code, 11, (Option.some Jvm.ClassFile.FieldType.int), 3, 1)
def vd_h99 : vd_H := (⟨"VideoDecoder$Blocks", "readModes", "()V"⟩, prog_2_method_14_code, 3, (Option.none : Option Jvm.ClassFile.FieldType), 1, 1)
def vd_h100 : vd_H := (⟨"VideoDecoder$Blocks", "modeOf", "(I)I"⟩, prog_2_method_15_code, 2, (Option.some Jvm.ClassFile.FieldType.int), 2, 1)
def vd_h101 : vd_H := (⟨"VideoDecoder$Grid", "settle", "(I)V"⟩, prog_5_method_9_code, 2, (Option.none : Option Jvm.ClassFile.FieldType), 2, 4)
def vd_h102 : vd_H := (⟨"VideoDecoder$Residue", "chooseQuantisers", "(I)V"⟩, prog_10_method_5_code, 6, (Option.none : Option Jvm.ClassFile.FieldType), 2, 9)
def vd_h103 : vd_H := (⟨"VideoDecoder", "clip", "(I)I"⟩, prog_1_method_23_code, 1, (Option.some Jvm.ClassFile.FieldType.int), 1, 99)
def vd_h104 : vd_H := (⟨"VideoDecoder$Motion", "predict", "(LVideoDecoder$Picture;I)V"⟩, prog_7_method_10_code, 6, (Option.none : Option Jvm.ClassFile.FieldType), 3, 6)
def vd_h105 : vd_H := (⟨"VideoDecoder$Motion", "fetch", "(LVideoDecoder$Picture;IIIZ)V"⟩, prog_7_method_11_code, 10, (Option.none : Option Jvm.ClassFile.FieldType), 6, 6)
def vd_h106 : vd_H := (⟨"VideoDecoder$Motion", "filterRows", "(LVideoDecoder$Picture;III)V"⟩, prog_7_method_12_code, 12, (Option.none : Option Jvm.ClassFile.FieldType), 5, 6)
def vd_h107 : vd_H := (⟨"VideoDecoder$Picture", "wide", "(I)I"⟩, prog_8_method_3_code, 2, (Option.some Jvm.ClassFile.FieldType.int), 2, 7)
def vd_h108 : vd_H := (⟨"VideoDecoder$Picture", "high", "(I)I"⟩, prog_8_method_4_code, 2, (Option.some Jvm.ClassFile.FieldType.int), 2, 7)
def vd_h109 : vd_H := (⟨"VideoDecoder$Picture", "at", "(III)I"⟩, prog_8_method_6_code, 3, (Option.some Jvm.ClassFile.FieldType.int), 3, 99)
def vd_h110 : vd_H := (⟨"VideoDecoder$Motion", "filterColumns", "(LVideoDecoder$Picture;IZ)V"⟩, prog_7_method_13_code, 9, (Option.none : Option Jvm.ClassFile.FieldType), 4, 6)
def vd_h111 : vd_H := (⟨"VideoDecoder$Grid", "markWritten", "(IIIIIZ)V"⟩, prog_5_method_14_code, 10, (Option.none : Option Jvm.ClassFile.FieldType), 7, 4)
def vd_h112 : vd_H := (⟨"VideoDecoder$Blocks", "paint", "(IZ)V"⟩, prog_2_method_20_code, 12, (Option.none : Option Jvm.ClassFile.FieldType), 3, 1)
def vd_h113 : vd_H := (⟨"VideoDecoder$Grid", "sizeIn", "(II)I"⟩, prog_5_method_13_code, 4, (Option.some Jvm.ClassFile.FieldType.int), 3, 4)
def vd_h114 : vd_H := (⟨"VideoDecoder$Residue", "place", "(IIII)V"⟩, prog_10_method_6_code, 5, (Option.none : Option Jvm.ClassFile.FieldType), 5, 9)
def vd_h115 : vd_H := (⟨"VideoDecoder$Residue", "read", "(I)Z"⟩, prog_10_method_7_code, 13, (Option.some Jvm.ClassFile.FieldType.boolean), 2, 9)
def vd_h116 : vd_H := (⟨"VideoDecoder$Residue", "orderFor", "(I)I"⟩, prog_10_method_8_code, 2, (Option.some Jvm.ClassFile.FieldType.int), 2, 9)
def vd_h117 : vd_H := (⟨"VideoDecoder$Grid", "cellsWithNumbers", "(III)I"⟩, prog_5_method_16_code, 5, (Option.some Jvm.ClassFile.FieldType.int), 4, 4)
def vd_h118 : vd_H := (⟨"VideoDecoder$Grid", "markAt", "(III)I"⟩, prog_5_method_15_code, 4, (Option.some Jvm.ClassFile.FieldType.int), 4, 4)
def vd_h119 : vd_H := (⟨"VideoDecoder$Residue", "gradeAround", "(I)I"⟩, prog_10_method_9_code, 5, (Option.some Jvm.ClassFile.FieldType.int), 2, 9)
def vd_h120 : vd_H := (⟨"VideoDecoder$Residue", "grade", "(I)I"⟩, prog_10_method_10_code, 1, (Option.some Jvm.ClassFile.FieldType.int), 1, 99)
def vd_h121 : vd_H := (⟨"VideoDecoder$Residue", "clearNumbers", "(I)V"⟩, prog_10_method_11_code, 2, (Option.none : Option Jvm.ClassFile.FieldType), 2, 9)
def vd_h122 : vd_H := (⟨"VideoDecoder$Residue", "putNumber", "(II)V"⟩, prog_10_method_12_code, 4, (Option.none : Option Jvm.ClassFile.FieldType), 3, 9)
def vd_h123 : vd_H := (⟨"VideoDecoder$StillPrediction", "gather", "(LVideoDecoder$Picture;IIII)V"⟩, prog_12_method_2_code, 6, (Option.none : Option Jvm.ClassFile.FieldType), 6, 11)
def vd_h124 : vd_H := (⟨"VideoDecoder$StillPrediction", "gatherAbove", "([I)V"⟩, prog_12_method_3_code, 5, (Option.none : Option Jvm.ClassFile.FieldType), 2, 11)
def vd_h125 : vd_H := (⟨"VideoDecoder$StillPrediction", "gatherLeft", "([I)V"⟩, prog_12_method_4_code, 5, (Option.none : Option Jvm.ClassFile.FieldType), 2, 11)
def vd_h126 : vd_H := (⟨"VideoDecoder$StillPrediction", "predict", "(LVideoDecoder$Picture;I)V"⟩, prog_12_method_5_code, 7, (Option.none : Option Jvm.ClassFile.FieldType), 3, 11)
def vd_h127 : vd_H := (⟨"VideoDecoder$StillPrediction", "mean", "()I"⟩, prog_12_method_6_code, 3, (Option.some Jvm.ClassFile.FieldType.int), 1, 11)
def vd_h128 : vd_H := (⟨"VideoDecoder$StillPrediction", "predicted", "(III)I"⟩, prog_12_method_7_code, 5, (Option.some Jvm.ClassFile.FieldType.int), 4, 11)
def vd_h129 : vd_H := (⟨"VideoDecoder$StillPrediction", "mean3", "(I)I"⟩, prog_12_method_9_code, 2, (Option.some Jvm.ClassFile.FieldType.int), 2, 11)
def vd_h130 : vd_H := (⟨"VideoDecoder$StillPrediction", "mean2", "(I)I"⟩, prog_12_method_8_code, 2, (Option.some Jvm.ClassFile.FieldType.int), 2, 11)
def vd_h131 : vd_H := (⟨"VideoDecoder$Residue", "addTo", "(LVideoDecoder$Picture;Z)V"⟩, prog_10_method_13_code, 8, (Option.none : Option Jvm.ClassFile.FieldType), 3, 9)
def vd_h132 : vd_H := (⟨"VideoDecoder$Residue", "turnExactly", "()V"⟩, prog_10_method_15_code, 2, (Option.none : Option Jvm.ClassFile.FieldType), 1, 9)
def vd_h133 : vd_H := (⟨"VideoDecoder$Residue", "turnFour", "(II)V"⟩, prog_10_method_16_code, 8, (Option.none : Option Jvm.ClassFile.FieldType), 3, 9)
def vd_h134 : vd_H := (⟨"VideoDecoder$Residue", "turnBy", "([III)V"⟩, prog_10_method_14_code, 9, (Option.none : Option Jvm.ClassFile.FieldType), 4, 9)
def vd_h135 : vd_H := (⟨"VideoDecoder$Blocks", "narrowerNeighbours", "(III)I"⟩, prog_2_method_4_code, 7, (Option.some Jvm.ClassFile.FieldType.int), 4, 1)
def vd_h136 : vd_H := (⟨"VideoDecoder$EdgeFilter", "run", "(LVideoDecoder$Picture;)V"⟩, prog_4_method_2_code, 3, (Option.none : Option Jvm.ClassFile.FieldType), 2, 3)
def vd_h137 : vd_H := (⟨"VideoDecoder$EdgeFilter", "levelOf", "(I)I"⟩, prog_4_method_3_code, 6, (Option.some Jvm.ClassFile.FieldType.int), 2, 3)
def vd_h138 : vd_H := (⟨"VideoDecoder$EdgeFilter", "filterPlane", "(IZ)V"⟩, prog_4_method_4_code, 12, (Option.none : Option Jvm.ClassFile.FieldType), 3, 3)
def vd_h139 : vd_H := (⟨"VideoDecoder$Picture", "stride", "(I)I"⟩, prog_8_method_5_code, 1, (Option.some Jvm.ClassFile.FieldType.int), 1, 99)
def vd_h140 : vd_H := (⟨"VideoDecoder$EdgeFilter", "isEdge", "(IIIII)Z"⟩, prog_4_method_5_code, 7, (Option.some Jvm.ClassFile.FieldType.boolean), 6, 3)
def vd_h141 : vd_H := (⟨"VideoDecoder$EdgeFilter", "setLimits", "(I)V"⟩, prog_4_method_6_code, 2, (Option.none : Option Jvm.ClassFile.FieldType), 2, 3)
def vd_h142 : vd_H := (⟨"VideoDecoder$EdgeFilter", "filterLine", "(III)V"⟩, prog_4_method_7_code, 7, (Option.none : Option Jvm.ClassFile.FieldType), 4, 3)
def vd_h143 : vd_H := (⟨"VideoDecoder$EdgeFilter", "isEven", "(III)Z"⟩, prog_4_method_8_code, 5, (Option.some Jvm.ClassFile.FieldType.boolean), 4, 3)
def vd_h144 : vd_H := (⟨"VideoDecoder$EdgeFilter", "smoothLittle", "(II)V"⟩, prog_4_method_11_code, 13, (Option.none : Option Jvm.ClassFile.FieldType), 3, 3)
def vd_h145 : vd_H := (⟨"VideoDecoder$EdgeFilter", "held", "(I)I"⟩, prog_4_method_12_code, 1, (Option.some Jvm.ClassFile.FieldType.int), 1, 99)
def vd_h146 : vd_H := (⟨"VideoDecoder$EdgeFilter", "put", "(II)V"⟩, prog_4_method_9_code, 3, (Option.none : Option Jvm.ClassFile.FieldType), 3, 3)
def vd_h147 : vd_H := (⟨"VideoDecoder$EdgeFilter", "smoothMuch", "(III)V"⟩, prog_4_method_10_code, 9, (Option.none : Option Jvm.ClassFile.FieldType), 4, 3)
def vd_h148 : vd_H := (⟨"VideoDecoder", "keepModels", "()V"⟩, prog_1_method_20_code, 4, (Option.none : Option Jvm.ClassFile.FieldType), 1, 0)
def vd_h149 : vd_H := (⟨"VideoDecoder$Coder", "learnt", "(II)I"⟩, prog_3_method_10_code, 7, (Option.some Jvm.ClassFile.FieldType.int), 3, 2)
def vd_h150 : vd_H := (⟨"VideoDecoderLaw", "fault", "(LVideoDecoder;I[J)I"⟩, method_6_code, 4, (Option.some Jvm.ClassFile.FieldType.int), 3, 99)
def vd_h151 : vd_H := (⟨"VideoDecoder", "fault", "(I)I"⟩, prog_1_method_5_code, 2, (Option.some Jvm.ClassFile.FieldType.int), 2, 0)
def vd_h152 : vd_H := (⟨"VideoDecoderLaw", "sample", "(LVideoDecoder;IIII[J)I"⟩, method_7_code, 7, (Option.some Jvm.ClassFile.FieldType.int), 6, 99)
def vd_h153 : vd_H := (⟨"VideoDecoder", "sample", "(IIII)I"⟩, prog_1_method_6_code, 6, (Option.some Jvm.ClassFile.FieldType.int), 5, 0)
def vd_h154 : vd_H := (⟨"VideoDecoder", "pictureOf", "(I)LVideoDecoder$Picture;"⟩, prog_1_method_13_code, 2, (Option.some (Jvm.ClassFile.FieldType.object "VideoDecoder$Picture")), 2, 0)
def vd_h155 : vd_H := (⟨"VideoDecoderLaw", "check", "(LVideoDecoder;II[J)I"⟩, method_8_code, 5, (Option.some Jvm.ClassFile.FieldType.int), 4, 99)
def vd_h156 : vd_H := (⟨"VideoDecoder", "check", "(II)I"⟩, prog_1_method_7_code, 8, (Option.some Jvm.ClassFile.FieldType.int), 3, 0)
def vd_h157 : vd_H := (⟨"VideoDecoderLaw", "size", "(LVideoDecoder;II[J)I"⟩, method_9_code, 5, (Option.some Jvm.ClassFile.FieldType.int), 4, 99)
def vd_h158 : vd_H := (⟨"VideoDecoder", "size", "(II)I"⟩, prog_1_method_8_code, 4, (Option.some Jvm.ClassFile.FieldType.int), 3, 0)
def vd_h159 : vd_H := (⟨"VideoDecoderLaw", "model", "(LVideoDecoder;II[J)I"⟩, method_10_code, 5, (Option.some Jvm.ClassFile.FieldType.int), 4, 99)
def vd_h160 : vd_H := (⟨"VideoDecoder", "model", "(II)I"⟩, prog_1_method_9_code, 3, (Option.some Jvm.ClassFile.FieldType.int), 3, 0)
def vd_h161 : vd_H := (⟨"VideoDecoderLaw", "block", "(LVideoDecoder;III[J)I"⟩, method_11_code, 6, (Option.some Jvm.ClassFile.FieldType.int), 5, 99)
def vd_h162 : vd_H := (⟨"VideoDecoder", "block", "(III)I"⟩, prog_1_method_10_code, 5, (Option.some Jvm.ClassFile.FieldType.int), 4, 0)
def vd_h163 : vd_H := (⟨"VideoDecoderModel", "<init>", "()V"⟩, prog_14_method_4_code, 3, (Option.none : Option Jvm.ClassFile.FieldType), 1, 12)
def vd_h164 : vd_H := (⟨"VideoDecoderModel$Picture", "<init>", "()V"⟩, prog_15_method_1_code, 1, (Option.none : Option Jvm.ClassFile.FieldType), 1, 13)
def vd_h165 : vd_H := (⟨"VideoDecoderModel", "scans", "(I)V"⟩, prog_14_method_62_code, 10, (Option.none : Option Jvm.ClassFile.FieldType), 2, 12)
def vd_h166 : vd_H := (⟨"VideoDecoderModel", "thrown", "()I"⟩, prog_14_method_5_code, 1, (Option.some Jvm.ClassFile.FieldType.int), 1, 12)
def vd_h167 : vd_H := (⟨"VideoDecoderModel", "feed", "(IIIII)I"⟩, prog_14_method_7_code, 8, (Option.some Jvm.ClassFile.FieldType.int), 6, 12)
def vd_h168 : vd_H := (⟨"VideoDecoderModel", "refuse", "(IZ)Z"⟩, prog_14_method_6_code, 3, (Option.some Jvm.ClassFile.FieldType.boolean), 3, 12)
def vd_h169 : vd_H := (⟨"VideoDecoderModel", "end", "(I)I"⟩, prog_14_method_8_code, 2, (Option.some Jvm.ClassFile.FieldType.int), 2, 12)
def vd_h170 : vd_H := (⟨"VideoDecoderModel", "decode", "()I"⟩, prog_14_method_9_code, 7, (Option.some Jvm.ClassFile.FieldType.int), 1, 12)
def vd_h171 : vd_H := (⟨"VideoDecoderModel", "indexed", "(III)V"⟩, prog_14_method_10_code, 10, (Option.none : Option Jvm.ClassFile.FieldType), 4, 12)
def vd_h172 : vd_H := (⟨"VideoDecoderModel", "length", "(II)J"⟩, prog_14_method_11_code, 6, (Option.some Jvm.ClassFile.FieldType.long), 3, 12)
def vd_h173 : vd_H := (⟨"VideoDecoderModel", "one", "(III)V"⟩, prog_14_method_12_code, 4, (Option.none : Option Jvm.ClassFile.FieldType), 4, 12)
def vd_h174 : vd_H := (⟨"VideoDecoderModel", "frame", "()V"⟩, prog_14_method_17_code, 4, (Option.none : Option Jvm.ClassFile.FieldType), 1, 12)
def vd_h175 : vd_H := (⟨"VideoDecoderModel", "bits", "(I)I"⟩, prog_14_method_13_code, 4, (Option.some Jvm.ClassFile.FieldType.int), 2, 12)
def vd_h176 : vd_H := (⟨"VideoDecoderModel", "need", "(ZI)V"⟩, prog_14_method_16_code, 3, (Option.none : Option Jvm.ClassFile.FieldType), 3, 12)
def vd_h177 : vd_H := (⟨"VideoDecoderModel", "is", "()Z"⟩, prog_14_method_14_code, 1, (Option.some Jvm.ClassFile.FieldType.boolean), 1, 12)
def vd_h178 : vd_H := (⟨"VideoDecoderModel", "show", "(LVideoDecoderModel$Picture;)V"⟩, prog_14_method_29_code, 2, (Option.none : Option Jvm.ClassFile.FieldType), 2, 12)
def vd_h179 : vd_H := (⟨"VideoDecoderModel", "sizes", "()V"⟩, prog_14_method_18_code, 1, (Option.none : Option Jvm.ClassFile.FieldType), 1, 12)
def vd_h180 : vd_H := (⟨"VideoDecoderModel", "references", "()V"⟩, prog_14_method_19_code, 3, (Option.none : Option Jvm.ClassFile.FieldType), 1, 12)
def vd_h181 : vd_H := (⟨"VideoDecoderModel", "filterHeader", "()V"⟩, prog_14_method_20_code, 3, (Option.none : Option Jvm.ClassFile.FieldType), 1, 12)
def vd_h182 : vd_H := (⟨"VideoDecoderModel", "signed", "(I)I"⟩, prog_14_method_15_code, 3, (Option.some Jvm.ClassFile.FieldType.int), 2, 12)
def vd_h183 : vd_H := (⟨"VideoDecoderModel", "quantiserHeader", "()V"⟩, prog_14_method_21_code, 2, (Option.none : Option Jvm.ClassFile.FieldType), 1, 12)
def vd_h184 : vd_H := (⟨"VideoDecoderModel", "segmentHeader", "()V"⟩, prog_14_method_23_code, 3, (Option.none : Option Jvm.ClassFile.FieldType), 1, 12)
def vd_h185 : vd_H := (⟨"VideoDecoderModel", "chances", "([I)V"⟩, prog_14_method_22_code, 3, (Option.none : Option Jvm.ClassFile.FieldType), 2, 12)
def vd_h186 : vd_H := (⟨"VideoDecoderModel", "work", "(II)V"⟩, prog_14_method_31_code, 6, (Option.none : Option Jvm.ClassFile.FieldType), 3, 12)
def vd_h187 : vd_H := (⟨"VideoDecoderModel", "reset", "()V"⟩, prog_14_method_32_code, 3, (Option.none : Option Jvm.ClassFile.FieldType), 1, 12)
def vd_h188 : vd_H := (⟨"VideoDecoderModel", "begin", "()V"⟩, prog_14_method_33_code, 2, (Option.none : Option Jvm.ClassFile.FieldType), 1, 12)
def vd_h189 : vd_H := (⟨"VideoDecoderModel", "free", "()LVideoDecoderModel$Picture;"⟩, prog_14_method_30_code, 2, (Option.some (Jvm.ClassFile.FieldType.object "VideoDecoderModel$Picture")), 1, 12)
def vd_h190 : vd_H := (⟨"VideoDecoderModel", "code", "(II)V"⟩, prog_14_method_24_code, 3, (Option.none : Option Jvm.ClassFile.FieldType), 3, 12)
def vd_h191 : vd_H := (⟨"VideoDecoderModel", "secondHeader", "()V"⟩, prog_14_method_34_code, 3, (Option.none : Option Jvm.ClassFile.FieldType), 1, 12)
def vd_h192 : vd_H := (⟨"VideoDecoderModel", "l", "(I)I"⟩, prog_14_method_26_code, 4, (Option.some Jvm.ClassFile.FieldType.int), 2, 12)
def vd_h193 : vd_H := (⟨"VideoDecoderModel", "b", "(I)I"⟩, prog_14_method_25_code, 4, (Option.some Jvm.ClassFile.FieldType.int), 2, 12)
def vd_h194 : vd_H := (⟨"VideoDecoderModel", "within", "(III)I"⟩, prog_14_method_1_code, 3, (Option.some Jvm.ClassFile.FieldType.int), 3, 99)
def vd_h195 : vd_H := (⟨"VideoDecoderModel", "divide", "(III)V"⟩, prog_14_method_38_code, 13, (Option.none : Option Jvm.ClassFile.FieldType), 4, 12)
def vd_h196 : vd_H := (⟨"VideoDecoderModel", "block", "(IIII)V"⟩, prog_14_method_42_code, 6, (Option.none : Option Jvm.ClassFile.FieldType), 5, 12)
def vd_h197 : vd_H := (⟨"VideoDecoderModel", "neighbours", "()V"⟩, prog_14_method_39_code, 1, (Option.none : Option Jvm.ClassFile.FieldType), 1, 12)
def vd_h198 : vd_H := (⟨"VideoDecoderModel", "thereAt", "(II)Z"⟩, prog_14_method_37_code, 3, (Option.some Jvm.ClassFile.FieldType.boolean), 3, 12)
def vd_h199 : vd_H := (⟨"VideoDecoderModel", "readSegment", "()V"⟩, prog_14_method_43_code, 4, (Option.none : Option Jvm.ClassFile.FieldType), 1, 12)
def vd_h200 : vd_H := (⟨"VideoDecoderModel", "count", "([Z)I"⟩, prog_14_method_40_code, 2, (Option.some Jvm.ClassFile.FieldType.int), 2, 12)
def vd_h201 : vd_H := (⟨"VideoDecoderModel", "feature", "(I)Z"⟩, prog_14_method_41_code, 2, (Option.some Jvm.ClassFile.FieldType.boolean), 2, 12)
def vd_h202 : vd_H := (⟨"VideoDecoderModel", "m", "(I)I"⟩, prog_14_method_27_code, 3, (Option.some Jvm.ClassFile.FieldType.int), 2, 12)
def vd_h203 : vd_H := (⟨"VideoDecoderModel", "readSize", "()V"⟩, prog_14_method_45_code, 4, (Option.none : Option Jvm.ClassFile.FieldType), 1, 12)
def vd_h204 : vd_H := (⟨"VideoDecoderModel", "sizeAt", "(I)I"⟩, prog_14_method_44_code, 2, (Option.some Jvm.ClassFile.FieldType.int), 2, 12)
def vd_h205 : vd_H := (⟨"VideoDecoderModel", "oneByOne", "(II)I"⟩, prog_14_method_28_code, 4, (Option.some Jvm.ClassFile.FieldType.int), 3, 12)
def vd_h206 : vd_H := (⟨"VideoDecoderModel", "readOther", "()V"⟩, prog_14_method_51_code, 5, (Option.none : Option Jvm.ClassFile.FieldType), 1, 12)
def vd_h207 : vd_H := (⟨"VideoDecoderModel", "firstIs", "(I)I"⟩, prog_14_method_48_code, 2, (Option.some Jvm.ClassFile.FieldType.int), 2, 12)
def vd_h208 : vd_H := (⟨"VideoDecoderModel", "isDouble", "(I)I"⟩, prog_14_method_49_code, 2, (Option.some Jvm.ClassFile.FieldType.int), 2, 12)
def vd_h209 : vd_H := (⟨"VideoDecoderModel", "placeOf", "(I)I"⟩, prog_14_method_52_code, 6, (Option.some Jvm.ClassFile.FieldType.int), 2, 12)
def vd_h210 : vd_H := (⟨"VideoDecoderModel", "soft", "(I)I"⟩, prog_14_method_50_code, 2, (Option.some Jvm.ClassFile.FieldType.int), 2, 12)
def vd_h211 : vd_H := (⟨"VideoDecoderModel", "vector", "(I)V"⟩, prog_14_method_59_code, 6, (Option.none : Option Jvm.ClassFile.FieldType), 2, 12)
def vd_h212 : vd_H := (⟨"VideoDecoderModel", "find", "(I)V"⟩, prog_14_method_57_code, 5, (Option.none : Option Jvm.ClassFile.FieldType), 2, 12)
def vd_h213 : vd_H := (⟨"VideoDecoderModel", "likeRef", "([I[I[III)V"⟩, prog_14_method_54_code, 7, (Option.none : Option Jvm.ClassFile.FieldType), 6, 12)
def vd_h214 : vd_H := (⟨"VideoDecoderModel", "collect", "(II)V"⟩, prog_14_method_53_code, 3, (Option.none : Option Jvm.ClassFile.FieldType), 3, 12)
def vd_h215 : vd_H := (⟨"VideoDecoderModel", "otherRef", "([I[I[III)V"⟩, prog_14_method_55_code, 9, (Option.none : Option Jvm.ClassFile.FieldType), 6, 12)
def vd_h216 : vd_H := (⟨"VideoDecoderModel", "small", "(II)Z"⟩, prog_14_method_56_code, 3, (Option.some Jvm.ClassFile.FieldType.boolean), 3, 12)
def vd_h217 : vd_H := (⟨"VideoDecoderModel", "even", "(I)I"⟩, prog_14_method_58_code, 1, (Option.some Jvm.ClassFile.FieldType.int), 1, 99)
def vd_h218 : vd_H := (⟨"VideoDecoderModel", "difference", "(IZ)I"⟩, prog_14_method_60_code, 11, (Option.some Jvm.ClassFile.FieldType.int), 3, 12)
def vd_h219 : vd_H := (⟨"VideoDecoderModel", "readMode", "()V"⟩, prog_14_method_47_code, 3, (Option.none : Option Jvm.ClassFile.FieldType), 1, 12)
def vd_h220 : vd_H := (⟨"VideoDecoderModel", "modeAt", "(I)I"⟩, prog_14_method_46_code, 2, (Option.some Jvm.ClassFile.FieldType.int), 2, 12)
def vd_h221 : vd_H := (⟨"VideoDecoderModel", "note", "()V"⟩, prog_14_method_61_code, 5, (Option.none : Option Jvm.ClassFile.FieldType), 1, 12)
def vd_h222 : vd_H := (⟨"VideoDecoderModel", "predictOther", "(I)V"⟩, prog_14_method_96_code, 8, (Option.none : Option Jvm.ClassFile.FieldType), 2, 12)
def vd_h223 : vd_H := (⟨"VideoDecoderModel", "unitSide", "(I)I"⟩, prog_14_method_64_code, 2, (Option.some Jvm.ClassFile.FieldType.int), 2, 12)
def vd_h224 : vd_H := (⟨"VideoDecoderModel", "moved", "(LVideoDecoderModel$Picture;IIIII)I"⟩, prog_14_method_95_code, 14, (Option.some Jvm.ClassFile.FieldType.int), 7, 12)
def vd_h225 : vd_H := (⟨"VideoDecoderModel", "tap", "(II)I"⟩, prog_14_method_94_code, 3, (Option.some Jvm.ClassFile.FieldType.int), 3, 12)
def vd_h226 : vd_H := (⟨"VideoDecoderModel$Picture", "near", "(III)I"⟩, prog_15_method_8_code, 4, (Option.some Jvm.ClassFile.FieldType.int), 4, 13)
def vd_h227 : vd_H := (⟨"VideoDecoderModel$Picture", "width", "(I)I"⟩, prog_15_method_4_code, 2, (Option.some Jvm.ClassFile.FieldType.int), 2, 13)
def vd_h228 : vd_H := (⟨"VideoDecoderModel$Picture", "height", "(I)I"⟩, prog_15_method_5_code, 2, (Option.some Jvm.ClassFile.FieldType.int), 2, 13)
def vd_h229 : vd_H := (⟨"VideoDecoderModel$Picture", "get", "(III)I"⟩, prog_15_method_6_code, 4, (Option.some Jvm.ClassFile.FieldType.int), 4, 13)
def vd_h230 : vd_H := (⟨"VideoDecoderModel$Picture", "wide", "(I)I"⟩, prog_15_method_2_code, 2, (Option.some Jvm.ClassFile.FieldType.int), 2, 13)
def vd_h231 : vd_H := (vd_nmR, prog_14_method_3_code, 2, (Option.some Jvm.ClassFile.FieldType.int), 2, 99)
def vd_h232 : vd_H := (⟨"VideoDecoderModel", "clip", "(I)I"⟩, prog_14_method_2_code, 1, (Option.some Jvm.ClassFile.FieldType.int), 1, 99)
def vd_h233 : vd_H := (⟨"VideoDecoderModel", "write", "(IIII)V"⟩, prog_14_method_93_code, 5, (Option.none : Option Jvm.ClassFile.FieldType), 5, 12)
def vd_h234 : vd_H := (⟨"VideoDecoderModel$Picture", "put", "(IIII)V"⟩, prog_15_method_7_code, 5, (Option.none : Option Jvm.ClassFile.FieldType), 5, 13)
def vd_h235 : vd_H := (⟨"VideoDecoderModel", "residue", "(I)V"⟩, prog_14_method_65_code, 14, (Option.none : Option Jvm.ClassFile.FieldType), 2, 12)
def vd_h236 : vd_H := (⟨"VideoDecoderModel", "sizeIn", "(III)I"⟩, prog_14_method_63_code, 5, (Option.some Jvm.ClassFile.FieldType.int), 4, 12)
def vd_h237 : vd_H := (⟨"VideoDecoderModel", "mark", "(IIIZ)V"⟩, prog_14_method_67_code, 5, (Option.none : Option Jvm.ClassFile.FieldType), 5, 12)
def vd_h238 : vd_H := (⟨"VideoDecoderModel", "fours", "(I)I"⟩, prog_14_method_66_code, 2, (Option.some Jvm.ClassFile.FieldType.int), 2, 12)
def vd_h239 : vd_H := (⟨"VideoDecoderModel", "read", "(IIII)Z"⟩, prog_14_method_71_code, 15, (Option.some Jvm.ClassFile.FieldType.boolean), 5, 12)
def vd_h240 : vd_H := (⟨"VideoDecoderModel", "has", "(III)I"⟩, prog_14_method_68_code, 5, (Option.some Jvm.ClassFile.FieldType.int), 4, 12)
def vd_h241 : vd_H := (⟨"VideoDecoderModel", "around", "(III)I"⟩, prog_14_method_72_code, 6, (Option.some Jvm.ClassFile.FieldType.int), 4, 12)
def vd_h242 : vd_H := (⟨"VideoDecoderModel", "near", "(I)I"⟩, prog_14_method_69_code, 1, (Option.some Jvm.ClassFile.FieldType.int), 1, 99)
def vd_h243 : vd_H := (⟨"VideoDecoderModel", "band", "(I)I"⟩, prog_14_method_70_code, 1, (Option.some Jvm.ClassFile.FieldType.int), 1, 99)
def vd_h244 : vd_H := (⟨"VideoDecoderModel", "tail", "(I)I"⟩, prog_14_method_73_code, 3, (Option.some Jvm.ClassFile.FieldType.int), 2, 12)
def vd_h245 : vd_H := (⟨"VideoDecoderModel", "quantum", "(IZ)I"⟩, prog_14_method_74_code, 4, (Option.some Jvm.ClassFile.FieldType.int), 3, 12)
def vd_h246 : vd_H := (⟨"VideoDecoderModel", "predict", "(IIIII)V"⟩, prog_14_method_92_code, 9, (Option.none : Option Jvm.ClassFile.FieldType), 6, 12)
def vd_h247 : vd_H := (⟨"VideoDecoderModel", "edges", "(IIII)V"⟩, prog_14_method_82_code, 7, (Option.none : Option Jvm.ClassFile.FieldType), 5, 12)
def vd_h248 : vd_H := (⟨"VideoDecoderModel", "known", "(III)Z"⟩, prog_14_method_81_code, 4, (Option.some Jvm.ClassFile.FieldType.boolean), 4, 12)
def vd_h249 : vd_H := (⟨"VideoDecoderModel$Picture", "high", "(I)I"⟩, prog_15_method_3_code, 2, (Option.some Jvm.ClassFile.FieldType.int), 2, 13)
def vd_h250 : vd_H := (⟨"VideoDecoderModel", "mean", "(I)I"⟩, prog_14_method_88_code, 5, (Option.some Jvm.ClassFile.FieldType.int), 2, 12)
def vd_h251 : vd_H := (⟨"VideoDecoderModel", "predicted", "(IIII)I"⟩, prog_14_method_91_code, 8, (Option.some Jvm.ClassFile.FieldType.int), 5, 12)
def vd_h252 : vd_H := (⟨"VideoDecoderModel", "three", "(III)I"⟩, prog_14_method_86_code, 3, (Option.some Jvm.ClassFile.FieldType.int), 3, 99)
def vd_h253 : vd_H := (⟨"VideoDecoderModel", "z", "(I)I"⟩, prog_14_method_84_code, 2, (Option.some Jvm.ClassFile.FieldType.int), 2, 12)
def vd_h254 : vd_H := (⟨"VideoDecoderModel", "steep", "(II)I"⟩, prog_14_method_89_code, 5, (Option.some Jvm.ClassFile.FieldType.int), 3, 12)
def vd_h255 : vd_H := (⟨"VideoDecoderModel", "two", "(II)I"⟩, prog_14_method_85_code, 2, (Option.some Jvm.ClassFile.FieldType.int), 2, 99)
def vd_h256 : vd_H := (⟨"VideoDecoderModel", "gentle", "(II)I"⟩, prog_14_method_90_code, 5, (Option.some Jvm.ClassFile.FieldType.int), 3, 12)
def vd_h257 : vd_H := (⟨"VideoDecoderModel", "down", "(II)I"⟩, prog_14_method_87_code, 3, (Option.some Jvm.ClassFile.FieldType.int), 3, 12)
def vd_h258 : vd_H := (⟨"VideoDecoderModel", "add", "(IIII)V"⟩, prog_14_method_77_code, 7, (Option.none : Option Jvm.ClassFile.FieldType), 5, 12)
def vd_h259 : vd_H := (⟨"VideoDecoderModel", "plainSquare", "()V"⟩, prog_14_method_79_code, 2, (Option.none : Option Jvm.ClassFile.FieldType), 1, 12)
def vd_h260 : vd_H := (⟨"VideoDecoderModel", "fourOf", "(II)V"⟩, prog_14_method_80_code, 8, (Option.none : Option Jvm.ClassFile.FieldType), 3, 12)
def vd_h261 : vd_H := (⟨"VideoDecoderModel", "square", "(II)V"⟩, prog_14_method_78_code, 7, (Option.none : Option Jvm.ClassFile.FieldType), 3, 12)
def vd_h262 : vd_H := (⟨"VideoDecoderModel", "t", "(III)I"⟩, prog_14_method_76_code, 4, (Option.some Jvm.ClassFile.FieldType.int), 4, 12)
def vd_h263 : vd_H := (⟨"VideoDecoderModel", "g", "(I)I"⟩, prog_14_method_75_code, 2, (Option.some Jvm.ClassFile.FieldType.int), 1, 99)
def vd_h264 : vd_H := (⟨"VideoDecoderModel", "filter", "()I"⟩, prog_14_method_97_code, 6, (Option.some Jvm.ClassFile.FieldType.int), 1, 12)
def vd_h265 : vd_H := (⟨"VideoDecoderModel", "edge", "(IIIZ)V"⟩, prog_14_method_98_code, 13, (Option.none : Option Jvm.ClassFile.FieldType), 5, 12)
def vd_h266 : vd_H := (⟨"VideoDecoderModel", "strength", "(I)I"⟩, prog_14_method_99_code, 5, (Option.some Jvm.ClassFile.FieldType.int), 2, 12)
def vd_h267 : vd_H := (⟨"VideoDecoderModel", "line", "(IIIZIIII)V"⟩, prog_14_method_105_code, 12, (Option.none : Option Jvm.ClassFile.FieldType), 9, 12)
def vd_h268 : vd_H := (⟨"VideoDecoderModel", "sampleAt", "(I)I"⟩, prog_14_method_100_code, 2, (Option.some Jvm.ClassFile.FieldType.int), 2, 12)
def vd_h269 : vd_H := (⟨"VideoDecoderModel", "p", "(I)I"⟩, prog_14_method_102_code, 2, (Option.some Jvm.ClassFile.FieldType.int), 2, 12)
def vd_h270 : vd_H := (⟨"VideoDecoderModel", "q", "(I)I"⟩, prog_14_method_103_code, 2, (Option.some Jvm.ClassFile.FieldType.int), 2, 12)
def vd_h271 : vd_H := (⟨"VideoDecoderModel", "close", "(II)Z"⟩, prog_14_method_104_code, 4, (Option.some Jvm.ClassFile.FieldType.boolean), 3, 12)
def vd_h272 : vd_H := (⟨"VideoDecoderModel", "means", "(I)V"⟩, prog_14_method_106_code, 5, (Option.none : Option Jvm.ClassFile.FieldType), 2, 12)
def vd_h273 : vd_H := (⟨"VideoDecoderModel", "set", "(II)V"⟩, prog_14_method_101_code, 3, (Option.none : Option Jvm.ClassFile.FieldType), 3, 12)
def vd_h274 : vd_H := (⟨"VideoDecoderModel", "narrow", "(I)V"⟩, prog_14_method_108_code, 10, (Option.none : Option Jvm.ClassFile.FieldType), 2, 12)
def vd_h275 : vd_H := (⟨"VideoDecoderModel", "s8", "(I)I"⟩, prog_14_method_107_code, 1, (Option.some Jvm.ClassFile.FieldType.int), 1, 99)
def vd_h276 : vd_H := (⟨"VideoDecoderModel", "finish", "()V"⟩, prog_14_method_35_code, 3, (Option.none : Option Jvm.ClassFile.FieldType), 1, 12)
def vd_h277 : vd_H := (⟨"VideoDecoderModel", "together", "(III)I"⟩, prog_14_method_36_code, 7, (Option.some Jvm.ClassFile.FieldType.int), 3, 99)
def vd_h278 : vd_H := (⟨"VideoDecoderModel", "sample", "(IIII)I"⟩, prog_14_method_110_code, 6, (Option.some Jvm.ClassFile.FieldType.int), 5, 12)
def vd_h279 : vd_H := (⟨"VideoDecoderModel", "picture", "(I)LVideoDecoderModel$Picture;"⟩, prog_14_method_109_code, 2, (Option.some (Jvm.ClassFile.FieldType.object "VideoDecoderModel$Picture")), 2, 12)
def vd_h280 : vd_H := (⟨"VideoDecoderModel", "check", "(II)I"⟩, prog_14_method_111_code, 8, (Option.some Jvm.ClassFile.FieldType.int), 3, 12)
def vd_h281 : vd_H := (⟨"VideoDecoderModel", "size", "(II)I"⟩, prog_14_method_112_code, 4, (Option.some Jvm.ClassFile.FieldType.int), 3, 12)
def vd_h282 : vd_H := (⟨"VideoDecoderModel", "model", "(II)I"⟩, prog_14_method_113_code, 3, (Option.some Jvm.ClassFile.FieldType.int), 3, 12)
def vd_h283 : vd_H := (⟨"VideoDecoderModel", "block", "(III)I"⟩, prog_14_method_114_code, 5, (Option.some Jvm.ClassFile.FieldType.int), 4, 12)
def vd_h284 : vd_H := (⟨"VideoDecoderModel", "fault", "(I)I"⟩, prog_14_method_115_code, 2, (Option.some Jvm.ClassFile.FieldType.int), 2, 12)
def vd_h285 : vd_H := (⟨"VideoDecoderModel", "count", "(I)I"⟩, prog_14_method_116_code, 2, (Option.some Jvm.ClassFile.FieldType.int), 2, 12)
def vd_h286 : vd_H := (⟨"java/util/Arrays", "fill", "([II)V"⟩, prog_33_method_103_code, 4, (Option.none : Option Jvm.ClassFile.FieldType), 2, 99)
def vd_h287 : vd_H := (⟨"java/lang/Math", "max", "(II)I"⟩, prog_24_method_65_code, 2, (Option.some Jvm.ClassFile.FieldType.int), 2, 99)
def vd_h288 : vd_H := (⟨"java/util/Arrays", "fill", "([BB)V"⟩, prog_33_method_109_code, 4, (Option.none : Option Jvm.ClassFile.FieldType), 2, 99)
def vd_h289 : vd_H := (⟨"java/lang/Math", "min", "(II)I"⟩, prog_24_method_69_code, 2, (Option.some Jvm.ClassFile.FieldType.int), 2, 99)
def vd_h290 : vd_H := (⟨"java/util/Arrays", "fill", "([IIII)V"⟩, prog_33_method_104_code, 5, (Option.none : Option Jvm.ClassFile.FieldType), 4, 99)
def vd_h291 : vd_H := (⟨"java/util/Arrays", "rangeCheck", "(III)V"⟩, prog_33_method_30_code, 3, (Option.none : Option Jvm.ClassFile.FieldType), 3, 99)
def vd_h292 : vd_H := (⟨"java/lang/Math", "abs", "(I)I"⟩, prog_24_method_59_code, 1, (Option.some Jvm.ClassFile.FieldType.int), 1, 99)
def vd_h293 : vd_H := (⟨"java/util/Arrays", "fill", "([BIIB)V"⟩, prog_33_method_110_code, 5, (Option.none : Option Jvm.ClassFile.FieldType), 4, 99)
def vd_h294 : vd_H := (⟨"java/util/Arrays", "fill", "([ZZ)V"⟩, prog_33_method_111_code, 4, (Option.none : Option Jvm.ClassFile.FieldType), 2, 99)
def vd_h295 : vd_H := (⟨"java/lang/Math", "min", "(JJ)J"⟩, prog_24_method_70_code, 4, (Option.some Jvm.ClassFile.FieldType.long), 2, 99)
def vd_hd0 : List vd_H := [vd_h0, vd_h1, vd_h2, vd_h3, vd_h4, vd_h5, vd_h6, vd_h7, vd_h8, vd_h9, vd_h10, vd_h11, vd_h12, vd_h13, vd_h14, vd_h15, vd_h16, vd_h17, vd_h18, vd_h19, vd_h20, vd_h21, vd_h22, vd_h23, vd_h24, vd_h25, vd_h26, vd_h27, vd_h28, vd_h29, vd_h30, vd_h31, vd_h32, vd_h33, vd_h34, vd_h35, vd_h36, vd_h37, vd_h38, vd_h39, vd_h40, vd_h41, vd_h42, vd_h43, vd_h44, vd_h45, vd_h46, vd_h47, vd_h48, vd_h49]
def vd_hd1 : List vd_H := [vd_h50, vd_h51, vd_h52, vd_h53, vd_h54, vd_h55, vd_h56, vd_h57, vd_h58, vd_h59, vd_h60, vd_h61, vd_h62, vd_h63, vd_h64, vd_h65, vd_h66, vd_h67, vd_h68, vd_h69, vd_h70, vd_h71, vd_h72, vd_h73, vd_h74, vd_h75, vd_h76, vd_h77, vd_h78, vd_h79, vd_h80, vd_h81, vd_h82, vd_h83, vd_h84, vd_h85, vd_h86, vd_h87, vd_h88, vd_h89, vd_h90, vd_h91, vd_h92, vd_h93, vd_h94, vd_h95, vd_h96, vd_h97, vd_h98, vd_h99]
def vd_hd2 : List vd_H := [vd_h100, vd_h101, vd_h102, vd_h103, vd_h104, vd_h105, vd_h106, vd_h107, vd_h108, vd_h109, vd_h110, vd_h111, vd_h112, vd_h113, vd_h114, vd_h115, vd_h116, vd_h117, vd_h118, vd_h119, vd_h120, vd_h121, vd_h122, vd_h123, vd_h124, vd_h125, vd_h126, vd_h127, vd_h128, vd_h129, vd_h130, vd_h131, vd_h132, vd_h133, vd_h134, vd_h135, vd_h136, vd_h137, vd_h138, vd_h139, vd_h140, vd_h141, vd_h142, vd_h143, vd_h144, vd_h145, vd_h146, vd_h147, vd_h148, vd_h149]
def vd_hd3 : List vd_H := [vd_h150, vd_h151, vd_h152, vd_h153, vd_h154, vd_h155, vd_h156, vd_h157, vd_h158, vd_h159, vd_h160, vd_h161, vd_h162, vd_h163, vd_h164, vd_h165, vd_h166, vd_h167, vd_h168, vd_h169, vd_h170, vd_h171, vd_h172, vd_h173, vd_h174, vd_h175, vd_h176, vd_h177, vd_h178, vd_h179, vd_h180, vd_h181, vd_h182, vd_h183, vd_h184, vd_h185, vd_h186, vd_h187, vd_h188, vd_h189, vd_h190, vd_h191, vd_h192, vd_h193, vd_h194, vd_h195, vd_h196, vd_h197, vd_h198, vd_h199]
def vd_hd4 : List vd_H := [vd_h200, vd_h201, vd_h202, vd_h203, vd_h204, vd_h205, vd_h206, vd_h207, vd_h208, vd_h209, vd_h210, vd_h211, vd_h212, vd_h213, vd_h214, vd_h215, vd_h216, vd_h217, vd_h218, vd_h219, vd_h220, vd_h221, vd_h222, vd_h223, vd_h224, vd_h225, vd_h226, vd_h227, vd_h228, vd_h229, vd_h230, vd_h231, vd_h232, vd_h233, vd_h234, vd_h235, vd_h236, vd_h237, vd_h238, vd_h239, vd_h240, vd_h241, vd_h242, vd_h243, vd_h244, vd_h245, vd_h246, vd_h247, vd_h248, vd_h249]
def vd_hd5 : List vd_H := [vd_h250, vd_h251, vd_h252, vd_h253, vd_h254, vd_h255, vd_h256, vd_h257, vd_h258, vd_h259, vd_h260, vd_h261, vd_h262, vd_h263, vd_h264, vd_h265, vd_h266, vd_h267, vd_h268, vd_h269, vd_h270, vd_h271, vd_h272, vd_h273, vd_h274, vd_h275, vd_h276, vd_h277, vd_h278, vd_h279, vd_h280, vd_h281, vd_h282, vd_h283, vd_h284, vd_h285, vd_h286, vd_h287, vd_h288, vd_h289, vd_h290, vd_h291, vd_h292, vd_h293, vd_h294, vd_h295]
def vd_hds : List vd_H := vd_hd0 ++ (vd_hd1 ++ (vd_hd2 ++ (vd_hd3 ++ (vd_hd4 ++ (vd_hd5)))))
def vd_HD (k : Nat) : vd_H := vd_hds.getD k (objectInit, ⟨#[]⟩, 0, none, 0, 99)
def vd_RW (k : Nat) : List (Nat × Nat × Nat × Nat) := match k with
  | 16 => [(0, 16, 19, 13)]
  | 19 => [(0, 9, 12, 19)]
  | 21 => [(0, 8, 11, 25)]
  | 150 => [(0, 9, 12, 19)]
  | 152 => [(0, 14, 17, 34), (0, 14, 21, 36)]
  | 155 => [(0, 10, 13, 34), (0, 10, 17, 36)]
  | 157 => [(0, 10, 13, 34), (0, 10, 17, 19)]
  | 159 => [(0, 10, 13, 36)]
  | 161 => [(0, 12, 15, 36), (0, 12, 19, 19)]
  | _ => []
def vd_HN (k : Nat) : List (Nat × Nat × Nat) := match k with
  | 16 => [(11, 14, 19)]
  | 19 => [(4, 15, 12)]
  | 21 => [(3, 16, 11)]
  | 150 => [(4, 15, 12)]
  | 152 => [(9, 17, 17), (9, 18, 21)]
  | 155 => [(5, 17, 13), (5, 18, 17)]
  | 157 => [(5, 17, 13), (5, 15, 17)]
  | 159 => [(5, 18, 13)]
  | 161 => [(7, 18, 15), (7, 15, 19)]
  | _ => []
def vd_iw (c : Nat) : Nat × Nat := match c with
  | 0 => (198, 163)
  | 1 => (485, 169)
  | 2 => (385, 167)
  | 3 => (678, 173)
  | 4 => (424, 168)
  | 5 => (231, 165)
  | 6 => (593, 172)
  | 7 => (1069, 184)
  | 8 => (209, 164)
  | 9 => (491, 170)
  | 10 => (323, 166)
  | 11 => (562, 171)
  | 12 => (1860, 175)
  | 13 => (1874, 176)
  | _ => (0, 0)
theorem vd_wO : Cond.instanceMethod objectInit ∈ vd_tb ∧ Cond.code objectInit ⟨#[0xb1]⟩ 1 none ∈ vd_tb := ⟨vd_wi_mem (w := 203) (by decide +kernel), vd_wi_mem (w := 204) (by decide +kernel)⟩
theorem vd_wA : Cond.native arraycopyName ∈ vd_tb ∧ Cond.static arraycopyName ∈ vd_tb ∧ Cond.initialized "java/lang/System" ∈ vd_tb := ⟨vd_wi_mem (w := 921) (by decide +kernel), vd_wi_mem (w := 920) (by decide +kernel), vd_wi_mem (w := 182) (by decide +kernel)⟩
set_option maxRecDepth 100000 in
theorem vd_mk1 : vd_Mk vd_h1 [] := vd_MkC (w := (163, 200, 0)) 201 (by with_unfolding_all rfl) (by decide +kernel)
set_option maxRecDepth 100000 in
theorem vd_mk2 : vd_Mk vd_h2 [] := vd_MkC (w := (164, 211, 0)) 212 (by with_unfolding_all rfl) (by decide +kernel)
set_option maxRecDepth 100000 in
theorem vd_mk3 : vd_Mk vd_h3 [] := vd_MkC (w := (165, 233, 0)) 234 (by with_unfolding_all rfl) (by decide +kernel)
set_option maxRecDepth 100000 in
theorem vd_mk4 : vd_Mk vd_h4 [] := vd_MkC (w := (166, 325, 0)) 326 (by with_unfolding_all rfl) (by decide +kernel)
set_option maxRecDepth 100000 in
theorem vd_mk5 : vd_Mk vd_h5 [] := vd_MkC (w := (167, 387, 0)) 388 (by with_unfolding_all rfl) (by decide +kernel)
set_option maxRecDepth 100000 in
theorem vd_mk6 : vd_Mk vd_h6 [] := vd_MkC (w := (168, 426, 0)) 427 (by with_unfolding_all rfl) (by decide +kernel)
set_option maxRecDepth 100000 in
theorem vd_mk7 : vd_Mk vd_h7 [] := vd_MkC (w := (169, 487, 0)) 488 (by with_unfolding_all rfl) (by decide +kernel)
set_option maxRecDepth 100000 in
theorem vd_mk8 : vd_Mk vd_h8 [] := vd_MkC (w := (170, 493, 0)) 494 (by with_unfolding_all rfl) (by decide +kernel)
set_option maxRecDepth 100000 in
theorem vd_mk9 : vd_Mk vd_h9 [] := vd_MkC (w := (170, 497, 0)) 498 (by with_unfolding_all rfl) (by decide +kernel)
set_option maxRecDepth 100000 in
theorem vd_mk10 : vd_Mk vd_h10 [] := vd_MkC (w := (170, 500, 0)) 501 (by with_unfolding_all rfl) (by decide +kernel)
set_option maxRecDepth 100000 in
theorem vd_mk11 : vd_Mk vd_h11 [] := vd_MkC (w := (170, 503, 0)) 504 (by with_unfolding_all rfl) (by decide +kernel)
set_option maxRecDepth 100000 in
theorem vd_mk12 : vd_Mk vd_h12 [] := vd_MkC (w := (171, 564, 0)) 565 (by with_unfolding_all rfl) (by decide +kernel)
set_option maxRecDepth 100000 in
theorem vd_mk13 : vd_Mk vd_h13 [] := vd_MkC (w := (172, 595, 0)) 596 (by with_unfolding_all rfl) (by decide +kernel)
set_option maxRecDepth 100000 in
theorem vd_mk14 : vd_Mk vd_h14 [] := vd_MkC (w := (173, 680, 0)) 681 (by with_unfolding_all rfl) (by decide +kernel)
set_option maxRecDepth 100000 in
theorem vd_mk15 : vd_Mk vd_h15 [] := vd_MkC (w := (163, 781, 782)) 783 (by with_unfolding_all rfl) (by decide +kernel)
set_option maxRecDepth 100000 in
theorem vd_mk16 : vd_Mk vd_h16 [(0, 16, 19, 13)] := vd_MkW (w := (162, 785, 0)) 786 (by with_unfolding_all rfl) (by decide +kernel)
set_option maxRecDepth 100000 in
theorem vd_mk17 : vd_Mk vd_h17 [] := vd_MkC (w := (163, 789, 790)) 791 (by with_unfolding_all rfl) (by decide +kernel)
set_option maxRecDepth 100000 in
theorem vd_mk18 : vd_Mk vd_h18 [] := vd_MkC (w := (163, 861, 1)) 862 (by with_unfolding_all rfl) (by decide +kernel)
set_option maxRecDepth 100000 in
theorem vd_mk19 : vd_Mk vd_h19 [(0, 9, 12, 19)] := vd_MkW (w := (162, 864, 0)) 865 (by with_unfolding_all rfl) (by decide +kernel)
set_option maxRecDepth 100000 in
theorem vd_mk20 : vd_Mk vd_h20 [] := vd_MkC (w := (163, 868, 869)) 870 (by with_unfolding_all rfl) (by decide +kernel)
set_option maxRecDepth 100000 in
theorem vd_mk21 : vd_Mk vd_h21 [(0, 8, 11, 25)] := vd_MkW (w := (162, 887, 0)) 888 (by with_unfolding_all rfl) (by decide +kernel)
set_option maxRecDepth 100000 in
theorem vd_mk22 : vd_Mk vd_h22 [] := vd_MkC (w := (163, 891, 892)) 893 (by with_unfolding_all rfl) (by decide +kernel)
set_option maxRecDepth 100000 in
theorem vd_mk23 : vd_Mk vd_h23 [] := vd_MkC (w := (163, 896, 2)) 897 (by with_unfolding_all rfl) (by decide +kernel)
set_option maxRecDepth 100000 in
theorem vd_mk24 : vd_Mk vd_h24 [] := vd_MkC (w := (163, 900, 3)) 901 (by with_unfolding_all rfl) (by decide +kernel)
set_option maxRecDepth 100000 in
theorem vd_mk25 : vd_Mk vd_h25 [] := vd_MkC (w := (163, 904, 4)) 905 (by with_unfolding_all rfl) (by decide +kernel)
set_option maxRecDepth 100000 in
theorem vd_mk26 : vd_Mk vd_h26 [] := vd_MkC (w := (163, 909, 5)) 910 (by with_unfolding_all rfl) (by decide +kernel)
set_option maxRecDepth 100000 in
theorem vd_mk27 : vd_Mk vd_h27 [] := vd_MkC (w := (164, 912, 913)) 914 (by with_unfolding_all rfl) (by decide +kernel)
set_option maxRecDepth 100000 in
theorem vd_mk28 : vd_Mk vd_h28 [] := vd_MkC (w := (166, 916, 917)) 918 (by with_unfolding_all rfl) (by decide +kernel)
set_option maxRecDepth 100000 in
theorem vd_mk29 : vd_Mk vd_h29 [] := vd_MkC (w := (165, 923, 924)) 925 (by with_unfolding_all rfl) (by decide +kernel)
set_option maxRecDepth 100000 in
theorem vd_mk30 : vd_Mk vd_h30 [] := vd_MkC (w := (164, 927, 928)) 929 (by with_unfolding_all rfl) (by decide +kernel)
set_option maxRecDepth 100000 in
theorem vd_mk31 : vd_Mk vd_h31 [] := vd_MkC (w := (164, 931, 932)) 933 (by with_unfolding_all rfl) (by decide +kernel)
set_option maxRecDepth 100000 in
theorem vd_mk32 : vd_Mk vd_h32 [] := vd_MkC (w := (164, 935, 936)) 937 (by with_unfolding_all rfl) (by decide +kernel)
set_option maxRecDepth 100000 in
theorem vd_mk33 : vd_Mk vd_h33 [] := vd_MkC (w := (165, 940, 941)) 942 (by with_unfolding_all rfl) (by decide +kernel)
set_option maxRecDepth 100000 in
theorem vd_mk34 : vd_Mk vd_h34 [] := vd_MkC (w := (165, 945, 6)) 946 (by with_unfolding_all rfl) (by decide +kernel)
set_option maxRecDepth 100000 in
theorem vd_mk35 : vd_Mk vd_h35 [] := vd_MkC (w := (165, 949, 7)) 950 (by with_unfolding_all rfl) (by decide +kernel)
set_option maxRecDepth 100000 in
theorem vd_mk36 : vd_Mk vd_h36 [] := vd_MkC (w := (165, 952, 953)) 954 (by with_unfolding_all rfl) (by decide +kernel)
set_option maxRecDepth 100000 in
theorem vd_mk37 : vd_Mk vd_h37 [] := vd_MkC (w := (166, 956, 957)) 958 (by with_unfolding_all rfl) (by decide +kernel)
set_option maxRecDepth 100000 in
theorem vd_mk38 : vd_Mk vd_h38 [] := vd_MkC (w := (166, 961, 8)) 962 (by with_unfolding_all rfl) (by decide +kernel)
set_option maxRecDepth 100000 in
theorem vd_mk39 : vd_Mk vd_h39 [] := vd_MkC (w := (166, 966, 9)) 967 (by with_unfolding_all rfl) (by decide +kernel)
set_option maxRecDepth 100000 in
theorem vd_mk40 : vd_Mk vd_h40 [] := vd_MkC (w := (164, 971, 972)) 973 (by with_unfolding_all rfl) (by decide +kernel)
set_option maxRecDepth 100000 in
theorem vd_mk41 : vd_Mk vd_h41 [] := vd_MkC (w := (166, 976, 10)) 977 (by with_unfolding_all rfl) (by decide +kernel)
set_option maxRecDepth 100000 in
theorem vd_mk42 : vd_Mk vd_h42 [] := vd_MkC (w := (164, 979, 980)) 981 (by with_unfolding_all rfl) (by decide +kernel)
set_option maxRecDepth 100000 in
theorem vd_mk43 : vd_Mk vd_h43 [] := vd_MkC (w := (166, 987, 11)) 988 (by with_unfolding_all rfl) (by decide +kernel)
set_option maxRecDepth 100000 in
theorem vd_mk44 : vd_Mk vd_h44 [] := vd_MkC (w := (166, 991, 12)) 992 (by with_unfolding_all rfl) (by decide +kernel)
set_option maxRecDepth 100000 in
theorem vd_mk45 : vd_Mk vd_h45 [] := vd_MkC (w := (164, 994, 995)) 996 (by with_unfolding_all rfl) (by decide +kernel)
set_option maxRecDepth 100000 in
theorem vd_mk46 : vd_Mk vd_h46 [] := vd_MkC (w := (163, 999, 13)) 1000 (by with_unfolding_all rfl) (by decide +kernel)
set_option maxRecDepth 100000 in
theorem vd_mk47 : vd_Mk vd_h47 [] := vd_MkC (w := (168, 1002, 1003)) 1004 (by with_unfolding_all rfl) (by decide +kernel)
set_option maxRecDepth 100000 in
theorem vd_mk48 : vd_Mk vd_h48 [] := vd_MkC (w := (168, 1006, 1007)) 1008 (by with_unfolding_all rfl) (by decide +kernel)
set_option maxRecDepth 100000 in
theorem vd_mk49 : vd_Mk vd_h49 [] := vd_MkC (w := (168, 1013, 14)) 1014 (by with_unfolding_all rfl) (by decide +kernel)
set_option maxRecDepth 100000 in
theorem vd_mk50 : vd_Mk vd_h50 [] := vd_MkC (w := (163, 1020, 15)) 1021 (by with_unfolding_all rfl) (by decide +kernel)
set_option maxRecDepth 100000 in
theorem vd_mk51 : vd_Mk vd_h51 [] := vd_MkC (w := (167, 1025, 1026)) 1027 (by with_unfolding_all rfl) (by decide +kernel)
set_option maxRecDepth 100000 in
theorem vd_mk52 : vd_Mk vd_h52 [] := vd_MkC (w := (166, 1032, 1033)) 1034 (by with_unfolding_all rfl) (by decide +kernel)
set_option maxRecDepth 100000 in
theorem vd_mk53 : vd_Mk vd_h53 [] := vd_MkC (w := (165, 1036, 1037)) 1038 (by with_unfolding_all rfl) (by decide +kernel)
set_option maxRecDepth 100000 in
theorem vd_mk54 : vd_Mk vd_h54 [] := vd_MkC (w := (167, 1040, 1041)) 1042 (by with_unfolding_all rfl) (by decide +kernel)
set_option maxRecDepth 100000 in
theorem vd_mk55 : vd_Mk vd_h55 [] := vd_MkC (w := (167, 1044, 1045)) 1046 (by with_unfolding_all rfl) (by decide +kernel)
set_option maxRecDepth 100000 in
theorem vd_mk56 : vd_Mk vd_h56 [] := vd_MkC (w := (167, 1048, 1049)) 1050 (by with_unfolding_all rfl) (by decide +kernel)
set_option maxRecDepth 100000 in
theorem vd_mk57 : vd_Mk vd_h57 [] := vd_MkC (w := (167, 1053, 16)) 1054 (by with_unfolding_all rfl) (by decide +kernel)
set_option maxRecDepth 100000 in
theorem vd_mk58 : vd_Mk vd_h58 [] := vd_MkC (w := (163, 1058, 0)) 1059 (by with_unfolding_all rfl) (by decide +kernel)
set_option maxRecDepth 100000 in
theorem vd_mk59 : vd_Mk vd_h59 [] := vd_MkC (w := (167, 1061, 1062)) 1063 (by with_unfolding_all rfl) (by decide +kernel)
set_option maxRecDepth 100000 in
theorem vd_mk60 : vd_Mk vd_h60 [] := vd_MkC (w := (163, 1067, 17)) 1068 (by with_unfolding_all rfl) (by decide +kernel)
set_option maxRecDepth 100000 in
theorem vd_mk61 : vd_Mk vd_h61 [] := vd_MkC (w := (184, 1071, 0)) 1072 (by with_unfolding_all rfl) (by decide +kernel)
set_option maxRecDepth 100000 in
theorem vd_mk62 : vd_Mk vd_h62 [] := vd_MkC (w := (163, 1096, 18)) 1097 (by with_unfolding_all rfl) (by decide +kernel)
set_option maxRecDepth 100000 in
theorem vd_mk63 : vd_Mk vd_h63 [] := vd_MkC (w := (184, 1099, 1100)) 1101 (by with_unfolding_all rfl) (by decide +kernel)
set_option maxRecDepth 100000 in
theorem vd_mk64 : vd_Mk vd_h64 [] := vd_MkC (w := (169, 1104, 1105)) 1106 (by with_unfolding_all rfl) (by decide +kernel)
set_option maxRecDepth 100000 in
theorem vd_mk65 : vd_Mk vd_h65 [] := vd_MkC (w := (172, 1108, 1109)) 1110 (by with_unfolding_all rfl) (by decide +kernel)
set_option maxRecDepth 100000 in
theorem vd_mk66 : vd_Mk vd_h66 [] := vd_MkC (w := (169, 1113, 19)) 1114 (by with_unfolding_all rfl) (by decide +kernel)
set_option maxRecDepth 100000 in
theorem vd_mk67 : vd_Mk vd_h67 [] := vd_MkC (w := (169, 1117, 20)) 1118 (by with_unfolding_all rfl) (by decide +kernel)
set_option maxRecDepth 100000 in
theorem vd_mk68 : vd_Mk vd_h68 [] := vd_MkC (w := (168, 1120, 1121)) 1122 (by with_unfolding_all rfl) (by decide +kernel)
set_option maxRecDepth 100000 in
theorem vd_mk69 : vd_Mk vd_h69 [] := vd_MkC (w := (168, 1125, 21)) 1126 (by with_unfolding_all rfl) (by decide +kernel)
set_option maxRecDepth 100000 in
theorem vd_mk70 : vd_Mk vd_h70 [] := vd_MkC (w := (168, 1128, 1129)) 1130 (by with_unfolding_all rfl) (by decide +kernel)
set_option maxRecDepth 100000 in
theorem vd_mk71 : vd_Mk vd_h71 [] := vd_MkC (w := (169, 1408, 22)) 1409 (by with_unfolding_all rfl) (by decide +kernel)
set_option maxRecDepth 100000 in
theorem vd_mk72 : vd_Mk vd_h72 [] := vd_MkC (w := (168, 1411, 1412)) 1413 (by with_unfolding_all rfl) (by decide +kernel)
set_option maxRecDepth 100000 in
theorem vd_mk73 : vd_Mk vd_h73 [] := vd_MkC (w := (169, 1418, 23)) 1419 (by with_unfolding_all rfl) (by decide +kernel)
set_option maxRecDepth 100000 in
theorem vd_mk74 : vd_Mk vd_h74 [] := vd_MkC (w := (169, 1423, 24)) 1424 (by with_unfolding_all rfl) (by decide +kernel)
set_option maxRecDepth 100000 in
theorem vd_mk75 : vd_Mk vd_h75 [] := vd_MkC (w := (169, 1427, 25)) 1428 (by with_unfolding_all rfl) (by decide +kernel)
set_option maxRecDepth 100000 in
theorem vd_mk76 : vd_Mk vd_h76 [] := vd_MkC (w := (168, 1430, 1431)) 1432 (by with_unfolding_all rfl) (by decide +kernel)
set_option maxRecDepth 100000 in
theorem vd_mk77 : vd_Mk vd_h77 [] := vd_MkC (w := (168, 1435, 26)) 1436 (by with_unfolding_all rfl) (by decide +kernel)
set_option maxRecDepth 100000 in
theorem vd_mk78 : vd_Mk vd_h78 [] := vd_MkC (w := (166, 1438, 1439)) 1440 (by with_unfolding_all rfl) (by decide +kernel)
set_option maxRecDepth 100000 in
theorem vd_mk79 : vd_Mk vd_h79 [] := vd_MkC (w := (167, 1442, 1443)) 1444 (by with_unfolding_all rfl) (by decide +kernel)
set_option maxRecDepth 100000 in
theorem vd_mk80 : vd_Mk vd_h80 [] := vd_MkC (w := (169, 1447, 27)) 1448 (by with_unfolding_all rfl) (by decide +kernel)
set_option maxRecDepth 100000 in
theorem vd_mk81 : vd_Mk vd_h81 [] := vd_MkC (w := (166, 1450, 1451)) 1452 (by with_unfolding_all rfl) (by decide +kernel)
set_option maxRecDepth 100000 in
theorem vd_mk82 : vd_Mk vd_h82 [] := vd_MkC (w := (169, 1455, 28)) 1456 (by with_unfolding_all rfl) (by decide +kernel)
set_option maxRecDepth 100000 in
theorem vd_mk83 : vd_Mk vd_h83 [] := vd_MkC (w := (169, 1459, 29)) 1460 (by with_unfolding_all rfl) (by decide +kernel)
set_option maxRecDepth 100000 in
theorem vd_mk84 : vd_Mk vd_h84 [] := vd_MkC (w := (163, 1463, 0)) 1464 (by with_unfolding_all rfl) (by decide +kernel)
set_option maxRecDepth 100000 in
theorem vd_mk85 : vd_Mk vd_h85 [] := vd_MkC (w := (169, 1467, 30)) 1468 (by with_unfolding_all rfl) (by decide +kernel)
set_option maxRecDepth 100000 in
theorem vd_mk86 : vd_Mk vd_h86 [] := vd_MkC (w := (167, 1470, 1471)) 1472 (by with_unfolding_all rfl) (by decide +kernel)
set_option maxRecDepth 100000 in
theorem vd_mk87 : vd_Mk vd_h87 [] := vd_MkC (w := (169, 1475, 31)) 1476 (by with_unfolding_all rfl) (by decide +kernel)
set_option maxRecDepth 100000 in
theorem vd_mk88 : vd_Mk vd_h88 [] := vd_MkC (w := (169, 1479, 32)) 1480 (by with_unfolding_all rfl) (by decide +kernel)
set_option maxRecDepth 100000 in
theorem vd_mk89 : vd_Mk vd_h89 [] := vd_MkC (w := (169, 1483, 33)) 1484 (by with_unfolding_all rfl) (by decide +kernel)
set_option maxRecDepth 100000 in
theorem vd_mk90 : vd_Mk vd_h90 [] := vd_MkC (w := (172, 1486, 1487)) 1488 (by with_unfolding_all rfl) (by decide +kernel)
set_option maxRecDepth 100000 in
theorem vd_mk91 : vd_Mk vd_h91 [] := vd_MkC (w := (168, 1491, 1492)) 1493 (by with_unfolding_all rfl) (by decide +kernel)
set_option maxRecDepth 100000 in
theorem vd_mk92 : vd_Mk vd_h92 [] := vd_MkC (w := (172, 1496, 34)) 1497 (by with_unfolding_all rfl) (by decide +kernel)
set_option maxRecDepth 100000 in
theorem vd_mk93 : vd_Mk vd_h93 [] := vd_MkC (w := (172, 1500, 35)) 1501 (by with_unfolding_all rfl) (by decide +kernel)
set_option maxRecDepth 100000 in
theorem vd_mk94 : vd_Mk vd_h94 [] := vd_MkC (w := (172, 1505, 36)) 1506 (by with_unfolding_all rfl) (by decide +kernel)
set_option maxRecDepth 100000 in
theorem vd_mk95 : vd_Mk vd_h95 [] := vd_MkC (w := (172, 1509, 37)) 1510 (by with_unfolding_all rfl) (by decide +kernel)
set_option maxRecDepth 100000 in
theorem vd_mk96 : vd_Mk vd_h96 [] := vd_MkC (w := (172, 1512, 0)) 1513 (by with_unfolding_all rfl) (by decide +kernel)
set_option maxRecDepth 100000 in
theorem vd_mk97 : vd_Mk vd_h97 [] := vd_MkC (w := (172, 1518, 0)) 1519 (by with_unfolding_all rfl) (by decide +kernel)
set_option maxRecDepth 100000 in
theorem vd_mk98 : vd_Mk vd_h98 [] := vd_MkC (w := (169, 1524, 38)) 1525 (by with_unfolding_all rfl) (by decide +kernel)
set_option maxRecDepth 100000 in
theorem vd_mk99 : vd_Mk vd_h99 [] := vd_MkC (w := (169, 1528, 39)) 1529 (by with_unfolding_all rfl) (by decide +kernel)
set_option maxRecDepth 100000 in
theorem vd_mk100 : vd_Mk vd_h100 [] := vd_MkC (w := (169, 1532, 40)) 1533 (by with_unfolding_all rfl) (by decide +kernel)
set_option maxRecDepth 100000 in
theorem vd_mk101 : vd_Mk vd_h101 [] := vd_MkC (w := (168, 1536, 1537)) 1538 (by with_unfolding_all rfl) (by decide +kernel)
set_option maxRecDepth 100000 in
theorem vd_mk102 : vd_Mk vd_h102 [] := vd_MkC (w := (170, 1540, 1541)) 1542 (by with_unfolding_all rfl) (by decide +kernel)
set_option maxRecDepth 100000 in
theorem vd_mk103 : vd_Mk vd_h103 [] := vd_MkC (w := (163, 1547, 0)) 1548 (by with_unfolding_all rfl) (by decide +kernel)
set_option maxRecDepth 100000 in
theorem vd_mk104 : vd_Mk vd_h104 [] := vd_MkC (w := (172, 1550, 1551)) 1552 (by with_unfolding_all rfl) (by decide +kernel)
set_option maxRecDepth 100000 in
theorem vd_mk105 : vd_Mk vd_h105 [] := vd_MkC (w := (172, 1555, 41)) 1556 (by with_unfolding_all rfl) (by decide +kernel)
set_option maxRecDepth 100000 in
theorem vd_mk106 : vd_Mk vd_h106 [] := vd_MkC (w := (172, 1559, 42)) 1560 (by with_unfolding_all rfl) (by decide +kernel)
set_option maxRecDepth 100000 in
theorem vd_mk107 : vd_Mk vd_h107 [] := vd_MkC (w := (184, 1562, 1563)) 1564 (by with_unfolding_all rfl) (by decide +kernel)
set_option maxRecDepth 100000 in
theorem vd_mk108 : vd_Mk vd_h108 [] := vd_MkC (w := (184, 1566, 1567)) 1568 (by with_unfolding_all rfl) (by decide +kernel)
set_option maxRecDepth 100000 in
theorem vd_mk109 : vd_Mk vd_h109 [] := vd_MkC (w := (184, 1570, 0)) 1571 (by with_unfolding_all rfl) (by decide +kernel)
set_option maxRecDepth 100000 in
theorem vd_mk110 : vd_Mk vd_h110 [] := vd_MkC (w := (172, 1576, 43)) 1577 (by with_unfolding_all rfl) (by decide +kernel)
set_option maxRecDepth 100000 in
theorem vd_mk111 : vd_Mk vd_h111 [] := vd_MkC (w := (168, 1579, 1580)) 1581 (by with_unfolding_all rfl) (by decide +kernel)
set_option maxRecDepth 100000 in
theorem vd_mk112 : vd_Mk vd_h112 [] := vd_MkC (w := (169, 1587, 44)) 1588 (by with_unfolding_all rfl) (by decide +kernel)
set_option maxRecDepth 100000 in
theorem vd_mk113 : vd_Mk vd_h113 [] := vd_MkC (w := (168, 1590, 1591)) 1592 (by with_unfolding_all rfl) (by decide +kernel)
set_option maxRecDepth 100000 in
theorem vd_mk114 : vd_Mk vd_h114 [] := vd_MkC (w := (170, 1595, 1596)) 1597 (by with_unfolding_all rfl) (by decide +kernel)
set_option maxRecDepth 100000 in
theorem vd_mk115 : vd_Mk vd_h115 [] := vd_MkC (w := (170, 1599, 1600)) 1601 (by with_unfolding_all rfl) (by decide +kernel)
set_option maxRecDepth 100000 in
theorem vd_mk116 : vd_Mk vd_h116 [] := vd_MkC (w := (170, 1604, 45)) 1605 (by with_unfolding_all rfl) (by decide +kernel)
set_option maxRecDepth 100000 in
theorem vd_mk117 : vd_Mk vd_h117 [] := vd_MkC (w := (168, 1607, 1608)) 1609 (by with_unfolding_all rfl) (by decide +kernel)
set_option maxRecDepth 100000 in
theorem vd_mk118 : vd_Mk vd_h118 [] := vd_MkC (w := (168, 1611, 1612)) 1613 (by with_unfolding_all rfl) (by decide +kernel)
set_option maxRecDepth 100000 in
theorem vd_mk119 : vd_Mk vd_h119 [] := vd_MkC (w := (170, 1616, 46)) 1617 (by with_unfolding_all rfl) (by decide +kernel)
set_option maxRecDepth 100000 in
theorem vd_mk120 : vd_Mk vd_h120 [] := vd_MkC (w := (170, 1619, 0)) 1620 (by with_unfolding_all rfl) (by decide +kernel)
set_option maxRecDepth 100000 in
theorem vd_mk121 : vd_Mk vd_h121 [] := vd_MkC (w := (170, 1628, 47)) 1629 (by with_unfolding_all rfl) (by decide +kernel)
set_option maxRecDepth 100000 in
theorem vd_mk122 : vd_Mk vd_h122 [] := vd_MkC (w := (170, 1635, 48)) 1636 (by with_unfolding_all rfl) (by decide +kernel)
set_option maxRecDepth 100000 in
theorem vd_mk123 : vd_Mk vd_h123 [] := vd_MkC (w := (171, 1641, 1642)) 1643 (by with_unfolding_all rfl) (by decide +kernel)
set_option maxRecDepth 100000 in
theorem vd_mk124 : vd_Mk vd_h124 [] := vd_MkC (w := (171, 1646, 49)) 1647 (by with_unfolding_all rfl) (by decide +kernel)
set_option maxRecDepth 100000 in
theorem vd_mk125 : vd_Mk vd_h125 [] := vd_MkC (w := (171, 1652, 50)) 1653 (by with_unfolding_all rfl) (by decide +kernel)
set_option maxRecDepth 100000 in
theorem vd_mk126 : vd_Mk vd_h126 [] := vd_MkC (w := (171, 1655, 1656)) 1657 (by with_unfolding_all rfl) (by decide +kernel)
set_option maxRecDepth 100000 in
theorem vd_mk127 : vd_Mk vd_h127 [] := vd_MkC (w := (171, 1660, 51)) 1661 (by with_unfolding_all rfl) (by decide +kernel)
set_option maxRecDepth 100000 in
theorem vd_mk128 : vd_Mk vd_h128 [] := vd_MkC (w := (171, 1664, 52)) 1665 (by with_unfolding_all rfl) (by decide +kernel)
set_option maxRecDepth 100000 in
theorem vd_mk129 : vd_Mk vd_h129 [] := vd_MkC (w := (171, 1668, 53)) 1669 (by with_unfolding_all rfl) (by decide +kernel)
set_option maxRecDepth 100000 in
theorem vd_mk130 : vd_Mk vd_h130 [] := vd_MkC (w := (171, 1672, 54)) 1673 (by with_unfolding_all rfl) (by decide +kernel)
set_option maxRecDepth 100000 in
theorem vd_mk131 : vd_Mk vd_h131 [] := vd_MkC (w := (170, 1676, 1677)) 1678 (by with_unfolding_all rfl) (by decide +kernel)
set_option maxRecDepth 100000 in
theorem vd_mk132 : vd_Mk vd_h132 [] := vd_MkC (w := (170, 1681, 55)) 1682 (by with_unfolding_all rfl) (by decide +kernel)
set_option maxRecDepth 100000 in
theorem vd_mk133 : vd_Mk vd_h133 [] := vd_MkC (w := (170, 1685, 56)) 1686 (by with_unfolding_all rfl) (by decide +kernel)
set_option maxRecDepth 100000 in
theorem vd_mk134 : vd_Mk vd_h134 [] := vd_MkC (w := (170, 1691, 57)) 1692 (by with_unfolding_all rfl) (by decide +kernel)
set_option maxRecDepth 100000 in
theorem vd_mk135 : vd_Mk vd_h135 [] := vd_MkC (w := (169, 1696, 58)) 1697 (by with_unfolding_all rfl) (by decide +kernel)
set_option maxRecDepth 100000 in
theorem vd_mk136 : vd_Mk vd_h136 [] := vd_MkC (w := (173, 1700, 1701)) 1702 (by with_unfolding_all rfl) (by decide +kernel)
set_option maxRecDepth 100000 in
theorem vd_mk137 : vd_Mk vd_h137 [] := vd_MkC (w := (173, 1705, 59)) 1706 (by with_unfolding_all rfl) (by decide +kernel)
set_option maxRecDepth 100000 in
theorem vd_mk138 : vd_Mk vd_h138 [] := vd_MkC (w := (173, 1712, 60)) 1713 (by with_unfolding_all rfl) (by decide +kernel)
set_option maxRecDepth 100000 in
theorem vd_mk139 : vd_Mk vd_h139 [] := vd_MkC (w := (184, 1715, 0)) 1716 (by with_unfolding_all rfl) (by decide +kernel)
set_option maxRecDepth 100000 in
theorem vd_mk140 : vd_Mk vd_h140 [] := vd_MkC (w := (173, 1721, 61)) 1722 (by with_unfolding_all rfl) (by decide +kernel)
set_option maxRecDepth 100000 in
theorem vd_mk141 : vd_Mk vd_h141 [] := vd_MkC (w := (173, 1725, 62)) 1726 (by with_unfolding_all rfl) (by decide +kernel)
set_option maxRecDepth 100000 in
theorem vd_mk142 : vd_Mk vd_h142 [] := vd_MkC (w := (173, 1732, 63)) 1733 (by with_unfolding_all rfl) (by decide +kernel)
set_option maxRecDepth 100000 in
theorem vd_mk143 : vd_Mk vd_h143 [] := vd_MkC (w := (173, 1737, 64)) 1738 (by with_unfolding_all rfl) (by decide +kernel)
set_option maxRecDepth 100000 in
theorem vd_mk144 : vd_Mk vd_h144 [] := vd_MkC (w := (173, 1741, 65)) 1742 (by with_unfolding_all rfl) (by decide +kernel)
set_option maxRecDepth 100000 in
theorem vd_mk145 : vd_Mk vd_h145 [] := vd_MkC (w := (173, 1744, 0)) 1745 (by with_unfolding_all rfl) (by decide +kernel)
set_option maxRecDepth 100000 in
theorem vd_mk146 : vd_Mk vd_h146 [] := vd_MkC (w := (173, 1748, 66)) 1749 (by with_unfolding_all rfl) (by decide +kernel)
set_option maxRecDepth 100000 in
theorem vd_mk147 : vd_Mk vd_h147 [] := vd_MkC (w := (173, 1752, 67)) 1753 (by with_unfolding_all rfl) (by decide +kernel)
set_option maxRecDepth 100000 in
theorem vd_mk148 : vd_Mk vd_h148 [] := vd_MkC (w := (163, 1756, 68)) 1757 (by with_unfolding_all rfl) (by decide +kernel)
set_option maxRecDepth 100000 in
theorem vd_mk149 : vd_Mk vd_h149 [] := vd_MkC (w := (167, 1759, 1760)) 1761 (by with_unfolding_all rfl) (by decide +kernel)
set_option maxRecDepth 100000 in
theorem vd_mk150 : vd_Mk vd_h150 [(0, 9, 12, 19)] := vd_MkW (w := (162, 1778, 0)) 1779 (by with_unfolding_all rfl) (by decide +kernel)
set_option maxRecDepth 100000 in
theorem vd_mk151 : vd_Mk vd_h151 [] := vd_MkC (w := (163, 1781, 1782)) 1783 (by with_unfolding_all rfl) (by decide +kernel)
set_option maxRecDepth 100000 in
theorem vd_mk152 : vd_Mk vd_h152 [(0, 14, 17, 34), (0, 14, 21, 36)] := vd_MkW (w := (162, 1785, 0)) 1786 (by with_unfolding_all rfl) (by decide +kernel)
set_option maxRecDepth 100000 in
theorem vd_mk153 : vd_Mk vd_h153 [] := vd_MkC (w := (163, 1790, 1791)) 1792 (by with_unfolding_all rfl) (by decide +kernel)
set_option maxRecDepth 100000 in
theorem vd_mk154 : vd_Mk vd_h154 [] := vd_MkC (w := (163, 1795, 69)) 1796 (by with_unfolding_all rfl) (by decide +kernel)
set_option maxRecDepth 100000 in
theorem vd_mk155 : vd_Mk vd_h155 [(0, 10, 13, 34), (0, 10, 17, 36)] := vd_MkW (w := (162, 1831, 0)) 1832 (by with_unfolding_all rfl) (by decide +kernel)
set_option maxRecDepth 100000 in
theorem vd_mk156 : vd_Mk vd_h156 [] := vd_MkC (w := (163, 1834, 1835)) 1836 (by with_unfolding_all rfl) (by decide +kernel)
set_option maxRecDepth 100000 in
theorem vd_mk157 : vd_Mk vd_h157 [(0, 10, 13, 34), (0, 10, 17, 19)] := vd_MkW (w := (162, 1838, 0)) 1839 (by with_unfolding_all rfl) (by decide +kernel)
set_option maxRecDepth 100000 in
theorem vd_mk158 : vd_Mk vd_h158 [] := vd_MkC (w := (163, 1841, 1842)) 1843 (by with_unfolding_all rfl) (by decide +kernel)
set_option maxRecDepth 100000 in
theorem vd_mk159 : vd_Mk vd_h159 [(0, 10, 13, 36)] := vd_MkW (w := (162, 1845, 0)) 1846 (by with_unfolding_all rfl) (by decide +kernel)
set_option maxRecDepth 100000 in
theorem vd_mk160 : vd_Mk vd_h160 [] := vd_MkC (w := (163, 1848, 1849)) 1850 (by with_unfolding_all rfl) (by decide +kernel)
set_option maxRecDepth 100000 in
theorem vd_mk161 : vd_Mk vd_h161 [(0, 12, 15, 36), (0, 12, 19, 19)] := vd_MkW (w := (162, 1852, 0)) 1853 (by with_unfolding_all rfl) (by decide +kernel)
set_option maxRecDepth 100000 in
theorem vd_mk162 : vd_Mk vd_h162 [] := vd_MkC (w := (163, 1855, 1856)) 1857 (by with_unfolding_all rfl) (by decide +kernel)
set_option maxRecDepth 100000 in
theorem vd_mk163 : vd_Mk vd_h163 [] := vd_MkC (w := (175, 1862, 0)) 1863 (by with_unfolding_all rfl) (by decide +kernel)
set_option maxRecDepth 100000 in
theorem vd_mk164 : vd_Mk vd_h164 [] := vd_MkC (w := (176, 1876, 0)) 1877 (by with_unfolding_all rfl) (by decide +kernel)
set_option maxRecDepth 100000 in
theorem vd_mk165 : vd_Mk vd_h165 [] := vd_MkC (w := (175, 1902, 70)) 1903 (by with_unfolding_all rfl) (by decide +kernel)
set_option maxRecDepth 100000 in
theorem vd_mk166 : vd_Mk vd_h166 [] := vd_MkC (w := (175, 2311, 2312)) 2313 (by with_unfolding_all rfl) (by decide +kernel)
set_option maxRecDepth 100000 in
theorem vd_mk167 : vd_Mk vd_h167 [] := vd_MkC (w := (175, 2315, 2316)) 2317 (by with_unfolding_all rfl) (by decide +kernel)
set_option maxRecDepth 100000 in
theorem vd_mk168 : vd_Mk vd_h168 [] := vd_MkC (w := (175, 2321, 71)) 2322 (by with_unfolding_all rfl) (by decide +kernel)
set_option maxRecDepth 100000 in
theorem vd_mk169 : vd_Mk vd_h169 [] := vd_MkC (w := (175, 2324, 2325)) 2326 (by with_unfolding_all rfl) (by decide +kernel)
set_option maxRecDepth 100000 in
theorem vd_mk170 : vd_Mk vd_h170 [] := vd_MkC (w := (175, 2328, 2329)) 2330 (by with_unfolding_all rfl) (by decide +kernel)
set_option maxRecDepth 100000 in
theorem vd_mk171 : vd_Mk vd_h171 [] := vd_MkC (w := (175, 2333, 72)) 2334 (by with_unfolding_all rfl) (by decide +kernel)
set_option maxRecDepth 100000 in
theorem vd_mk172 : vd_Mk vd_h172 [] := vd_MkC (w := (175, 2337, 73)) 2338 (by with_unfolding_all rfl) (by decide +kernel)
set_option maxRecDepth 100000 in
theorem vd_mk173 : vd_Mk vd_h173 [] := vd_MkC (w := (175, 2341, 74)) 2342 (by with_unfolding_all rfl) (by decide +kernel)
set_option maxRecDepth 100000 in
theorem vd_mk174 : vd_Mk vd_h174 [] := vd_MkC (w := (175, 2345, 75)) 2346 (by with_unfolding_all rfl) (by decide +kernel)
set_option maxRecDepth 100000 in
theorem vd_mk175 : vd_Mk vd_h175 [] := vd_MkC (w := (175, 2349, 76)) 2350 (by with_unfolding_all rfl) (by decide +kernel)
set_option maxRecDepth 100000 in
theorem vd_mk176 : vd_Mk vd_h176 [] := vd_MkC (w := (175, 2353, 77)) 2354 (by with_unfolding_all rfl) (by decide +kernel)
set_option maxRecDepth 100000 in
theorem vd_mk177 : vd_Mk vd_h177 [] := vd_MkC (w := (175, 2357, 78)) 2358 (by with_unfolding_all rfl) (by decide +kernel)
set_option maxRecDepth 100000 in
theorem vd_mk178 : vd_Mk vd_h178 [] := vd_MkC (w := (175, 2361, 79)) 2362 (by with_unfolding_all rfl) (by decide +kernel)
set_option maxRecDepth 100000 in
theorem vd_mk179 : vd_Mk vd_h179 [] := vd_MkC (w := (175, 2365, 80)) 2366 (by with_unfolding_all rfl) (by decide +kernel)
set_option maxRecDepth 100000 in
theorem vd_mk180 : vd_Mk vd_h180 [] := vd_MkC (w := (175, 2369, 81)) 2370 (by with_unfolding_all rfl) (by decide +kernel)
set_option maxRecDepth 100000 in
theorem vd_mk181 : vd_Mk vd_h181 [] := vd_MkC (w := (175, 2373, 82)) 2374 (by with_unfolding_all rfl) (by decide +kernel)
set_option maxRecDepth 100000 in
theorem vd_mk182 : vd_Mk vd_h182 [] := vd_MkC (w := (175, 2377, 83)) 2378 (by with_unfolding_all rfl) (by decide +kernel)
set_option maxRecDepth 100000 in
theorem vd_mk183 : vd_Mk vd_h183 [] := vd_MkC (w := (175, 2381, 84)) 2382 (by with_unfolding_all rfl) (by decide +kernel)
set_option maxRecDepth 100000 in
theorem vd_mk184 : vd_Mk vd_h184 [] := vd_MkC (w := (175, 2385, 85)) 2386 (by with_unfolding_all rfl) (by decide +kernel)
set_option maxRecDepth 100000 in
theorem vd_mk185 : vd_Mk vd_h185 [] := vd_MkC (w := (175, 2389, 86)) 2390 (by with_unfolding_all rfl) (by decide +kernel)
set_option maxRecDepth 100000 in
theorem vd_mk186 : vd_Mk vd_h186 [] := vd_MkC (w := (175, 2394, 87)) 2395 (by with_unfolding_all rfl) (by decide +kernel)
set_option maxRecDepth 100000 in
theorem vd_mk187 : vd_Mk vd_h187 [] := vd_MkC (w := (175, 2398, 88)) 2399 (by with_unfolding_all rfl) (by decide +kernel)
set_option maxRecDepth 100000 in
theorem vd_mk188 : vd_Mk vd_h188 [] := vd_MkC (w := (175, 2407, 89)) 2408 (by with_unfolding_all rfl) (by decide +kernel)
set_option maxRecDepth 100000 in
theorem vd_mk189 : vd_Mk vd_h189 [] := vd_MkC (w := (175, 2411, 90)) 2412 (by with_unfolding_all rfl) (by decide +kernel)
set_option maxRecDepth 100000 in
theorem vd_mk190 : vd_Mk vd_h190 [] := vd_MkC (w := (175, 2416, 91)) 2417 (by with_unfolding_all rfl) (by decide +kernel)
set_option maxRecDepth 100000 in
theorem vd_mk191 : vd_Mk vd_h191 [] := vd_MkC (w := (175, 2421, 92)) 2422 (by with_unfolding_all rfl) (by decide +kernel)
set_option maxRecDepth 100000 in
theorem vd_mk192 : vd_Mk vd_h192 [] := vd_MkC (w := (175, 2425, 93)) 2426 (by with_unfolding_all rfl) (by decide +kernel)
set_option maxRecDepth 100000 in
theorem vd_mk193 : vd_Mk vd_h193 [] := vd_MkC (w := (175, 2429, 94)) 2430 (by with_unfolding_all rfl) (by decide +kernel)
set_option maxRecDepth 100000 in
theorem vd_mk194 : vd_Mk vd_h194 [] := vd_MkC (w := (175, 2432, 0)) 2433 (by with_unfolding_all rfl) (by decide +kernel)
set_option maxRecDepth 100000 in
theorem vd_mk195 : vd_Mk vd_h195 [] := vd_MkC (w := (175, 2436, 95)) 2437 (by with_unfolding_all rfl) (by decide +kernel)
set_option maxRecDepth 100000 in
theorem vd_mk196 : vd_Mk vd_h196 [] := vd_MkC (w := (175, 2440, 96)) 2441 (by with_unfolding_all rfl) (by decide +kernel)
set_option maxRecDepth 100000 in
theorem vd_mk197 : vd_Mk vd_h197 [] := vd_MkC (w := (175, 2444, 97)) 2445 (by with_unfolding_all rfl) (by decide +kernel)
set_option maxRecDepth 100000 in
theorem vd_mk198 : vd_Mk vd_h198 [] := vd_MkC (w := (175, 2448, 98)) 2449 (by with_unfolding_all rfl) (by decide +kernel)
set_option maxRecDepth 100000 in
theorem vd_mk199 : vd_Mk vd_h199 [] := vd_MkC (w := (175, 2452, 99)) 2453 (by with_unfolding_all rfl) (by decide +kernel)
set_option maxRecDepth 100000 in
theorem vd_mk200 : vd_Mk vd_h200 [] := vd_MkC (w := (175, 2456, 100)) 2457 (by with_unfolding_all rfl) (by decide +kernel)
set_option maxRecDepth 100000 in
theorem vd_mk201 : vd_Mk vd_h201 [] := vd_MkC (w := (175, 2460, 101)) 2461 (by with_unfolding_all rfl) (by decide +kernel)
set_option maxRecDepth 100000 in
theorem vd_mk202 : vd_Mk vd_h202 [] := vd_MkC (w := (175, 2464, 102)) 2465 (by with_unfolding_all rfl) (by decide +kernel)
set_option maxRecDepth 100000 in
theorem vd_mk203 : vd_Mk vd_h203 [] := vd_MkC (w := (175, 2468, 103)) 2469 (by with_unfolding_all rfl) (by decide +kernel)
set_option maxRecDepth 100000 in
theorem vd_mk204 : vd_Mk vd_h204 [] := vd_MkC (w := (175, 2472, 104)) 2473 (by with_unfolding_all rfl) (by decide +kernel)
set_option maxRecDepth 100000 in
theorem vd_mk205 : vd_Mk vd_h205 [] := vd_MkC (w := (175, 2476, 105)) 2477 (by with_unfolding_all rfl) (by decide +kernel)
set_option maxRecDepth 100000 in
theorem vd_mk206 : vd_Mk vd_h206 [] := vd_MkC (w := (175, 2480, 106)) 2481 (by with_unfolding_all rfl) (by decide +kernel)
set_option maxRecDepth 100000 in
theorem vd_mk207 : vd_Mk vd_h207 [] := vd_MkC (w := (175, 2484, 107)) 2485 (by with_unfolding_all rfl) (by decide +kernel)
set_option maxRecDepth 100000 in
theorem vd_mk208 : vd_Mk vd_h208 [] := vd_MkC (w := (175, 2488, 108)) 2489 (by with_unfolding_all rfl) (by decide +kernel)
set_option maxRecDepth 100000 in
theorem vd_mk209 : vd_Mk vd_h209 [] := vd_MkC (w := (175, 2492, 109)) 2493 (by with_unfolding_all rfl) (by decide +kernel)
set_option maxRecDepth 100000 in
theorem vd_mk210 : vd_Mk vd_h210 [] := vd_MkC (w := (175, 2496, 110)) 2497 (by with_unfolding_all rfl) (by decide +kernel)
set_option maxRecDepth 100000 in
theorem vd_mk211 : vd_Mk vd_h211 [] := vd_MkC (w := (175, 2500, 111)) 2501 (by with_unfolding_all rfl) (by decide +kernel)
set_option maxRecDepth 100000 in
theorem vd_mk212 : vd_Mk vd_h212 [] := vd_MkC (w := (175, 2504, 112)) 2505 (by with_unfolding_all rfl) (by decide +kernel)
set_option maxRecDepth 100000 in
theorem vd_mk213 : vd_Mk vd_h213 [] := vd_MkC (w := (175, 2508, 113)) 2509 (by with_unfolding_all rfl) (by decide +kernel)
set_option maxRecDepth 100000 in
theorem vd_mk214 : vd_Mk vd_h214 [] := vd_MkC (w := (175, 2512, 114)) 2513 (by with_unfolding_all rfl) (by decide +kernel)
set_option maxRecDepth 100000 in
theorem vd_mk215 : vd_Mk vd_h215 [] := vd_MkC (w := (175, 2516, 115)) 2517 (by with_unfolding_all rfl) (by decide +kernel)
set_option maxRecDepth 100000 in
theorem vd_mk216 : vd_Mk vd_h216 [] := vd_MkC (w := (175, 2520, 116)) 2521 (by with_unfolding_all rfl) (by decide +kernel)
set_option maxRecDepth 100000 in
theorem vd_mk217 : vd_Mk vd_h217 [] := vd_MkC (w := (175, 2524, 0)) 2525 (by with_unfolding_all rfl) (by decide +kernel)
set_option maxRecDepth 100000 in
theorem vd_mk218 : vd_Mk vd_h218 [] := vd_MkC (w := (175, 2528, 117)) 2529 (by with_unfolding_all rfl) (by decide +kernel)
set_option maxRecDepth 100000 in
theorem vd_mk219 : vd_Mk vd_h219 [] := vd_MkC (w := (175, 2532, 118)) 2533 (by with_unfolding_all rfl) (by decide +kernel)
set_option maxRecDepth 100000 in
theorem vd_mk220 : vd_Mk vd_h220 [] := vd_MkC (w := (175, 2536, 119)) 2537 (by with_unfolding_all rfl) (by decide +kernel)
set_option maxRecDepth 100000 in
theorem vd_mk221 : vd_Mk vd_h221 [] := vd_MkC (w := (175, 2540, 120)) 2541 (by with_unfolding_all rfl) (by decide +kernel)
set_option maxRecDepth 100000 in
theorem vd_mk222 : vd_Mk vd_h222 [] := vd_MkC (w := (175, 2544, 121)) 2545 (by with_unfolding_all rfl) (by decide +kernel)
set_option maxRecDepth 100000 in
theorem vd_mk223 : vd_Mk vd_h223 [] := vd_MkC (w := (175, 2548, 122)) 2549 (by with_unfolding_all rfl) (by decide +kernel)
set_option maxRecDepth 100000 in
theorem vd_mk224 : vd_Mk vd_h224 [] := vd_MkC (w := (175, 2552, 123)) 2553 (by with_unfolding_all rfl) (by decide +kernel)
set_option maxRecDepth 100000 in
theorem vd_mk225 : vd_Mk vd_h225 [] := vd_MkC (w := (175, 2556, 124)) 2557 (by with_unfolding_all rfl) (by decide +kernel)
set_option maxRecDepth 100000 in
theorem vd_mk226 : vd_Mk vd_h226 [] := vd_MkC (w := (176, 2561, 2562)) 2563 (by with_unfolding_all rfl) (by decide +kernel)
set_option maxRecDepth 100000 in
theorem vd_mk227 : vd_Mk vd_h227 [] := vd_MkC (w := (176, 2565, 2566)) 2567 (by with_unfolding_all rfl) (by decide +kernel)
set_option maxRecDepth 100000 in
theorem vd_mk228 : vd_Mk vd_h228 [] := vd_MkC (w := (176, 2570, 2571)) 2572 (by with_unfolding_all rfl) (by decide +kernel)
set_option maxRecDepth 100000 in
theorem vd_mk229 : vd_Mk vd_h229 [] := vd_MkC (w := (176, 2574, 2575)) 2576 (by with_unfolding_all rfl) (by decide +kernel)
set_option maxRecDepth 100000 in
theorem vd_mk230 : vd_Mk vd_h230 [] := vd_MkC (w := (176, 2578, 2579)) 2580 (by with_unfolding_all rfl) (by decide +kernel)
set_option maxRecDepth 100000 in
theorem vd_mk231 : vd_Mk vd_h231 [] := vd_MkC (w := (175, 2582, 0)) 2583 (by with_unfolding_all rfl) (by decide +kernel)
set_option maxRecDepth 100000 in
theorem vd_mk232 : vd_Mk vd_h232 [] := vd_MkC (w := (175, 2585, 0)) 2586 (by with_unfolding_all rfl) (by decide +kernel)
set_option maxRecDepth 100000 in
theorem vd_mk233 : vd_Mk vd_h233 [] := vd_MkC (w := (175, 2589, 125)) 2590 (by with_unfolding_all rfl) (by decide +kernel)
set_option maxRecDepth 100000 in
theorem vd_mk234 : vd_Mk vd_h234 [] := vd_MkC (w := (176, 2592, 2593)) 2594 (by with_unfolding_all rfl) (by decide +kernel)
set_option maxRecDepth 100000 in
theorem vd_mk235 : vd_Mk vd_h235 [] := vd_MkC (w := (175, 2598, 126)) 2599 (by with_unfolding_all rfl) (by decide +kernel)
set_option maxRecDepth 100000 in
theorem vd_mk236 : vd_Mk vd_h236 [] := vd_MkC (w := (175, 2602, 127)) 2603 (by with_unfolding_all rfl) (by decide +kernel)
set_option maxRecDepth 100000 in
theorem vd_mk237 : vd_Mk vd_h237 [] := vd_MkC (w := (175, 2606, 128)) 2607 (by with_unfolding_all rfl) (by decide +kernel)
set_option maxRecDepth 100000 in
theorem vd_mk238 : vd_Mk vd_h238 [] := vd_MkC (w := (175, 2610, 129)) 2611 (by with_unfolding_all rfl) (by decide +kernel)
set_option maxRecDepth 100000 in
theorem vd_mk239 : vd_Mk vd_h239 [] := vd_MkC (w := (175, 2614, 130)) 2615 (by with_unfolding_all rfl) (by decide +kernel)
set_option maxRecDepth 100000 in
theorem vd_mk240 : vd_Mk vd_h240 [] := vd_MkC (w := (175, 2619, 131)) 2620 (by with_unfolding_all rfl) (by decide +kernel)
set_option maxRecDepth 100000 in
theorem vd_mk241 : vd_Mk vd_h241 [] := vd_MkC (w := (175, 2623, 132)) 2624 (by with_unfolding_all rfl) (by decide +kernel)
set_option maxRecDepth 100000 in
theorem vd_mk242 : vd_Mk vd_h242 [] := vd_MkC (w := (175, 2626, 0)) 2627 (by with_unfolding_all rfl) (by decide +kernel)
set_option maxRecDepth 100000 in
theorem vd_mk243 : vd_Mk vd_h243 [] := vd_MkC (w := (175, 2629, 0)) 2630 (by with_unfolding_all rfl) (by decide +kernel)
set_option maxRecDepth 100000 in
theorem vd_mk244 : vd_Mk vd_h244 [] := vd_MkC (w := (175, 2633, 133)) 2634 (by with_unfolding_all rfl) (by decide +kernel)
set_option maxRecDepth 100000 in
theorem vd_mk245 : vd_Mk vd_h245 [] := vd_MkC (w := (175, 2637, 134)) 2638 (by with_unfolding_all rfl) (by decide +kernel)
set_option maxRecDepth 100000 in
theorem vd_mk246 : vd_Mk vd_h246 [] := vd_MkC (w := (175, 2641, 135)) 2642 (by with_unfolding_all rfl) (by decide +kernel)
set_option maxRecDepth 100000 in
theorem vd_mk247 : vd_Mk vd_h247 [] := vd_MkC (w := (175, 2645, 136)) 2646 (by with_unfolding_all rfl) (by decide +kernel)
set_option maxRecDepth 100000 in
theorem vd_mk248 : vd_Mk vd_h248 [] := vd_MkC (w := (175, 2649, 137)) 2650 (by with_unfolding_all rfl) (by decide +kernel)
set_option maxRecDepth 100000 in
theorem vd_mk249 : vd_Mk vd_h249 [] := vd_MkC (w := (176, 2652, 2653)) 2654 (by with_unfolding_all rfl) (by decide +kernel)
set_option maxRecDepth 100000 in
theorem vd_mk250 : vd_Mk vd_h250 [] := vd_MkC (w := (175, 2658, 138)) 2659 (by with_unfolding_all rfl) (by decide +kernel)
set_option maxRecDepth 100000 in
theorem vd_mk251 : vd_Mk vd_h251 [] := vd_MkC (w := (175, 2662, 139)) 2663 (by with_unfolding_all rfl) (by decide +kernel)
set_option maxRecDepth 100000 in
theorem vd_mk252 : vd_Mk vd_h252 [] := vd_MkC (w := (175, 2665, 0)) 2666 (by with_unfolding_all rfl) (by decide +kernel)
set_option maxRecDepth 100000 in
theorem vd_mk253 : vd_Mk vd_h253 [] := vd_MkC (w := (175, 2669, 140)) 2670 (by with_unfolding_all rfl) (by decide +kernel)
set_option maxRecDepth 100000 in
theorem vd_mk254 : vd_Mk vd_h254 [] := vd_MkC (w := (175, 2673, 141)) 2674 (by with_unfolding_all rfl) (by decide +kernel)
set_option maxRecDepth 100000 in
theorem vd_mk255 : vd_Mk vd_h255 [] := vd_MkC (w := (175, 2676, 0)) 2677 (by with_unfolding_all rfl) (by decide +kernel)
set_option maxRecDepth 100000 in
theorem vd_mk256 : vd_Mk vd_h256 [] := vd_MkC (w := (175, 2680, 142)) 2681 (by with_unfolding_all rfl) (by decide +kernel)
set_option maxRecDepth 100000 in
theorem vd_mk257 : vd_Mk vd_h257 [] := vd_MkC (w := (175, 2684, 143)) 2685 (by with_unfolding_all rfl) (by decide +kernel)
set_option maxRecDepth 100000 in
theorem vd_mk258 : vd_Mk vd_h258 [] := vd_MkC (w := (175, 2688, 144)) 2689 (by with_unfolding_all rfl) (by decide +kernel)
set_option maxRecDepth 100000 in
theorem vd_mk259 : vd_Mk vd_h259 [] := vd_MkC (w := (175, 2692, 145)) 2693 (by with_unfolding_all rfl) (by decide +kernel)
set_option maxRecDepth 100000 in
theorem vd_mk260 : vd_Mk vd_h260 [] := vd_MkC (w := (175, 2696, 146)) 2697 (by with_unfolding_all rfl) (by decide +kernel)
set_option maxRecDepth 100000 in
theorem vd_mk261 : vd_Mk vd_h261 [] := vd_MkC (w := (175, 2700, 147)) 2701 (by with_unfolding_all rfl) (by decide +kernel)
set_option maxRecDepth 100000 in
theorem vd_mk262 : vd_Mk vd_h262 [] := vd_MkC (w := (175, 2704, 148)) 2705 (by with_unfolding_all rfl) (by decide +kernel)
set_option maxRecDepth 100000 in
theorem vd_mk263 : vd_Mk vd_h263 [] := vd_MkC (w := (175, 2709, 0)) 2710 (by with_unfolding_all rfl) (by decide +kernel)
set_option maxRecDepth 100000 in
theorem vd_mk264 : vd_Mk vd_h264 [] := vd_MkC (w := (175, 2715, 149)) 2716 (by with_unfolding_all rfl) (by decide +kernel)
set_option maxRecDepth 100000 in
theorem vd_mk265 : vd_Mk vd_h265 [] := vd_MkC (w := (175, 2719, 150)) 2720 (by with_unfolding_all rfl) (by decide +kernel)
set_option maxRecDepth 100000 in
theorem vd_mk266 : vd_Mk vd_h266 [] := vd_MkC (w := (175, 2723, 151)) 2724 (by with_unfolding_all rfl) (by decide +kernel)
set_option maxRecDepth 100000 in
theorem vd_mk267 : vd_Mk vd_h267 [] := vd_MkC (w := (175, 2727, 152)) 2728 (by with_unfolding_all rfl) (by decide +kernel)
set_option maxRecDepth 100000 in
theorem vd_mk268 : vd_Mk vd_h268 [] := vd_MkC (w := (175, 2731, 153)) 2732 (by with_unfolding_all rfl) (by decide +kernel)
set_option maxRecDepth 100000 in
theorem vd_mk269 : vd_Mk vd_h269 [] := vd_MkC (w := (175, 2735, 154)) 2736 (by with_unfolding_all rfl) (by decide +kernel)
set_option maxRecDepth 100000 in
theorem vd_mk270 : vd_Mk vd_h270 [] := vd_MkC (w := (175, 2739, 155)) 2740 (by with_unfolding_all rfl) (by decide +kernel)
set_option maxRecDepth 100000 in
theorem vd_mk271 : vd_Mk vd_h271 [] := vd_MkC (w := (175, 2743, 156)) 2744 (by with_unfolding_all rfl) (by decide +kernel)
set_option maxRecDepth 100000 in
theorem vd_mk272 : vd_Mk vd_h272 [] := vd_MkC (w := (175, 2747, 157)) 2748 (by with_unfolding_all rfl) (by decide +kernel)
set_option maxRecDepth 100000 in
theorem vd_mk273 : vd_Mk vd_h273 [] := vd_MkC (w := (175, 2751, 158)) 2752 (by with_unfolding_all rfl) (by decide +kernel)
set_option maxRecDepth 100000 in
theorem vd_mk274 : vd_Mk vd_h274 [] := vd_MkC (w := (175, 2755, 159)) 2756 (by with_unfolding_all rfl) (by decide +kernel)
set_option maxRecDepth 100000 in
theorem vd_mk275 : vd_Mk vd_h275 [] := vd_MkC (w := (175, 2758, 0)) 2759 (by with_unfolding_all rfl) (by decide +kernel)
set_option maxRecDepth 100000 in
theorem vd_mk276 : vd_Mk vd_h276 [] := vd_MkC (w := (175, 2762, 160)) 2763 (by with_unfolding_all rfl) (by decide +kernel)
set_option maxRecDepth 100000 in
theorem vd_mk277 : vd_Mk vd_h277 [] := vd_MkC (w := (175, 2765, 0)) 2766 (by with_unfolding_all rfl) (by decide +kernel)
set_option maxRecDepth 100000 in
theorem vd_mk278 : vd_Mk vd_h278 [] := vd_MkC (w := (175, 2774, 2775)) 2776 (by with_unfolding_all rfl) (by decide +kernel)
set_option maxRecDepth 100000 in
theorem vd_mk279 : vd_Mk vd_h279 [] := vd_MkC (w := (175, 2779, 161)) 2780 (by with_unfolding_all rfl) (by decide +kernel)
set_option maxRecDepth 100000 in
theorem vd_mk280 : vd_Mk vd_h280 [] := vd_MkC (w := (175, 2784, 2785)) 2786 (by with_unfolding_all rfl) (by decide +kernel)
set_option maxRecDepth 100000 in
theorem vd_mk281 : vd_Mk vd_h281 [] := vd_MkC (w := (175, 2789, 2790)) 2791 (by with_unfolding_all rfl) (by decide +kernel)
set_option maxRecDepth 100000 in
theorem vd_mk282 : vd_Mk vd_h282 [] := vd_MkC (w := (175, 2793, 2794)) 2795 (by with_unfolding_all rfl) (by decide +kernel)
set_option maxRecDepth 100000 in
theorem vd_mk283 : vd_Mk vd_h283 [] := vd_MkC (w := (175, 2797, 2798)) 2799 (by with_unfolding_all rfl) (by decide +kernel)
set_option maxRecDepth 100000 in
theorem vd_mk284 : vd_Mk vd_h284 [] := vd_MkC (w := (175, 2801, 2802)) 2803 (by with_unfolding_all rfl) (by decide +kernel)
set_option maxRecDepth 100000 in
theorem vd_mk285 : vd_Mk vd_h285 [] := vd_MkC (w := (175, 2805, 2806)) 2807 (by with_unfolding_all rfl) (by decide +kernel)
set_option maxRecDepth 100000 in
theorem vd_mk286 : vd_Mk vd_h286 [] := vd_MkC (w := (174, 716, 0)) 717 (by with_unfolding_all rfl) (by decide +kernel)
set_option maxRecDepth 100000 in
theorem vd_mk287 : vd_Mk vd_h287 [] := vd_MkC (w := (183, 983, 0)) 984 (by with_unfolding_all rfl) (by decide +kernel)
set_option maxRecDepth 100000 in
theorem vd_mk288 : vd_Mk vd_h288 [] := vd_MkC (w := (174, 1016, 0)) 1017 (by with_unfolding_all rfl) (by decide +kernel)
set_option maxRecDepth 100000 in
theorem vd_mk289 : vd_Mk vd_h289 [] := vd_MkC (w := (183, 1029, 0)) 1030 (by with_unfolding_all rfl) (by decide +kernel)
set_option maxRecDepth 100000 in
theorem vd_mk290 : vd_Mk vd_h290 [] := vd_MkC (w := (174, 1132, 0)) 1133 (by with_unfolding_all rfl) (by decide +kernel)
set_option maxRecDepth 100000 in
theorem vd_mk291 : vd_Mk vd_h291 [] := vd_MkC (w := (174, 1135, 0)) 1136 (by with_unfolding_all rfl) (by decide +kernel)
set_option maxRecDepth 100000 in
theorem vd_mk292 : vd_Mk vd_h292 [] := vd_MkC (w := (183, 1515, 0)) 1516 (by with_unfolding_all rfl) (by decide +kernel)
set_option maxRecDepth 100000 in
theorem vd_mk293 : vd_Mk vd_h293 [] := vd_MkC (w := (174, 1583, 0)) 1584 (by with_unfolding_all rfl) (by decide +kernel)
set_option maxRecDepth 100000 in
theorem vd_mk294 : vd_Mk vd_h294 [] := vd_MkC (w := (174, 2401, 0)) 2402 (by with_unfolding_all rfl) (by decide +kernel)
set_option maxRecDepth 100000 in
theorem vd_mk295 : vd_Mk vd_h295 [] := vd_MkC (w := (183, 2771, 0)) 2772 (by with_unfolding_all rfl) (by decide +kernel)
theorem vd_MkAll (a : Nat) (h1 : 1 ≤ a) (h2 : a < 296) : vd_Mk (vd_HD a) (vd_RW a) := by
  match a, h1, h2 with
  | 1, _, _ => exact vd_mk1
  | 2, _, _ => exact vd_mk2
  | 3, _, _ => exact vd_mk3
  | 4, _, _ => exact vd_mk4
  | 5, _, _ => exact vd_mk5
  | 6, _, _ => exact vd_mk6
  | 7, _, _ => exact vd_mk7
  | 8, _, _ => exact vd_mk8
  | 9, _, _ => exact vd_mk9
  | 10, _, _ => exact vd_mk10
  | 11, _, _ => exact vd_mk11
  | 12, _, _ => exact vd_mk12
  | 13, _, _ => exact vd_mk13
  | 14, _, _ => exact vd_mk14
  | 15, _, _ => exact vd_mk15
  | 16, _, _ => exact vd_mk16
  | 17, _, _ => exact vd_mk17
  | 18, _, _ => exact vd_mk18
  | 19, _, _ => exact vd_mk19
  | 20, _, _ => exact vd_mk20
  | 21, _, _ => exact vd_mk21
  | 22, _, _ => exact vd_mk22
  | 23, _, _ => exact vd_mk23
  | 24, _, _ => exact vd_mk24
  | 25, _, _ => exact vd_mk25
  | 26, _, _ => exact vd_mk26
  | 27, _, _ => exact vd_mk27
  | 28, _, _ => exact vd_mk28
  | 29, _, _ => exact vd_mk29
  | 30, _, _ => exact vd_mk30
  | 31, _, _ => exact vd_mk31
  | 32, _, _ => exact vd_mk32
  | 33, _, _ => exact vd_mk33
  | 34, _, _ => exact vd_mk34
  | 35, _, _ => exact vd_mk35
  | 36, _, _ => exact vd_mk36
  | 37, _, _ => exact vd_mk37
  | 38, _, _ => exact vd_mk38
  | 39, _, _ => exact vd_mk39
  | 40, _, _ => exact vd_mk40
  | 41, _, _ => exact vd_mk41
  | 42, _, _ => exact vd_mk42
  | 43, _, _ => exact vd_mk43
  | 44, _, _ => exact vd_mk44
  | 45, _, _ => exact vd_mk45
  | 46, _, _ => exact vd_mk46
  | 47, _, _ => exact vd_mk47
  | 48, _, _ => exact vd_mk48
  | 49, _, _ => exact vd_mk49
  | 50, _, _ => exact vd_mk50
  | 51, _, _ => exact vd_mk51
  | 52, _, _ => exact vd_mk52
  | 53, _, _ => exact vd_mk53
  | 54, _, _ => exact vd_mk54
  | 55, _, _ => exact vd_mk55
  | 56, _, _ => exact vd_mk56
  | 57, _, _ => exact vd_mk57
  | 58, _, _ => exact vd_mk58
  | 59, _, _ => exact vd_mk59
  | 60, _, _ => exact vd_mk60
  | 61, _, _ => exact vd_mk61
  | 62, _, _ => exact vd_mk62
  | 63, _, _ => exact vd_mk63
  | 64, _, _ => exact vd_mk64
  | 65, _, _ => exact vd_mk65
  | 66, _, _ => exact vd_mk66
  | 67, _, _ => exact vd_mk67
  | 68, _, _ => exact vd_mk68
  | 69, _, _ => exact vd_mk69
  | 70, _, _ => exact vd_mk70
  | 71, _, _ => exact vd_mk71
  | 72, _, _ => exact vd_mk72
  | 73, _, _ => exact vd_mk73
  | 74, _, _ => exact vd_mk74
  | 75, _, _ => exact vd_mk75
  | 76, _, _ => exact vd_mk76
  | 77, _, _ => exact vd_mk77
  | 78, _, _ => exact vd_mk78
  | 79, _, _ => exact vd_mk79
  | 80, _, _ => exact vd_mk80
  | 81, _, _ => exact vd_mk81
  | 82, _, _ => exact vd_mk82
  | 83, _, _ => exact vd_mk83
  | 84, _, _ => exact vd_mk84
  | 85, _, _ => exact vd_mk85
  | 86, _, _ => exact vd_mk86
  | 87, _, _ => exact vd_mk87
  | 88, _, _ => exact vd_mk88
  | 89, _, _ => exact vd_mk89
  | 90, _, _ => exact vd_mk90
  | 91, _, _ => exact vd_mk91
  | 92, _, _ => exact vd_mk92
  | 93, _, _ => exact vd_mk93
  | 94, _, _ => exact vd_mk94
  | 95, _, _ => exact vd_mk95
  | 96, _, _ => exact vd_mk96
  | 97, _, _ => exact vd_mk97
  | 98, _, _ => exact vd_mk98
  | 99, _, _ => exact vd_mk99
  | 100, _, _ => exact vd_mk100
  | 101, _, _ => exact vd_mk101
  | 102, _, _ => exact vd_mk102
  | 103, _, _ => exact vd_mk103
  | 104, _, _ => exact vd_mk104
  | 105, _, _ => exact vd_mk105
  | 106, _, _ => exact vd_mk106
  | 107, _, _ => exact vd_mk107
  | 108, _, _ => exact vd_mk108
  | 109, _, _ => exact vd_mk109
  | 110, _, _ => exact vd_mk110
  | 111, _, _ => exact vd_mk111
  | 112, _, _ => exact vd_mk112
  | 113, _, _ => exact vd_mk113
  | 114, _, _ => exact vd_mk114
  | 115, _, _ => exact vd_mk115
  | 116, _, _ => exact vd_mk116
  | 117, _, _ => exact vd_mk117
  | 118, _, _ => exact vd_mk118
  | 119, _, _ => exact vd_mk119
  | 120, _, _ => exact vd_mk120
  | 121, _, _ => exact vd_mk121
  | 122, _, _ => exact vd_mk122
  | 123, _, _ => exact vd_mk123
  | 124, _, _ => exact vd_mk124
  | 125, _, _ => exact vd_mk125
  | 126, _, _ => exact vd_mk126
  | 127, _, _ => exact vd_mk127
  | 128, _, _ => exact vd_mk128
  | 129, _, _ => exact vd_mk129
  | 130, _, _ => exact vd_mk130
  | 131, _, _ => exact vd_mk131
  | 132, _, _ => exact vd_mk132
  | 133, _, _ => exact vd_mk133
  | 134, _, _ => exact vd_mk134
  | 135, _, _ => exact vd_mk135
  | 136, _, _ => exact vd_mk136
  | 137, _, _ => exact vd_mk137
  | 138, _, _ => exact vd_mk138
  | 139, _, _ => exact vd_mk139
  | 140, _, _ => exact vd_mk140
  | 141, _, _ => exact vd_mk141
  | 142, _, _ => exact vd_mk142
  | 143, _, _ => exact vd_mk143
  | 144, _, _ => exact vd_mk144
  | 145, _, _ => exact vd_mk145
  | 146, _, _ => exact vd_mk146
  | 147, _, _ => exact vd_mk147
  | 148, _, _ => exact vd_mk148
  | 149, _, _ => exact vd_mk149
  | 150, _, _ => exact vd_mk150
  | 151, _, _ => exact vd_mk151
  | 152, _, _ => exact vd_mk152
  | 153, _, _ => exact vd_mk153
  | 154, _, _ => exact vd_mk154
  | 155, _, _ => exact vd_mk155
  | 156, _, _ => exact vd_mk156
  | 157, _, _ => exact vd_mk157
  | 158, _, _ => exact vd_mk158
  | 159, _, _ => exact vd_mk159
  | 160, _, _ => exact vd_mk160
  | 161, _, _ => exact vd_mk161
  | 162, _, _ => exact vd_mk162
  | 163, _, _ => exact vd_mk163
  | 164, _, _ => exact vd_mk164
  | 165, _, _ => exact vd_mk165
  | 166, _, _ => exact vd_mk166
  | 167, _, _ => exact vd_mk167
  | 168, _, _ => exact vd_mk168
  | 169, _, _ => exact vd_mk169
  | 170, _, _ => exact vd_mk170
  | 171, _, _ => exact vd_mk171
  | 172, _, _ => exact vd_mk172
  | 173, _, _ => exact vd_mk173
  | 174, _, _ => exact vd_mk174
  | 175, _, _ => exact vd_mk175
  | 176, _, _ => exact vd_mk176
  | 177, _, _ => exact vd_mk177
  | 178, _, _ => exact vd_mk178
  | 179, _, _ => exact vd_mk179
  | 180, _, _ => exact vd_mk180
  | 181, _, _ => exact vd_mk181
  | 182, _, _ => exact vd_mk182
  | 183, _, _ => exact vd_mk183
  | 184, _, _ => exact vd_mk184
  | 185, _, _ => exact vd_mk185
  | 186, _, _ => exact vd_mk186
  | 187, _, _ => exact vd_mk187
  | 188, _, _ => exact vd_mk188
  | 189, _, _ => exact vd_mk189
  | 190, _, _ => exact vd_mk190
  | 191, _, _ => exact vd_mk191
  | 192, _, _ => exact vd_mk192
  | 193, _, _ => exact vd_mk193
  | 194, _, _ => exact vd_mk194
  | 195, _, _ => exact vd_mk195
  | 196, _, _ => exact vd_mk196
  | 197, _, _ => exact vd_mk197
  | 198, _, _ => exact vd_mk198
  | 199, _, _ => exact vd_mk199
  | 200, _, _ => exact vd_mk200
  | 201, _, _ => exact vd_mk201
  | 202, _, _ => exact vd_mk202
  | 203, _, _ => exact vd_mk203
  | 204, _, _ => exact vd_mk204
  | 205, _, _ => exact vd_mk205
  | 206, _, _ => exact vd_mk206
  | 207, _, _ => exact vd_mk207
  | 208, _, _ => exact vd_mk208
  | 209, _, _ => exact vd_mk209
  | 210, _, _ => exact vd_mk210
  | 211, _, _ => exact vd_mk211
  | 212, _, _ => exact vd_mk212
  | 213, _, _ => exact vd_mk213
  | 214, _, _ => exact vd_mk214
  | 215, _, _ => exact vd_mk215
  | 216, _, _ => exact vd_mk216
  | 217, _, _ => exact vd_mk217
  | 218, _, _ => exact vd_mk218
  | 219, _, _ => exact vd_mk219
  | 220, _, _ => exact vd_mk220
  | 221, _, _ => exact vd_mk221
  | 222, _, _ => exact vd_mk222
  | 223, _, _ => exact vd_mk223
  | 224, _, _ => exact vd_mk224
  | 225, _, _ => exact vd_mk225
  | 226, _, _ => exact vd_mk226
  | 227, _, _ => exact vd_mk227
  | 228, _, _ => exact vd_mk228
  | 229, _, _ => exact vd_mk229
  | 230, _, _ => exact vd_mk230
  | 231, _, _ => exact vd_mk231
  | 232, _, _ => exact vd_mk232
  | 233, _, _ => exact vd_mk233
  | 234, _, _ => exact vd_mk234
  | 235, _, _ => exact vd_mk235
  | 236, _, _ => exact vd_mk236
  | 237, _, _ => exact vd_mk237
  | 238, _, _ => exact vd_mk238
  | 239, _, _ => exact vd_mk239
  | 240, _, _ => exact vd_mk240
  | 241, _, _ => exact vd_mk241
  | 242, _, _ => exact vd_mk242
  | 243, _, _ => exact vd_mk243
  | 244, _, _ => exact vd_mk244
  | 245, _, _ => exact vd_mk245
  | 246, _, _ => exact vd_mk246
  | 247, _, _ => exact vd_mk247
  | 248, _, _ => exact vd_mk248
  | 249, _, _ => exact vd_mk249
  | 250, _, _ => exact vd_mk250
  | 251, _, _ => exact vd_mk251
  | 252, _, _ => exact vd_mk252
  | 253, _, _ => exact vd_mk253
  | 254, _, _ => exact vd_mk254
  | 255, _, _ => exact vd_mk255
  | 256, _, _ => exact vd_mk256
  | 257, _, _ => exact vd_mk257
  | 258, _, _ => exact vd_mk258
  | 259, _, _ => exact vd_mk259
  | 260, _, _ => exact vd_mk260
  | 261, _, _ => exact vd_mk261
  | 262, _, _ => exact vd_mk262
  | 263, _, _ => exact vd_mk263
  | 264, _, _ => exact vd_mk264
  | 265, _, _ => exact vd_mk265
  | 266, _, _ => exact vd_mk266
  | 267, _, _ => exact vd_mk267
  | 268, _, _ => exact vd_mk268
  | 269, _, _ => exact vd_mk269
  | 270, _, _ => exact vd_mk270
  | 271, _, _ => exact vd_mk271
  | 272, _, _ => exact vd_mk272
  | 273, _, _ => exact vd_mk273
  | 274, _, _ => exact vd_mk274
  | 275, _, _ => exact vd_mk275
  | 276, _, _ => exact vd_mk276
  | 277, _, _ => exact vd_mk277
  | 278, _, _ => exact vd_mk278
  | 279, _, _ => exact vd_mk279
  | 280, _, _ => exact vd_mk280
  | 281, _, _ => exact vd_mk281
  | 282, _, _ => exact vd_mk282
  | 283, _, _ => exact vd_mk283
  | 284, _, _ => exact vd_mk284
  | 285, _, _ => exact vd_mk285
  | 286, _, _ => exact vd_mk286
  | 287, _, _ => exact vd_mk287
  | 288, _, _ => exact vd_mk288
  | 289, _, _ => exact vd_mk289
  | 290, _, _ => exact vd_mk290
  | 291, _, _ => exact vd_mk291
  | 292, _, _ => exact vd_mk292
  | 293, _, _ => exact vd_mk293
  | 294, _, _ => exact vd_mk294
  | 295, _, _ => exact vd_mk295
  | k + 296, _, h => omega
