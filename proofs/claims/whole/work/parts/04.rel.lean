def am_nms : List MethodName := [⟨"LoanPence", "<init>", "()V"⟩,
  ⟨"LoanPence", "library", "(II)I"⟩,
  ⟨"LoanPence", "draw", "(I)I"⟩,
  ⟨"LoanPence", "all", "(II)I"⟩,
  ⟨"LoanPence", "lent", "(III)I"⟩,
  ⟨"LoanPence", "put", "(IIII)I"⟩,
  ⟨"LoanPence", "known", "(III)I"⟩,
  ⟨"LoanPence", "look", "(II)I"⟩,
  ⟨"LoanPence", "year", "(II)J"⟩,
  ⟨"LoanPence", "edition", "(III)I"⟩,
  ⟨"LoanPence", "person", "(III)I"⟩,
  ⟨"LoanPence", "died", "(II)I"⟩,
  ⟨"LoanPence", "heir", "(III)I"⟩,
  ⟨"LoanPence", "share", "(III)I"⟩,
  ⟨"LoanPence", "editionOf", "(II)I"⟩,
  ⟨"LoanPence", "personOf", "(II)I"⟩,
  ⟨"LoanPence", "shareOf", "(II)I"⟩,
  ⟨"LoanPence", "same", "(III)I"⟩,
  ⟨"LoanPence", "join", "(III)I"⟩,
  ⟨"LoanPence", "feed", "(II)I"⟩,
  ⟨"LoanPence", "wipe", "()I"⟩,
  ⟨"LoanPence", "rule", "(II)I"⟩,
  ⟨"LoanPence", "says", "(III)I"⟩,
  ⟨"LoanPence", "why", "(III)I"⟩,
  ⟨"LoanPence", "fund", "(I)I"⟩,
  ⟨"LoanPence", "close", "()I"⟩,
  ⟨"LoanPence", "estimate", "(III)I"⟩,
  ⟨"LoanPence", "book", "(II)J"⟩,
  ⟨"LoanPence", "points", "(II)J"⟩,
  ⟨"LoanPence", "paid", "(III)J"⟩,
  ⟨"LoanPence", "gain", "(III)J"⟩,
  ⟨"LoanPence", "bestDraw", "(I)I"⟩,
  ⟨"LoanPence", "judge", "()I"⟩,
  ⟨"LoanPence", "moved", "(II)I"⟩,
  ⟨"LoanPence", "movedMany", "(I)I"⟩,
  ⟨"LoanPence", "span", "(III)J"⟩,
  ⟨"LoanPence", "count", "(I)I"⟩,
  ⟨"LoanPence", "image", "()I"⟩,
  ⟨"LoanPence", "back", "()I"⟩,
  ⟨"LoanPence", "lay", "(I)I"⟩,
  ⟨"LoanPence", "set", "(II)I"⟩,
  ⟨"LoanPence", "tear", "()I"⟩,
  ⟨"LoanPence", "row", "(I)I"⟩,
  ⟨"LoanPence", "copy", "(III)I"⟩,
  ⟨"LoanPence", "status", "(I)I"⟩,
  ⟨"LoanPence", "refuse", "(I)I"⟩,
  ⟨"LoanPence", "refuseAsZero", "(I)I"⟩,
  ⟨"LoanPence", "isYear", "(I)Z"⟩,
  ⟨"LoanPence", "isClosed", "(I)Z"⟩,
  ⟨"LoanPence", "isPair", "(II)Z"⟩,
  ⟨"LoanPence", "isAsked", "(III)Z"⟩,
  ⟨"LoanPence", "twoRefused", "(III)I"⟩,
  ⟨"LoanPence", "isFresher", "(III)Z"⟩,
  ⟨"LoanPence", "within", "(III)Z"⟩,
  ⟨"LoanPence", "bounded", "(III)I"⟩,
  ⟨"LoanPence", "spotOf", "(III)I"⟩,
  ⟨"LoanPence", "rootOf", "(J)J"⟩,
  ⟨"LoanPence", "giveLeft", "(J[J[JI)V"⟩,
  ⟨"LoanPence", "unite", "([IIII)I"⟩,
  ⟨"LoanPence", "heads", "([II)I"⟩,
  ⟨"LoanPence$Land", "<init>", "()V"⟩,
  ⟨"LoanPence$Land", "takeFrom", "(LLoanPence$Land;)V"⟩,
  ⟨"LoanPence$Land", "openNext", "()V"⟩,
  ⟨"LoanPence$Land", "likeEditions", "(II)I"⟩,
  ⟨"LoanPence$Land", "isTooEarly", "(II)Z"⟩,
  ⟨"LoanPence$Land", "haveCommonWriter", "(II)Z"⟩,
  ⟨"LoanPence$Libraries", "<init>", "()V"⟩,
  ⟨"LoanPence$Libraries", "takeFrom", "(LLoanPence$Libraries;)V"⟩,
  ⟨"LoanPence$Libraries", "has", "(I)Z"⟩,
  ⟨"LoanPence$Libraries", "bitsOfAll", "()I"⟩,
  ⟨"LoanPence$Libraries", "add", "(II)I"⟩,
  ⟨"LoanPence$Libraries", "widthOf", "(ILLoanPence$Years;I)I"⟩,
  ⟨"LoanPence$Entries", "<init>", "()V"⟩,
  ⟨"LoanPence$Entries", "takeFrom", "(LLoanPence$Entries;)V"⟩,
  ⟨"LoanPence$Entries", "anyOf", "(I)Z"⟩,
  ⟨"LoanPence$Entries", "latest", "(II)I"⟩,
  ⟨"LoanPence$Entries", "tell", "(III)Z"⟩,
  ⟨"LoanPence$Editions", "<init>", "()V"⟩,
  ⟨"LoanPence$Editions", "takeFrom", "(LLoanPence$Editions;)V"⟩,
  ⟨"LoanPence$Editions", "has", "(I)Z"⟩,
  ⟨"LoanPence$Editions", "add", "(III)I"⟩,
  ⟨"LoanPence$People", "<init>", "()V"⟩,
  ⟨"LoanPence$People", "takeFrom", "(LLoanPence$People;)V"⟩,
  ⟨"LoanPence$People", "has", "(I)Z"⟩,
  ⟨"LoanPence$People", "add", "(III)I"⟩,
  ⟨"LoanPence$People", "partsOfHeirs", "(I)I"⟩,
  ⟨"LoanPence$People", "yearsDead", "(II)I"⟩,
  ⟨"LoanPence$People", "likeness", "(II)I"⟩,
  ⟨"LoanPence$People", "isGoneAhead", "(II)Z"⟩,
  ⟨"LoanPence$Shares", "<init>", "()V"⟩,
  ⟨"LoanPence$Shares", "takeFrom", "(LLoanPence$Shares;)V"⟩,
  ⟨"LoanPence$Shares", "has", "(I)Z"⟩,
  ⟨"LoanPence$Shares", "add", "(IIII)I"⟩,
  ⟨"LoanPence$Shares", "partsOf", "(I)I"⟩,
  ⟨"LoanPence$Shares", "isWriters", "(II)Z"⟩,
  ⟨"LoanPence$Shares", "hasWriter", "(I)Z"⟩,
  ⟨"LoanPence$Rules", "<init>", "()V"⟩,
  ⟨"LoanPence$Rules", "takeFrom", "(LLoanPence$Rules;)V"⟩,
  ⟨"LoanPence$Rules", "has", "(I)Z"⟩,
  ⟨"LoanPence$Rules", "add", "(IILLoanPence$Reader;)I"⟩,
  ⟨"LoanPence$Rules", "worth", "(III[I)I"⟩,
  ⟨"LoanPence$Rules", "ruling", "(III[I)I"⟩,
  ⟨"LoanPence$Rules", "run", "(II[I)I"⟩,
  ⟨"LoanPence$Rules", "ofTwo", "(III)I"⟩,
  ⟨"LoanPence$Years", "<init>", "()V"⟩,
  ⟨"LoanPence$Years", "takeFrom", "(LLoanPence$Years;)V"⟩,
  ⟨"LoanPence$Years", "isDrawn", "(II)Z"⟩,
  ⟨"LoanPence$Years", "fundOf", "(I)J"⟩,
  ⟨"LoanPence$Years", "pay", "(IIIJ)V"⟩,
  ⟨"LoanPence$Years", "manyPaid", "(I)I"⟩,
  ⟨"LoanPence$Reader", "<init>", "()V"⟩,
  ⟨"LoanPence$Reader", "addBytes", "(II)V"⟩,
  ⟨"LoanPence$Reader", "readRule", "()V"⟩,
  ⟨"LoanPence$Reader", "readTokens", "()V"⟩,
  ⟨"LoanPence$Reader", "tokenEnd", "(I)I"⟩,
  ⟨"LoanPence$Reader", "tokenAt", "(II)I"⟩,
  ⟨"LoanPence$Reader", "numberAt", "(II)I"⟩,
  ⟨"LoanPence$Reader", "wordAt", "(II)I"⟩,
  ⟨"LoanPence$Reader", "isSpelt", "(III)Z"⟩,
  ⟨"LoanPence$Reader", "isLetter", "(I)Z"⟩,
  ⟨"LoanPence$Reader", "isDigit", "(I)Z"⟩,
  ⟨"LoanPence$Reader", "stands", "(I)Z"⟩,
  ⟨"LoanPence$Reader", "fail", "()V"⟩,
  ⟨"LoanPence$Reader", "emit", "(I)V"⟩,
  ⟨"LoanPence$Reader", "readE", "(I)V"⟩,
  ⟨"LoanPence$Reader", "readAnd", "(I)V"⟩,
  ⟨"LoanPence$Reader", "readNot", "(I)V"⟩,
  ⟨"LoanPence$Reader", "readSum", "(I)V"⟩,
  ⟨"LoanPence$Reader", "readTerm", "(I)V"⟩,
  ⟨"LoanPence$Reader", "readOne", "(I)V"⟩,
  ⟨"LoanPence$Counts", "<init>", "(LLoanPence$Land;)V"⟩,
  ⟨"LoanPence$Counts", "read", "(II)V"⟩,
  ⟨"LoanPence$Counts", "sumUp", "()V"⟩,
  ⟨"LoanPence$Counts", "sumUpRegion", "(I)J"⟩,
  ⟨"LoanPence$Counts", "work", "(II)V"⟩,
  ⟨"LoanPence$Counts", "weighUp", "(JJ)V"⟩,
  ⟨"LoanPence$Counts", "isMoved", "(II)Z"⟩,
  ⟨"LoanPence$Counts", "boundOf", "(IIZ)J"⟩,
  ⟨"LoanPence$Payments", "<init>", "(LLoanPence$Land;LLoanPence$Counts;)V"⟩,
  ⟨"LoanPence$Payments", "nameFor", "(III)V"⟩,
  ⟨"LoanPence$Payments", "nameNone", "(I)V"⟩,
  ⟨"LoanPence$Payments", "nameShare", "(II)V"⟩,
  ⟨"LoanPence$Payments", "lateIn", "(I)I"⟩,
  ⟨"LoanPence$Payments", "gather", "(III)V"⟩,
  ⟨"LoanPence$Payments", "pointsOf", "(III)J"⟩,
  ⟨"LoanPence$Payments", "passOn", "(LLoanPence$People;[JIJII)V"⟩,
  ⟨"LoanPence$Payments", "partPence", "(JII)J"⟩,
  ⟨"LoanPence$Payments", "partToMost", "(JJ)J"⟩,
  ⟨"LoanPence$Payments", "partEvenly", "(J)V"⟩,
  ⟨"LoanPence$Payments", "pointsIn", "()J"⟩,
  ⟨"LoanPence$Payments", "wouldGet", "(IIII)J"⟩,
  ⟨"LoanPence$Payments", "payBack", "(IIJ)J"⟩,
  ⟨"LoanPence$Payments", "keepLacks", "(I)J"⟩,
  ⟨"LoanPence$Payments", "payOut", "(IJ)V"⟩,
  ⟨"LoanPenceModel", "<init>", "()V"⟩,
  ⟨"LoanPenceModel", "in", "(III)Z"⟩,
  ⟨"LoanPenceModel", "refuse", "(I)I"⟩,
  ⟨"LoanPenceModel", "nought", "(I)I"⟩,
  ⟨"LoanPenceModel", "isLibrary", "(I)Z"⟩,
  ⟨"LoanPenceModel", "isEdition", "(I)Z"⟩,
  ⟨"LoanPenceModel", "isPerson", "(I)Z"⟩,
  ⟨"LoanPenceModel", "isYear", "(I)Z"⟩,
  ⟨"LoanPenceModel", "isClosed", "(I)Z"⟩,
  ⟨"LoanPenceModel", "isDrawn", "(II)Z"⟩,
  ⟨"LoanPenceModel", "library", "(II)I"⟩,
  ⟨"LoanPenceModel", "draw", "(I)I"⟩,
  ⟨"LoanPenceModel", "all", "(II)I"⟩,
  ⟨"LoanPenceModel", "entry", "(III)I"⟩,
  ⟨"LoanPenceModel", "loans", "(III)I"⟩,
  ⟨"LoanPenceModel", "tells", "(III)Z"⟩,
  ⟨"LoanPenceModel", "lent", "(III)I"⟩,
  ⟨"LoanPenceModel", "put", "(IIII)I"⟩,
  ⟨"LoanPenceModel", "known", "(III)I"⟩,
  ⟨"LoanPenceModel", "look", "(II)I"⟩,
  ⟨"LoanPenceModel", "year", "(II)J"⟩,
  ⟨"LoanPenceModel", "edition", "(III)I"⟩,
  ⟨"LoanPenceModel", "person", "(III)I"⟩,
  ⟨"LoanPenceModel", "died", "(II)I"⟩,
  ⟨"LoanPenceModel", "heirsOf", "(I)I"⟩,
  ⟨"LoanPenceModel", "heir", "(III)I"⟩,
  ⟨"LoanPenceModel", "partsOf", "(I)I"⟩,
  ⟨"LoanPenceModel", "share", "(III)I"⟩,
  ⟨"LoanPenceModel", "editionOf", "(II)I"⟩,
  ⟨"LoanPenceModel", "personOf", "(II)I"⟩,
  ⟨"LoanPenceModel", "shareOf", "(II)I"⟩,
  ⟨"LoanPenceModel", "isWriter", "(II)Z"⟩,
  ⟨"LoanPenceModel", "isAheadOfWriter", "(II)Z"⟩,
  ⟨"LoanPenceModel", "sameEditions", "(II)I"⟩,
  ⟨"LoanPenceModel", "writer", "(I)I"⟩,
  ⟨"LoanPenceModel", "diedAhead", "(II)Z"⟩,
  ⟨"LoanPenceModel", "samePersons", "(II)I"⟩,
  ⟨"LoanPenceModel", "areTwo", "(III)Z"⟩,
  ⟨"LoanPenceModel", "same", "(III)I"⟩,
  ⟨"LoanPenceModel", "join", "(III)I"⟩,
  ⟨"LoanPenceModel", "feed", "(II)I"⟩,
  ⟨"LoanPenceModel", "wipe", "()I"⟩,
  ⟨"LoanPenceModel", "nextWord", "()V"⟩,
  ⟨"LoanPenceModel", "next", "()V"⟩,
  ⟨"LoanPenceModel", "puts", "(I)V"⟩,
  ⟨"LoanPenceModel", "opensOne", "()Z"⟩,
  ⟨"LoanPenceModel", "or", "()V"⟩,
  ⟨"LoanPenceModel", "and", "()V"⟩,
  ⟨"LoanPenceModel", "not", "()V"⟩,
  ⟨"LoanPenceModel", "sum", "()V"⟩,
  ⟨"LoanPenceModel", "term", "()V"⟩,
  ⟨"LoanPenceModel", "one", "()V"⟩,
  ⟨"LoanPenceModel", "closes", "()V"⟩,
  ⟨"LoanPenceModel", "rule", "(II)I"⟩,
  ⟨"LoanPenceModel", "two", "(III)I"⟩,
  ⟨"LoanPenceModel", "worth", "(III)I"⟩,
  ⟨"LoanPenceModel", "names", "(III)V"⟩,
  ⟨"LoanPenceModel", "finds", "(III)I"⟩,
  ⟨"LoanPenceModel", "isAsked", "(III)Z"⟩,
  ⟨"LoanPenceModel", "says", "(III)I"⟩,
  ⟨"LoanPenceModel", "why", "(III)I"⟩,
  ⟨"LoanPenceModel", "lentIn", "(IIII)J"⟩,
  ⟨"LoanPenceModel", "estimatesOf", "(II)V"⟩,
  ⟨"LoanPenceModel", "parts", "(IJ)V"⟩,
  ⟨"LoanPenceModel", "bound", "(I)I"⟩,
  ⟨"LoanPenceModel", "isDead", "(II)Z"⟩,
  ⟨"LoanPenceModel", "comes", "(IIJI)V"⟩,
  ⟨"LoanPenceModel", "works", "(II)V"⟩,
  ⟨"LoanPenceModel", "partsOut", "(JII)V"⟩,
  ⟨"LoanPenceModel", "rests", "(JJ)V"⟩,
  ⟨"LoanPenceModel", "parted", "(IIJ)V"⟩,
  ⟨"LoanPenceModel", "paidOf", "(II)J"⟩,
  ⟨"LoanPenceModel", "pays", "(IIJ)V"⟩,
  ⟨"LoanPenceModel", "paysBack", "(IJ)J"⟩,
  ⟨"LoanPenceModel", "fund", "(I)I"⟩,
  ⟨"LoanPenceModel", "close", "()I"⟩,
  ⟨"LoanPenceModel", "estimate", "(III)I"⟩,
  ⟨"LoanPenceModel", "book", "(II)J"⟩,
  ⟨"LoanPenceModel", "points", "(II)J"⟩,
  ⟨"LoanPenceModel", "paid", "(III)J"⟩,
  ⟨"LoanPenceModel", "gain", "(III)J"⟩,
  ⟨"LoanPenceModel", "width", "(I)J"⟩,
  ⟨"LoanPenceModel", "many", "(I)I"⟩,
  ⟨"LoanPenceModel", "bestDraw", "(I)I"⟩,
  ⟨"LoanPenceModel", "judge", "()I"⟩,
  ⟨"LoanPenceModel", "rootOf", "(J)J"⟩,
  ⟨"LoanPenceModel", "lentBy", "(II)J"⟩,
  ⟨"LoanPenceModel", "isMoved", "(III)Z"⟩,
  ⟨"LoanPenceModel", "moved", "(II)I"⟩,
  ⟨"LoanPenceModel", "movedMany", "(I)I"⟩,
  ⟨"LoanPenceModel", "span", "(III)J"⟩,
  ⟨"LoanPenceModel", "ownOf", "(II)I"⟩,
  ⟨"LoanPenceModel", "count", "(I)I"⟩,
  ⟨"LoanPenceModel", "image", "()I"⟩,
  ⟨"LoanPenceModel", "back", "()I"⟩,
  ⟨"LoanPenceModel", "lay", "(I)I"⟩,
  ⟨"LoanPenceModel", "set", "(II)I"⟩,
  ⟨"LoanPenceModel", "tear", "()I"⟩,
  ⟨"LoanPenceModel", "row", "(I)I"⟩,
  ⟨"LoanPenceModel", "copy", "(III)I"⟩,
  ⟨"LoanPenceModel", "status", "(I)I"⟩,
  ⟨"java/lang/Integer", "bitCount", "(I)I"⟩,
  ⟨"java/util/Arrays", "fill", "([JJ)V"⟩,
  ⟨"java/util/Arrays", "fill", "([II)V"⟩,
  ⟨"LoanPenceLaw", "law", "([I)Z"⟩]
def am_bys : List ByteArray := [prog_1_method_1_code, prog_1_method_2_code, prog_1_method_3_code, prog_1_method_4_code, prog_1_method_5_code, prog_1_method_6_code, prog_1_method_7_code, prog_1_method_8_code, prog_1_method_9_code, prog_1_method_10_code, prog_1_method_11_code, prog_1_method_12_code, prog_1_method_13_code, prog_1_method_14_code, prog_1_method_15_code, prog_1_method_16_code, prog_1_method_17_code, prog_1_method_18_code, prog_1_method_19_code, prog_1_method_20_code, prog_1_method_21_code, prog_1_method_22_code, prog_1_method_23_code, prog_1_method_24_code, prog_1_method_25_code, prog_1_method_26_code, prog_1_method_27_code, prog_1_method_28_code, prog_1_method_29_code, prog_1_method_30_code, prog_1_method_31_code, prog_1_method_32_code, prog_1_method_33_code, prog_1_method_34_code, prog_1_method_35_code, prog_1_method_36_code, prog_1_method_37_code, prog_1_method_38_code, prog_1_method_39_code, prog_1_method_40_code, prog_1_method_41_code, prog_1_method_42_code, prog_1_method_43_code, prog_1_method_44_code, prog_1_method_45_code, prog_1_method_46_code, prog_1_method_47_code, prog_1_method_48_code, prog_1_method_49_code, prog_1_method_50_code, prog_1_method_51_code, prog_1_method_52_code, prog_1_method_53_code, prog_1_method_54_code, prog_1_method_55_code, prog_1_method_56_code, prog_1_method_57_code, prog_1_method_58_code, prog_1_method_59_code, prog_1_method_60_code, prog_5_method_1_code, prog_5_method_2_code, prog_5_method_3_code, prog_5_method_4_code, prog_5_method_5_code, prog_5_method_6_code, prog_6_method_1_code, prog_6_method_2_code, prog_6_method_3_code, prog_6_method_4_code, prog_6_method_5_code, prog_6_method_6_code, prog_4_method_1_code, prog_4_method_2_code, prog_4_method_3_code, prog_4_method_4_code, prog_4_method_5_code, prog_3_method_1_code, prog_3_method_2_code, prog_3_method_3_code, prog_3_method_4_code, prog_8_method_1_code, prog_8_method_2_code, prog_8_method_3_code, prog_8_method_4_code, prog_8_method_5_code, prog_8_method_6_code, prog_8_method_7_code, prog_8_method_8_code, prog_11_method_1_code, prog_11_method_2_code, prog_11_method_3_code, prog_11_method_4_code, prog_11_method_5_code, prog_11_method_6_code, prog_11_method_7_code, prog_10_method_1_code, prog_10_method_2_code, prog_10_method_3_code, prog_10_method_4_code, prog_10_method_5_code, prog_10_method_6_code, prog_10_method_7_code, prog_10_method_8_code, prog_12_method_1_code, prog_12_method_2_code, prog_12_method_3_code, prog_12_method_4_code, prog_12_method_5_code, prog_12_method_6_code, prog_9_method_1_code, prog_9_method_2_code, prog_9_method_3_code, prog_9_method_4_code, prog_9_method_5_code, prog_9_method_6_code, prog_9_method_7_code, prog_9_method_8_code, prog_9_method_9_code, prog_9_method_10_code, prog_9_method_11_code, prog_9_method_12_code, prog_9_method_13_code, prog_9_method_14_code, prog_9_method_15_code, prog_9_method_16_code, prog_9_method_17_code, prog_9_method_18_code, prog_9_method_19_code, prog_9_method_20_code, prog_2_method_1_code, prog_2_method_2_code, prog_2_method_3_code, prog_2_method_4_code, prog_2_method_5_code, prog_2_method_6_code, prog_2_method_7_code, prog_2_method_8_code, prog_7_method_1_code, prog_7_method_2_code, prog_7_method_3_code, prog_7_method_4_code, prog_7_method_5_code, prog_7_method_6_code, prog_7_method_7_code, prog_7_method_8_code, prog_7_method_9_code, prog_7_method_10_code, prog_7_method_11_code, prog_7_method_12_code, prog_7_method_13_code, prog_7_method_14_code, prog_7_method_15_code, prog_7_method_16_code, prog_14_method_1_code, prog_14_method_3_code, prog_14_method_4_code, prog_14_method_5_code, prog_14_method_6_code, prog_14_method_7_code, prog_14_method_8_code, prog_14_method_9_code, prog_14_method_10_code, prog_14_method_11_code, prog_14_method_12_code, prog_14_method_13_code, prog_14_method_14_code, prog_14_method_15_code, prog_14_method_16_code, prog_14_method_17_code, prog_14_method_18_code, prog_14_method_19_code, prog_14_method_20_code, prog_14_method_21_code, prog_14_method_22_code, prog_14_method_23_code, prog_14_method_24_code, prog_14_method_25_code, prog_14_method_26_code, prog_14_method_27_code, prog_14_method_28_code, prog_14_method_29_code, prog_14_method_30_code, prog_14_method_31_code, prog_14_method_32_code, prog_14_method_33_code, prog_14_method_34_code, prog_14_method_35_code, prog_14_method_36_code, prog_14_method_37_code, prog_14_method_38_code, prog_14_method_39_code, prog_14_method_40_code, prog_14_method_41_code, prog_14_method_42_code, prog_14_method_43_code, prog_14_method_44_code, prog_14_method_45_code, prog_14_method_46_code, prog_14_method_47_code, prog_14_method_48_code, prog_14_method_49_code, prog_14_method_50_code, prog_14_method_51_code, prog_14_method_52_code, prog_14_method_53_code, prog_14_method_54_code, prog_14_method_55_code, prog_14_method_56_code, prog_14_method_57_code, prog_14_method_58_code, prog_14_method_59_code, prog_14_method_60_code, prog_14_method_61_code, prog_14_method_62_code, prog_14_method_63_code, prog_14_method_64_code, prog_14_method_65_code, prog_14_method_66_code, prog_14_method_67_code, prog_14_method_68_code, prog_14_method_69_code, prog_14_method_70_code, prog_14_method_71_code, prog_14_method_72_code, prog_14_method_73_code, prog_14_method_74_code, prog_14_method_75_code, prog_14_method_76_code, prog_14_method_77_code, prog_14_method_78_code, prog_14_method_79_code, prog_14_method_80_code, prog_14_method_81_code, prog_14_method_82_code, prog_14_method_83_code, prog_14_method_84_code, prog_14_method_85_code, prog_14_method_86_code, prog_14_method_87_code, prog_14_method_88_code, prog_14_method_89_code, prog_14_method_90_code, prog_14_method_91_code, prog_14_method_92_code, prog_14_method_93_code, prog_14_method_94_code, prog_14_method_95_code, prog_14_method_96_code, prog_14_method_97_code, prog_14_method_98_code, prog_14_method_99_code, prog_14_method_100_code, prog_14_method_101_code, prog_14_method_102_code, prog_16_method_49_code, prog_22_method_101_code, prog_22_method_103_code, code]
def am_rts : List (Option FieldType) := [none, some .int, some .int, some .int, some .int, some .int, some .int, some .int, some .long, some .int, some .int, some .int, some .int, some .int, some .int, some .int, some .int, some .int, some .int, some .int, some .int, some .int, some .int, some .int, some .int, some .int, some .int, some .long, some .long, some .long, some .long, some .int, some .int, some .int, some .int, some .long, some .int, some .int, some .int, some .int, some .int, some .int, some .int, some .int, some .int, some .int, some .int, some .boolean, some .boolean, some .boolean, some .boolean, some .int, some .boolean, some .boolean, some .int, some .int, some .long, none, some .int, some .int, none, none, none, some .int, some .boolean, some .boolean, none, none, some .boolean, some .int, some .int, some .int, none, none, some .boolean, some .int, some .boolean, none, none, some .boolean, some .int, none, none, some .boolean, some .int, some .int, some .int, some .int, some .boolean, none, none, some .boolean, some .int, some .int, some .boolean, some .boolean, none, none, some .boolean, some .int, some .int, some .int, some .int, some .int, none, none, some .boolean, some .long, none, some .int, none, none, none, none, some .int, some .int, some .int, some .int, some .boolean, some .boolean, some .boolean, some .boolean, none, none, none, none, none, none, none, none, none, none, none, some .long, none, none, some .boolean, some .long, none, none, none, none, some .int, none, some .long, none, some .long, some .long, none, some .long, some .long, some .long, some .long, none, none, some .boolean, some .int, some .int, some .boolean, some .boolean, some .boolean, some .boolean, some .boolean, some .boolean, some .int, some .int, some .int, some .int, some .int, some .boolean, some .int, some .int, some .int, some .int, some .long, some .int, some .int, some .int, some .int, some .int, some .int, some .int, some .int, some .int, some .int, some .boolean, some .boolean, some .int, some .int, some .boolean, some .int, some .boolean, some .int, some .int, some .int, some .int, none, none, none, some .boolean, none, none, none, none, none, none, none, some .int, some .int, some .int, none, some .int, some .boolean, some .int, some .int, some .long, none, none, some .int, some .boolean, none, none, none, none, none, some .long, none, some .long, some .int, some .int, some .int, some .long, some .long, some .long, some .long, some .long, some .int, some .int, some .int, some .long, some .long, some .boolean, some .int, some .int, some .long, some .int, some .int, some .int, some .int, some .int, some .int, some .int, some .int, some .int, some .int, some .int, none, none, some .boolean]
set_option maxRecDepth 10000 in
def am_pl0 : List Nat := [0, 28, 0, 31, 0, 33, 434, 0, 0, 435, 0, 320, 0, 322, 436, 0, 366, 0, 0, 434, 368, 437, 0, 403, 0, 0, 434, 0, 437, 405, 438, 0, 0, 0, 439, 0, 0, 440, 0, 0, 0, 441, 0]
set_option maxRecDepth 10000 in
def am_pl1 : List Nat := [0, 0, 0, 463, 0, 0, 0, 466, 463, 0, 0, 0, 467, 0, 0, 434, 281, 44, 0, 0, 0, 0, 467, 0, 0, 434, 281, 0, 0, 471, 0]
set_option maxRecDepth 10000 in
def am_pl2 : List Nat := [0, 0, 434, 281, 479, 0, 0, 0, 0, 0, 0, 0, 0, 0, 0, 0, 434, 285, 0, 434, 279, 483, 0, 0, 0, 467, 0, 0, 434, 301, 239, 0, 434, 279, 0, 0, 0, 487, 0]
set_option maxRecDepth 10000 in
def am_pl3 : List Nat := [0, 0, 0, 463, 0, 0, 0, 467, 0, 0, 0, 497, 463, 0, 0, 0, 467, 0, 0, 434, 279, 0, 0, 0, 0, 0, 0, 434, 301, 241, 0, 0, 0, 0, 434, 301, 241, 0, 0, 0, 0, 0]
set_option maxRecDepth 10000 in
def am_pl4 : List Nat := [0, 0, 0, 502, 0, 0, 0, 467, 0, 0, 434, 301, 0, 434, 279, 0, 516, 0, 0, 0, 467, 0, 0, 0, 466, 463, 0, 0, 0, 467, 0, 0, 434, 279, 0, 0, 520, 0, 0, 434, 285, 0, 0, 434, 279, 523, 0, 0, 0, 0, 497, 0, 0, 434, 285, 0, 0, 434, 279, 0, 527, 0, 0, 0, 467, 0, 0, 0]
set_option maxRecDepth 10000 in
def am_pl5 : List Nat := [0, 0, 535, 0, 0, 0, 0, 502, 0, 0, 0, 467, 0, 0, 434, 301, 0, 0, 516, 0, 0, 0, 467, 0, 0, 0, 497, 463, 0, 0, 0, 467, 0, 0, 0, 0, 520, 0, 0, 434, 285, 0, 0, 434, 279, 523, 0, 0, 434, 285, 0, 0, 434, 279, 0, 527, 0, 0, 0, 467, 0, 0, 0]
set_option maxRecDepth 10000 in
def am_pl6 : List Nat := [0, 0, 0, 0, 0, 0, 0, 0, 0, 0, 543, 0, 0, 0, 543, 0, 0, 0, 0, 502, 0, 0, 0, 547, 0, 0, 434, 285, 0, 0, 0, 520, 0, 523, 0]
set_option maxRecDepth 10000 in
def am_pl7 : List Nat := [0, 434, 281, 0, 506, 0, 0, 0, 467, 0, 0, 0, 0, 434, 281, 48, 0, 0, 0, 0, 434, 281, 50, 0, 0, 0, 0, 434, 301, 0, 434, 279, 0, 516, 0, 0, 0, 0, 0, 0, 437, 0, 434, 279, 0, 434, 279, 555, 0, 437, 375, 0, 0, 0, 0, 0, 0, 467, 0]
set_option maxRecDepth 10000 in
def am_pl8 : List Nat := [0, 0, 543, 0, 0, 0, 547, 0, 0, 0, 434, 301, 0, 0, 0, 0, 239, 0, 0, 0, 0, 0, 241, 0, 0, 0, 0, 0, 0, 0, 0, 0, 0, 0, 245, 0, 0, 0, 0, 0, 247, 0, 0, 0, 0, 250, 0, 0, 0, 0, 252, 0, 0, 0, 0, 0, 547, 0, 0]
set_option maxRecDepth 10000 in
def am_pl9 : List Nat := [0, 0, 0, 463, 0, 0, 0, 0, 463, 0, 0, 0, 0, 434, 279, 463, 0, 0, 0, 467, 0, 0, 434, 289, 94, 0, 0, 0, 0, 467, 0, 0, 434, 289, 0, 0, 0, 579, 0]
set_option maxRecDepth 10000 in
def am_pl10 : List Nat := [0, 0, 0, 463, 0, 0, 0, 0, 463, 0, 0, 0, 0, 434, 279, 463, 0, 0, 0, 467, 0, 0, 434, 292, 127, 0, 0, 0, 0, 467, 0, 0, 434, 292, 0, 0, 0, 587, 0]
set_option maxRecDepth 10000 in
def am_pl11 : List Nat := [0, 434, 292, 0, 0, 0, 595, 0, 0, 0, 547, 0, 0, 0, 135, 0, 0, 600, 0, 0, 0, 0, 434, 279, 463, 0, 0, 0, 547, 0, 0, 137, 0, 0, 0, 0, 137, 0, 0, 0, 0, 0]
set_option maxRecDepth 10000 in
def am_pl12 : List Nat := [0, 434, 292, 0, 0, 0, 595, 0, 0, 0, 595, 0, 0, 0, 467, 0, 0, 0, 0, 0, 0, 0, 463, 0, 0, 0, 467, 0, 0, 0, 0, 0, 0, 0, 0, 144, 0, 0, 0, 0, 0, 607, 0, 0, 0, 0, 0, 0, 0, 0, 467, 0, 0, 144, 0, 0, 0, 0, 0]
set_option maxRecDepth 10000 in
def am_pl13 : List Nat := [0, 0, 0, 0, 0, 0, 0, 0, 0, 434, 289, 0, 511, 0, 0, 0, 0, 434, 292, 0, 595, 0, 0, 0, 467, 0, 0, 0, 0, 463, 0, 0, 0, 0, 463, 0, 0, 0, 467, 0, 0, 434, 295, 169, 0, 0, 0, 434, 295, 0, 615, 0, 0, 0, 0, 0, 0, 467, 0, 0, 434, 295, 0, 0, 0, 0, 619, 0, 0, 434, 295, 185, 0, 0, 434, 279, 0, 0, 0]
set_option maxRecDepth 10000 in
def am_pl14 : List Nat := [0, 434, 289, 0, 0, 0, 511, 0, 0, 0, 547, 0, 0, 0, 0, 97, 0, 0, 0, 0, 101, 0, 0, 0, 0, 105, 0, 0, 0, 0, 107, 0, 0, 0, 0, 434, 295, 0, 615, 0, 0, 0, 547, 0]
set_option maxRecDepth 10000 in
def am_pl15 : List Nat := [0, 434, 292, 0, 0, 0, 595, 0, 0, 0, 547, 0, 0, 0, 0, 129, 0, 0, 0, 0, 132, 0, 0, 0, 0, 135, 0, 0, 0, 0, 137, 0, 0, 0, 0, 141, 0, 0, 0, 0, 0, 607, 0, 0, 0, 547, 0]
set_option maxRecDepth 10000 in
def am_pl16 : List Nat := [0, 434, 295, 0, 0, 0, 635, 0, 0, 0, 467, 0, 0, 0, 0, 172, 0, 0, 0, 0, 176, 0, 0, 0, 0, 179, 0, 0, 0, 0, 182, 0, 0, 0, 0, 185, 0, 0, 0, 0, 0, 467, 0]
set_option maxRecDepth 10000 in
def am_pl17 : List Nat := [0, 0, 0, 0, 644, 0, 0, 0, 0, 0, 467, 0, 0, 0, 0, 434, 0, 0, 648, 0, 0, 434, 292, 0, 0, 669, 0]
set_option maxRecDepth 10000 in
def am_pl18 : List Nat := [0, 0, 0, 0, 644, 0, 0, 0, 0, 0, 467, 0, 0, 0, 0, 434, 0, 0, 648, 0, 0, 434, 292, 0, 0, 669, 0, 0, 0, 0, 0, 467, 0, 0, 0, 0, 434, 289, 107, 0, 434, 289, 94, 0, 0, 681, 0, 0, 434, 292, 141, 0, 434, 292, 127, 0, 0, 681, 0]
set_option maxRecDepth 10000 in
def am_pl19 : List Nat := [0, 0, 0, 0, 467, 0, 0, 0, 0, 0, 0, 467, 0, 0, 436, 328, 0, 0, 0, 0, 0, 0, 467, 0, 0, 436, 0, 0, 691, 0, 436, 328, 0]
set_option maxRecDepth 10000 in
def am_pl20 : List Nat := [0, 436, 328, 0, 0, 436, 0, 328, 0, 0]
set_option maxRecDepth 10000 in
def am_pl21 : List Nat := [0, 0, 0, 463, 0, 0, 0, 0, 463, 0, 0, 0, 0, 0, 0, 467, 0, 0, 434, 298, 206, 0, 0, 0, 0, 467, 0, 0, 436, 703, 0, 436, 334, 0, 0, 0, 0, 436, 334, 0, 0, 0, 436, 0, 328, 0, 434, 298, 0, 0, 0, 436, 879, 0]
set_option maxRecDepth 10000 in
def am_pl22 : List Nat := [0, 0, 0, 0, 891, 0, 0, 0, 547, 0, 0, 438, 0, 0, 0, 895, 0, 434, 298, 0, 0, 0, 0, 438, 412, 930, 0]
set_option maxRecDepth 10000 in
def am_pl23 : List Nat := [0, 0, 0, 0, 891, 0, 0, 0, 467, 0, 0, 438, 0, 0, 0, 895, 0, 434, 298, 0, 0, 0, 0, 438, 412, 951, 0]
set_option maxRecDepth 10000 in
def am_pl24 : List Nat := [0, 0, 497, 463, 0, 0, 0, 467, 0, 0, 434, 301, 245, 0, 434, 279, 0, 0, 0, 434, 301, 245, 0, 434, 279, 0, 0, 0, 0]
set_option maxRecDepth 10000 in
def am_pl25 : List Nat := [0, 434, 279, 0, 0, 0, 0, 0, 0, 467, 0, 0, 434, 301, 0, 960, 0, 0, 0, 0, 438, 0, 964, 0, 0, 0, 0, 0, 600, 0, 0, 0, 0, 0, 0, 438, 0, 0, 0, 972, 0, 0, 0, 0, 0, 434, 301, 250, 0, 0, 0, 0, 0, 0, 438, 0, 0, 1021, 0, 434, 1025, 0, 434, 301, 0, 1029, 0]
set_option maxRecDepth 10000 in
def am_pl26 : List Nat := [0, 0, 543, 0, 0, 0, 543, 0, 0, 434, 289, 0, 511, 0, 0, 0, 547, 0, 0, 437, 0, 0, 1037, 0, 437, 383, 0, 0, 0, 0]
set_option maxRecDepth 10000 in
def am_pl27 : List Nat := [0, 0, 543, 0, 0, 434, 289, 0, 511, 0, 0, 0, 547, 0, 0, 0, 437, 0, 0, 434, 279, 1037, 0, 434, 289, 107, 0, 0, 0, 0, 0, 0, 0, 434, 289, 94, 0, 0, 0, 0, 0, 0, 0, 0, 0, 0, 437, 383, 0, 0, 0, 0, 0, 0, 0, 0]
set_option maxRecDepth 10000 in
def am_pl28 : List Nat := [0, 0, 543, 0, 0, 434, 292, 0, 595, 0, 0, 0, 547, 0, 0, 0, 438, 0, 0, 434, 279, 0, 1046, 0, 438, 414, 0, 0, 0]
set_option maxRecDepth 10000 in
def am_pl29 : List Nat := [0, 0, 535, 0, 0, 434, 292, 0, 595, 0, 0, 0, 547, 0, 0, 0, 0, 0, 0, 0, 0, 0, 0, 0, 434, 301, 256, 0, 0, 0, 0, 438, 0, 0, 0, 434, 279, 0, 1051, 0, 0, 438, 0, 0, 0, 0, 1051, 0, 0, 434, 301, 258, 0, 0, 0, 0, 0, 547, 0, 0]
set_option maxRecDepth 10000 in
def am_pl30 : List Nat := [0, 0, 535, 0, 0, 434, 292, 0, 595, 0, 0, 434, 298, 0, 1059, 0, 0, 0, 547, 0, 0, 0, 438, 0, 0, 0, 434, 279, 0, 1051, 0, 0, 0, 438, 0, 0, 0, 434, 279, 0, 1051, 0, 0]
set_option maxRecDepth 10000 in
def am_pl31 : List Nat := [0, 0, 0, 0, 467, 0, 0, 0, 434, 281, 44, 0, 0, 434, 279, 0, 0, 0, 467, 0, 0, 434, 301, 239, 0, 434, 279, 0, 0, 0, 0, 0, 0, 0, 434, 281, 479, 0, 0, 0, 0, 0, 0, 0, 487, 0, 0, 0, 434, 281, 0, 0, 434, 301, 0, 434, 279, 0, 0, 1068, 0, 0, 0, 0, 0, 0, 0, 0, 0, 0, 0, 0, 0, 0, 0, 0, 1074, 0, 0, 0, 0, 0, 0, 0, 0, 0]
set_option maxRecDepth 10000 in
def am_pl32 : List Nat := [0, 440, 0, 0, 0, 0, 467, 0, 0, 434, 279, 0, 0, 0, 467, 0, 0, 0, 0, 0, 0, 0, 440, 0, 0, 439, 0, 0, 0, 0, 434, 281, 0, 506, 0, 0, 0, 0, 0, 0, 0, 0, 0, 0, 0, 0, 0, 0, 0, 0, 0, 0, 0, 434, 281, 0, 0, 434, 301, 0, 434, 279, 0, 0, 1068, 0]
set_option maxRecDepth 10000 in
def am_pl33 : List Nat := [0, 0, 0, 0, 0, 0, 0, 0, 0, 0, 543, 0, 0, 0, 0, 502, 0, 0, 0, 467, 0, 0, 434, 301, 0, 0, 516, 0, 0, 0, 467, 0, 0, 437, 0, 0, 434, 279, 555, 0, 437, 0, 0, 1085, 0, 0, 0, 0, 0]
set_option maxRecDepth 10000 in
def am_pl34 : List Nat := [0, 0, 543, 0, 0, 0, 467, 0, 0, 437, 0, 0, 434, 279, 555, 0, 0, 0, 0, 0, 0, 434, 281, 44, 0, 0, 0, 0, 0, 434, 289, 94, 0, 0, 437, 0, 0, 1085, 0, 0, 0, 0, 0, 0, 0, 0]
set_option maxRecDepth 10000 in
def am_pl35 : List Nat := [0, 0, 543, 0, 0, 434, 289, 0, 511, 0, 0, 0, 547, 0, 0, 0, 0, 0, 463, 0, 0, 0, 547, 0, 0, 0, 437, 0, 0, 434, 279, 555, 0, 437, 0, 0, 0, 0, 0, 0, 0, 0, 1100, 0]
set_option maxRecDepth 10000 in
def am_pl36 : List Nat := [0, 0, 0, 434, 279, 0, 0, 434, 281, 44, 0, 0, 434, 289, 94, 0, 0, 434, 292, 127, 0, 0, 434, 295, 169, 0, 0, 434, 298, 206, 0, 0, 434, 285, 70, 0, 0, 436, 328, 0, 0, 434, 289, 107, 0, 434, 289, 94, 1108, 0, 0, 434, 292, 141, 0, 434, 292, 127, 1108, 0, 0, 434, 301, 239, 0, 434, 279, 0, 487, 0, 0, 0, 467, 0]
set_option maxRecDepth 10000 in
def am_pl37 : List Nat := [0, 435, 0, 0, 31, 0, 33, 435, 0, 435, 0, 434, 1115, 0, 434, 279, 0]
set_option maxRecDepth 10000 in
def am_pl38 : List Nat := [0, 435, 0, 0, 0, 467, 0, 0, 434, 0, 435, 1115, 0, 434, 279, 0]
set_option maxRecDepth 10000 in
def am_pl39 : List Nat := [0, 0, 0, 0, 467, 0, 0, 0, 0, 0, 0, 467, 0, 0, 439, 0, 1161, 0, 0, 440, 0, 0]
set_option maxRecDepth 10000 in
def am_pl40 : List Nat := [0, 440, 0, 0, 0, 0, 547, 0, 0, 0, 0, 440, 0, 0, 463, 0, 0, 0, 547, 0, 0, 439, 0, 0, 0, 0, 439, 0, 0, 0, 0, 0]
set_option maxRecDepth 10000 in
def am_pl41 : List Nat := [0, 440, 0, 0, 0, 0, 0, 0, 0, 0, 440, 0, 0]
set_option maxRecDepth 10000 in
def am_pl42 : List Nat := [0, 440, 0, 0, 0, 0, 547, 0, 0, 0, 0, 440, 0, 0, 463, 0, 0, 0, 547, 0, 0, 439, 0, 0, 0]
set_option maxRecDepth 10000 in
def am_pl43 : List Nat := [0, 440, 0, 0, 0, 0, 467, 0, 0, 0, 0, 0, 467, 0, 0, 0, 440, 0, 0, 0, 0, 440, 0, 0, 463, 0, 0, 0, 0, 440, 0, 0, 463, 0, 0, 0, 467, 0, 0, 439, 0, 0, 439, 0, 0, 1178, 0, 0]
set_option maxRecDepth 10000 in
def am_pl44 : List Nat := [0, 0, 0, 463, 0, 0, 0, 467, 0, 0, 441, 0, 0, 0, 0]
set_option maxRecDepth 10000 in
def am_pl45 : List Nat := [0, 441, 0, 0, 0, 0, 0, 0, 0, 0, 0]
set_option maxRecDepth 10000 in
def am_pl46 : List Nat := [0, 441, 0, 0, 0, 0, 0, 0, 0, 0, 0]
set_option maxRecDepth 10000 in
def am_pl47 : List Nat := [0, 0, 0, 434, 279, 463, 0]
set_option maxRecDepth 10000 in
def am_pl48 : List Nat := [0, 0, 0, 434, 279, 0, 0, 463, 0]
set_option maxRecDepth 10000 in
def am_pl49 : List Nat := [0, 434, 281, 0, 506, 0, 0, 434, 289, 0, 511, 0, 0, 0, 0, 0]
set_option maxRecDepth 10000 in
def am_pl50 : List Nat := [0, 0, 0, 463, 0, 0, 0, 543, 0, 0, 0, 0, 0, 434, 295, 0, 635, 0, 0, 0, 0, 0]
set_option maxRecDepth 10000 in
def am_pl51 : List Nat := [0, 0, 0, 463, 0, 0, 0, 0, 0, 0, 434, 289, 0, 511, 0, 0, 434, 289, 0, 511, 0, 0, 0, 0, 0, 0, 434, 292, 0, 595, 0, 0, 434, 292, 0, 595, 0, 0, 0, 0, 0, 0, 0, 0, 0, 0, 0, 0, 0, 0, 0, 0]
set_option maxRecDepth 10000 in
def am_pl52 : List Nat := [0, 0, 0, 0, 0, 487, 0, 0, 0, 0, 0, 0, 487, 0, 0, 0, 0, 0, 0, 0, 0, 0, 0, 0, 0, 0, 0, 0, 0, 0, 0, 0, 0, 0, 0, 0, 0, 0, 0]
set_option maxRecDepth 10000 in
def am_pl53 : List Nat := [0, 0, 0, 0, 0, 0, 0, 0, 0, 0]
set_option maxRecDepth 10000 in
def am_pl54 : List Nat := [0, 0, 0, 684, 600, 0]
set_option maxRecDepth 10000 in
def am_pl55 : List Nat := [0, 0, 0, 0, 0, 0, 0, 0, 0, 0]
set_option maxRecDepth 10000 in
def am_pl56 : List Nat := [0, 0, 0, 0, 0, 0, 0, 0, 0, 0, 0, 0, 0, 0, 0, 0, 0, 0, 0, 0, 0, 0, 0, 0]
set_option maxRecDepth 10000 in
def am_pl57 : List Nat := [0, 0, 0, 0, 0, 0, 0, 0, 0, 0, 0, 0, 0, 0, 0, 0, 0, 0, 0, 0, 0, 0, 0, 0, 0, 0, 0, 0, 0, 0, 0, 0, 0, 0, 0, 0, 0, 0, 0, 0, 0, 0, 0, 0, 915, 0, 0, 0, 0]
set_option maxRecDepth 10000 in
def am_pl58 : List Nat := [0, 0, 0, 0, 0, 0, 684, 0, 0, 0, 0, 0, 0, 0, 600, 0, 0, 0, 0, 0, 0, 0, 0, 0, 0, 0, 0, 0, 0, 0, 0, 0, 0, 0]
set_option maxRecDepth 10000 in
def am_pl59 : List Nat := [0, 0, 0, 0, 0, 0, 0, 0, 0, 0, 0, 0, 0, 0, 0, 0, 0]
set_option maxRecDepth 10000 in
def am_pl60 : List Nat := [0, 36, 0, 37, 0, 39, 280, 0, 62, 0, 64, 283, 0, 86, 0, 88, 286, 0, 119, 0, 121, 290, 0, 160, 0, 162, 293, 0, 199, 0, 201, 296, 0, 231, 0, 233, 299, 0]
set_option maxRecDepth 10000 in
def am_pl61 : List Nat := [0, 0, 277, 277, 0, 280, 0, 280, 1119, 0, 283, 0, 283, 1124, 0, 286, 0, 286, 1129, 0, 290, 0, 290, 1134, 0, 293, 0, 293, 1139, 0, 296, 0, 296, 1144, 0, 299, 0, 299, 1148, 0]
set_option maxRecDepth 10000 in
def am_pl62 : List Nat := [0, 277, 0, 0, 0, 0, 277, 0, 0, 277, 0, 299, 238, 0, 277, 0, 299, 238, 0, 277, 0, 0, 0, 0, 0]
set_option maxRecDepth 10000 in
def am_pl63 : List Nat := [0, 286, 99, 0, 0, 0, 286, 99, 0, 0, 0, 0, 0, 0, 652, 0, 0, 0, 0, 652, 0, 0, 0, 0, 0, 0, 660, 0, 0, 0, 0, 293, 0, 664, 0, 0, 293, 0, 664, 0, 0, 0, 0, 0]
set_option maxRecDepth 10000 in
def am_pl64 : List Nat := [0, 0, 0, 0, 293, 167, 0, 0, 293, 0, 0, 656, 0, 0, 286, 104, 0, 0, 0, 290, 134, 0, 293, 175, 0, 0, 0, 0, 0, 0, 0, 0, 0, 0]
set_option maxRecDepth 10000 in
def am_pl65 : List Nat := [0, 0, 0, 0, 293, 167, 0, 0, 290, 139, 0, 293, 175, 0, 0, 0, 0, 0, 0, 0, 293, 0, 0, 656, 0, 0, 0, 293, 167, 0, 0, 293, 0, 0, 656, 0, 0, 290, 139, 0, 293, 175, 0, 0, 0, 0, 0, 0, 0, 0, 0, 0, 0, 0, 0]
set_option maxRecDepth 10000 in
def am_pl66 : List Nat := [0, 42, 0, 0, 0, 46, 0, 0, 0, 49, 0, 0, 0, 51, 0]
set_option maxRecDepth 10000 in
def am_pl67 : List Nat := [0, 0, 43, 43, 0, 46, 0, 0, 46, 0, 0, 1123, 0, 49, 0, 0, 49, 0, 0, 1123, 0]
set_option maxRecDepth 10000 in
def am_pl68 : List Nat := [0, 0, 0, 43, 0, 0, 510, 0]
set_option maxRecDepth 10000 in
def am_pl69 : List Nat := [0, 0, 43, 0, 0, 0, 0]
set_option maxRecDepth 10000 in
def am_pl70 : List Nat := [0, 43, 0, 0, 46, 0, 0, 0, 0, 49, 0, 0, 0, 0, 0, 43, 0, 0, 43, 0, 0]
set_option maxRecDepth 10000 in
def am_pl71 : List Nat := [0, 51, 0, 1072, 0, 0, 0, 0, 0, 0, 43, 0, 0, 0, 0, 46, 0, 0, 0, 0, 0, 0, 0, 0, 0, 0, 0, 0, 0, 51, 0, 46, 0, 0, 0, 0, 0, 49, 0, 0, 0, 0, 0, 0, 0, 0, 0, 0, 0, 0, 0, 0, 0, 0, 0, 0, 0, 0, 0, 51, 0, 0, 0, 0, 0, 0, 0, 243, 0, 0, 0, 0, 0, 0, 0, 51, 0, 0, 0, 1073, 0, 0, 0, 0, 0]
set_option maxRecDepth 10000 in
def am_pl72 : List Nat := [0, 67, 0, 0, 0, 71, 0, 0, 0, 73, 0, 0, 0, 75, 0]
set_option maxRecDepth 10000 in
def am_pl73 : List Nat := [0, 0, 68, 68, 0, 71, 0, 0, 71, 0, 0, 1128, 0, 73, 0, 0, 73, 0, 0, 1128, 0, 75, 0, 0, 75, 0, 0, 1128, 0]
set_option maxRecDepth 10000 in
def am_pl74 : List Nat := [0, 0, 0, 0, 68, 0, 0, 71, 0, 0, 0, 0, 0, 0, 0, 0, 0, 0, 0, 0]
set_option maxRecDepth 10000 in
def am_pl75 : List Nat := [0, 68, 0, 0, 0, 0, 0, 0, 71, 0, 0, 0, 0, 0, 75, 0, 0, 0, 0, 0, 73, 0, 0, 0, 0, 0, 0, 0]
set_option maxRecDepth 10000 in
def am_pl76 : List Nat := [0, 0, 0, 0, 68, 0, 0, 71, 0, 0, 0, 0, 0, 75, 0, 0, 0, 0, 0, 73, 0, 0, 0, 0, 0, 0, 0, 0, 68, 0, 0, 0, 0, 0, 71, 0, 68, 0, 0, 0, 73, 0, 68, 0, 0, 0, 75, 0, 68, 0, 0, 0, 0, 68, 0, 0, 68, 0, 0]
set_option maxRecDepth 10000 in
def am_pl77 : List Nat := [0, 91, 0, 0, 0, 95, 0, 0, 0, 98, 0, 0, 0, 102, 0, 0, 0, 106, 0]
set_option maxRecDepth 10000 in
def am_pl78 : List Nat := [0, 0, 92, 92, 0, 95, 0, 0, 95, 0, 0, 1133, 0, 98, 0, 0, 98, 0, 0, 1133, 0, 102, 0, 0, 102, 0, 0, 1133, 0, 106, 0, 0, 106, 0, 0, 1133, 0]
set_option maxRecDepth 10000 in
def am_pl79 : List Nat := [0, 0, 0, 92, 0, 0, 515, 0]
set_option maxRecDepth 10000 in
def am_pl80 : List Nat := [0, 92, 0, 0, 95, 0, 0, 0, 0, 98, 0, 0, 0, 0, 102, 0, 0, 0, 0, 106, 0, 0, 0, 0, 0, 92, 0, 0, 92, 0, 0]
set_option maxRecDepth 10000 in
def am_pl81 : List Nat := [0, 124, 0, 0, 0, 128, 0, 0, 0, 130, 0, 0, 0, 133, 0, 0, 0, 136, 0, 0, 0, 138, 0, 0, 0, 142, 0]
set_option maxRecDepth 10000 in
def am_pl82 : List Nat := [0, 0, 125, 125, 0, 128, 0, 0, 128, 0, 0, 1138, 0, 130, 0, 0, 130, 0, 0, 1138, 0, 133, 0, 0, 133, 0, 0, 1138, 0, 136, 0, 0, 136, 0, 0, 1138, 0, 138, 0, 0, 138, 0, 0, 1138, 0, 142, 0, 0, 142, 0, 0, 142, 0, 1138, 0]
set_option maxRecDepth 10000 in
def am_pl83 : List Nat := [0, 0, 0, 125, 0, 0, 599, 0]
set_option maxRecDepth 10000 in
def am_pl84 : List Nat := [0, 125, 0, 0, 128, 0, 0, 0, 0, 130, 0, 0, 0, 0, 133, 0, 0, 0, 0, 136, 0, 0, 0, 0, 138, 0, 0, 0, 0, 0, 125, 0, 0, 125, 0, 0]
set_option maxRecDepth 10000 in
def am_pl85 : List Nat := [0, 0, 0, 0, 0, 0, 125, 0, 0, 0, 142, 0, 0, 0, 0, 0, 0, 0, 0, 0, 0, 0, 0]
set_option maxRecDepth 10000 in
def am_pl86 : List Nat := [0, 136, 0, 0, 0, 0, 0, 0, 0, 0, 0, 136, 0, 0, 0, 924, 0]
set_option maxRecDepth 10000 in
def am_pl87 : List Nat := [0, 133, 0, 0, 0, 0, 0, 133, 0, 0, 0, 0, 0, 0, 0, 0, 0, 128, 0, 0, 0, 128, 0, 0, 0, 0, 0, 0, 133, 0, 0, 0, 133, 0, 0, 0, 0, 0, 0, 673, 0, 0, 0, 0, 673, 0, 0, 0, 0, 0, 0, 0, 0, 0]
set_option maxRecDepth 10000 in
def am_pl88 : List Nat := [0, 136, 0, 0, 0, 0, 0, 136, 0, 0, 0, 133, 0, 0, 0, 0, 0, 0, 0]
set_option maxRecDepth 10000 in
def am_pl89 : List Nat := [0, 165, 0, 0, 0, 170, 0, 0, 0, 173, 0, 0, 0, 177, 0, 0, 0, 180, 0, 0, 0, 183, 0]
set_option maxRecDepth 10000 in
def am_pl90 : List Nat := [0, 0, 166, 166, 0, 170, 0, 0, 170, 0, 0, 1143, 0, 173, 0, 0, 173, 0, 0, 1143, 0, 177, 0, 0, 177, 0, 0, 1143, 0, 180, 0, 0, 180, 0, 0, 1143, 0, 183, 0, 0, 183, 0, 0, 1143, 0]
set_option maxRecDepth 10000 in
def am_pl91 : List Nat := [0, 0, 0, 166, 0, 0, 639, 0]
set_option maxRecDepth 10000 in
def am_pl92 : List Nat := [0, 166, 0, 0, 170, 0, 0, 0, 0, 173, 0, 0, 0, 0, 177, 0, 0, 0, 0, 180, 0, 0, 0, 0, 0, 166, 0, 0, 166, 0, 0]
set_option maxRecDepth 10000 in
def am_pl93 : List Nat := [0, 0, 0, 0, 0, 0, 166, 0, 0, 170, 0, 0, 0, 0, 0, 0, 180, 0, 0, 0, 0, 0, 0, 0, 0]
set_option maxRecDepth 10000 in
def am_pl94 : List Nat := [0, 177, 0, 0, 0, 0, 170, 0, 0, 0, 0, 0, 0, 0, 0]
set_option maxRecDepth 10000 in
def am_pl95 : List Nat := [0, 0, 0, 0, 166, 0, 0, 0, 0, 668, 0, 0, 0, 0, 0, 0, 0]
set_option maxRecDepth 10000 in
def am_pl96 : List Nat := [0, 204, 0, 0, 0, 207, 0, 0, 0, 208, 0, 0, 0, 209, 0, 0, 0, 210, 0, 0, 0, 211, 0, 0, 0, 212, 0, 0, 0, 213, 0]
set_option maxRecDepth 10000 in
def am_pl97 : List Nat := [0, 0, 205, 205, 0, 207, 0, 0, 207, 0, 0, 883, 0, 208, 0, 0, 208, 0, 0, 883, 0, 209, 0, 0, 209, 0, 0, 883, 0, 210, 0, 0, 210, 0, 0, 883, 0, 211, 0, 0, 211, 0, 0, 883, 0, 212, 0, 0, 212, 0, 0, 212, 0, 883, 0]
set_option maxRecDepth 10000 in
def am_pl98 : List Nat := [0, 0, 0, 205, 0, 0, 1063, 0]
set_option maxRecDepth 10000 in
def am_pl99 : List Nat := [0, 205, 0, 0, 0, 0, 0, 0, 207, 0, 0, 336, 0, 0, 208, 0, 0, 0, 0, 209, 0, 0, 0, 0, 210, 0, 0, 0, 342, 0, 0, 0, 211, 0, 0, 0, 340, 0, 0, 0, 338, 0, 0, 212, 0, 0, 340, 883, 0, 0, 205, 0, 0, 205, 0, 0]
set_option maxRecDepth 10000 in
def am_pl100 : List Nat := [0, 0, 0, 0, 0, 934, 0, 0, 0, 0, 945, 0, 0, 0, 0, 0, 0, 0, 0, 210, 0, 0, 0, 938, 0]
set_option maxRecDepth 10000 in
def am_pl101 : List Nat := [0, 205, 0, 0, 0, 0, 0, 0, 207, 0, 0, 0, 0, 0, 0, 0, 0, 208, 0, 0, 0, 0, 0, 0, 209, 0, 0, 0, 0, 210, 0, 0, 0, 211, 0, 0, 0, 0, 0, 210, 0, 0, 0, 211, 0, 0, 0, 938, 0, 0, 0, 0, 0, 0, 0]
set_option maxRecDepth 10000 in
def am_pl102 : List Nat := [0, 0, 0, 0, 0, 0, 0, 0, 212, 0, 0, 0, 0, 0, 0, 0, 0, 213, 0, 0, 0, 213, 0, 0, 0, 0, 0, 0, 0, 0, 0, 0, 0, 0, 0, 0, 0, 0, 0, 0, 0, 0, 0, 0, 0, 0, 0, 0, 213, 0, 0, 0, 0, 0, 0, 213, 0, 0, 0, 0, 0, 0, 0, 0, 0, 0, 0, 0, 0, 0, 0, 0, 0, 0, 0, 0, 0, 213, 0, 0, 0, 0, 0, 213, 0, 0, 0, 0, 0, 213, 0, 0, 942, 0, 0, 0, 0, 213, 0, 0, 0]
set_option maxRecDepth 10000 in
def am_pl103 : List Nat := [0, 0, 0, 0, 0, 0, 0, 0, 0, 0, 0, 0, 0, 0, 0, 0, 0, 0, 0, 0, 0, 0, 0, 0, 0, 0, 0, 0, 0, 0, 0, 0, 0, 0, 0, 0, 0, 0, 0, 0, 0, 0, 0, 0, 0, 0, 0, 0, 0, 0, 0, 0, 0, 0, 0, 0, 0, 0, 0, 0, 0, 0, 0, 0, 0, 0, 0]
set_option maxRecDepth 10000 in
def am_pl104 : List Nat := [0, 236, 0, 0, 0, 237, 0, 0, 0, 240, 0, 0, 0, 244, 0, 0, 0, 246, 0, 0, 0, 249, 0, 0, 0, 251, 0, 0, 0, 254, 0, 0, 0, 257, 0]
set_option maxRecDepth 10000 in
def am_pl105 : List Nat := [0, 237, 0, 0, 237, 0, 0, 237, 0, 1152, 0, 240, 0, 0, 240, 0, 0, 240, 0, 1152, 0, 244, 0, 0, 244, 0, 0, 244, 0, 1152, 0, 246, 0, 0, 246, 0, 0, 246, 0, 1152, 0, 249, 0, 0, 249, 0, 0, 249, 0, 1152, 0, 251, 0, 0, 251, 0, 0, 251, 0, 1152, 0, 254, 0, 0, 254, 0, 0, 254, 0, 1152, 0, 257, 0, 0, 257, 0, 0, 257, 0, 1152, 0]
set_option maxRecDepth 10000 in
def am_pl106 : List Nat := [0, 237, 0, 0, 0, 0, 0, 0, 0, 0, 0, 0, 0, 0]
set_option maxRecDepth 10000 in
def am_pl107 : List Nat := [0, 244, 0, 0, 0, 0, 0, 0, 251, 0, 0, 0, 0, 0, 0, 0, 0]
set_option maxRecDepth 10000 in
def am_pl108 : List Nat := [0, 254, 0, 0, 0, 0, 0, 0, 0, 0, 0, 0, 0, 257, 0, 0, 0, 0, 0, 0, 0, 0, 0, 0, 0]
set_option maxRecDepth 10000 in
def am_pl109 : List Nat := [0, 0, 0, 0, 0, 0, 0, 0, 257, 0, 0, 0, 0, 0, 0, 0, 0, 0, 0, 0, 0, 0, 0]
set_option maxRecDepth 10000 in
def am_pl110 : List Nat := [0, 325, 0, 0, 0, 326, 0, 0, 0, 329, 0, 0, 0, 330, 0, 0, 0, 331, 0, 0, 0, 337, 0]
set_option maxRecDepth 10000 in
def am_pl111 : List Nat := [0, 0, 0, 0, 0, 0, 0, 327, 0, 0, 0, 326, 0, 327, 0, 0, 0, 0, 0, 0, 0, 0, 0, 0, 327, 0, 0, 327, 0, 0, 0]
set_option maxRecDepth 10000 in
def am_pl112 : List Nat := [0, 707, 0, 0, 332, 0, 0, 333, 0, 0, 339, 0, 0, 329, 0, 0, 0, 0, 335, 0, 335, 0, 0, 718, 0, 0, 0, 330, 0, 0, 333, 0, 0, 0, 332, 0, 0, 332, 0, 0, 843, 0, 0, 339, 341, 0, 0, 855, 0, 0, 0, 332, 0, 0, 332, 0, 0, 843, 0, 0, 855, 0, 0, 859, 0]
set_option maxRecDepth 10000 in
def am_pl113 : List Nat := [0, 0, 0, 0, 0, 0, 0, 0, 0, 0, 0, 0, 0, 0, 0, 0, 327, 0, 0, 326, 0, 0, 0, 0, 0, 0, 0, 330, 0, 0, 0, 0, 0, 711, 0, 0, 329, 0, 0, 0, 0, 722, 0, 0, 331, 0, 0, 329, 0, 0, 0, 0, 0, 0, 0, 839, 0, 0, 0, 0, 329, 0, 0, 0, 0, 0, 0, 0, 0]
set_option maxRecDepth 10000 in
def am_pl114 : List Nat := [0, 0, 327, 0, 0, 327, 0, 0, 0, 0, 0, 0, 326, 0, 0, 715, 0, 0, 326, 0, 0, 719, 0, 0, 0, 327, 0, 0, 0, 0, 326, 0, 0, 715, 0, 0, 0, 0, 326, 0, 0, 719, 0, 0, 0, 0, 0]
set_option maxRecDepth 10000 in
def am_pl115 : List Nat := [0, 0, 0, 0, 0, 0, 326, 0, 0, 0, 0, 715, 0, 0, 0, 0, 726, 0, 0, 719, 0, 0, 0, 0, 0, 0, 0, 0, 0, 0, 0, 0, 0, 784, 0, 0, 0, 0, 0]
set_option maxRecDepth 10000 in
def am_pl116 : List Nat := [0, 0, 0, 0, 0, 0, 0, 0, 0, 0, 0, 326, 0, 0, 0, 0, 0, 0, 0, 0, 0, 0]
set_option maxRecDepth 10000 in
def am_pl117 : List Nat := [0, 0, 0, 0, 0, 0, 0, 0, 731, 0, 0, 0, 731, 0, 0, 0, 741, 0, 0, 0, 0, 0, 0, 0, 0, 0, 0, 0, 0, 0, 0, 0, 779, 0, 0, 0, 0, 0, 0, 0, 0, 0, 0, 0, 0, 0, 0]
set_option maxRecDepth 10000 in
def am_pl118 : List Nat := [0, 0, 0, 0, 0, 0, 0, 0, 0, 741, 0, 326, 0, 0, 0, 0, 0, 0, 0, 0, 0, 0, 0]
set_option maxRecDepth 10000 in
def am_pl119 : List Nat := [0, 0, 0, 718, 0]
set_option maxRecDepth 10000 in
def am_pl120 : List Nat := [0, 0, 0, 718, 0]
set_option maxRecDepth 10000 in
def am_pl121 : List Nat := [0, 333, 0, 0, 0, 329, 0, 332, 0, 0, 0, 0, 0, 0, 0]
set_option maxRecDepth 10000 in
def am_pl122 : List Nat := [0, 333, 0, 0, 0, 0, 330, 0, 332, 0, 333, 0]
set_option maxRecDepth 10000 in
def am_pl123 : List Nat := [0, 339, 0, 0, 0, 337, 0, 339, 0, 0, 0, 0, 339, 0, 0, 339, 0]
set_option maxRecDepth 10000 in
def am_pl124 : List Nat := [0, 0, 847, 0, 0, 0, 0, 0, 0, 0, 855, 0, 0, 0, 332, 0, 0, 332, 0, 0, 847, 0, 0, 863, 0, 0, 0]
set_option maxRecDepth 10000 in
def am_pl125 : List Nat := [0, 0, 851, 0, 0, 0, 0, 0, 0, 0, 855, 0, 0, 0, 332, 0, 0, 332, 0, 0, 851, 0, 0, 863, 0, 0, 0]
set_option maxRecDepth 10000 in
def am_pl126 : List Nat := [0, 0, 855, 0, 0, 0, 0, 0, 859, 0, 0, 0, 332, 0, 0, 332, 0, 0, 0, 0, 851, 0, 0, 863, 0, 0, 0, 867, 0, 0, 855, 0, 0, 0, 855, 0, 0, 0, 855, 0, 0, 329, 0, 332, 0, 0, 0, 0, 332, 0, 0, 332, 0, 0, 867, 0, 0, 863, 0]
set_option maxRecDepth 10000 in
def am_pl127 : List Nat := [0, 0, 871, 0, 0, 0, 0, 0, 0, 0, 855, 0, 0, 0, 855, 0, 0, 329, 0, 332, 0, 0, 0, 0, 332, 0, 0, 332, 0, 0, 871, 0, 0, 863, 0, 0, 0]
set_option maxRecDepth 10000 in
def am_pl128 : List Nat := [0, 0, 875, 0, 0, 0, 0, 0, 0, 0, 855, 0, 0, 0, 855, 0, 0, 0, 855, 0, 0, 329, 0, 332, 0, 0, 0, 0, 332, 0, 0, 332, 0, 0, 875, 0, 0, 863, 0, 0, 0]
set_option maxRecDepth 10000 in
def am_pl129 : List Nat := [0, 333, 0, 0, 0, 0, 329, 0, 332, 0, 0, 0, 0, 0, 0, 0, 0, 331, 0, 332, 0, 0, 863, 0, 0, 332, 0, 0, 332, 0, 0, 0, 0, 718, 0, 0, 0, 0, 0, 0, 0, 863, 0, 0, 332, 0, 0, 332, 0, 0, 0, 0, 0, 0, 0, 0, 0, 332, 0, 0, 332, 0, 0, 0, 0, 875, 0, 0, 863, 0, 0, 0, 0, 0, 0, 0, 0, 0, 332, 0, 0, 332, 0, 0, 0, 0, 843, 0, 0, 855, 0, 0, 0, 332, 0, 0, 332, 0, 0, 859, 0, 0, 859, 0]
set_option maxRecDepth 10000 in
def am_pl130 : List Nat := [0, 371, 0, 0, 0, 373, 0, 0, 0, 374, 0, 0, 0, 376, 0, 0, 0, 379, 0, 0, 0, 380, 0, 0, 0, 381, 0, 0, 372, 0]
set_option maxRecDepth 10000 in
def am_pl131 : List Nat := [0, 373, 0, 559, 0, 372, 284, 0, 0, 0, 0, 0, 69, 0, 0, 72, 0, 0, 0, 0, 0, 0, 0, 0, 0, 0, 562, 0, 0, 76, 0, 0, 0, 0, 0, 372, 300, 0, 0, 0, 0, 563, 0, 0, 373, 0, 0, 74, 0, 0, 0, 0, 0, 0, 564, 0]
set_option maxRecDepth 10000 in
def am_pl132 : List Nat := [0, 374, 0, 568, 0, 376, 0, 568, 0, 0, 377, 0, 0, 378, 0, 0, 0, 0, 372, 282, 45, 0, 0, 0, 0, 0, 372, 287, 93, 0, 0, 373, 0, 0, 0, 0, 0, 0, 0, 0, 374, 0, 0, 0, 0, 0, 0, 0, 0, 376, 0, 0, 0, 0, 0, 0, 0, 0, 0, 377, 0, 0, 0, 377, 0, 0, 0, 0, 378, 0, 0, 378, 0, 0, 0, 0, 0]
set_option maxRecDepth 10000 in
def am_pl133 : List Nat := [0, 379, 0, 568, 0, 0, 0, 0, 0, 0, 372, 282, 45, 0, 0, 372, 282, 47, 0, 0, 0, 0, 0, 374, 0, 0, 0, 0, 0, 0, 0, 374, 0, 0, 0, 0, 0, 0, 0, 0, 372, 287, 93, 0, 0, 379, 0, 0, 0, 0, 373, 0, 0, 0, 0, 0, 0, 0, 0, 0, 0, 0, 0, 0, 0, 0]
set_option maxRecDepth 10000 in
def am_pl134 : List Nat := [0, 0, 0, 903, 0, 381, 0, 568, 0, 0, 0, 0, 0, 0, 0, 904, 0, 0, 372, 300, 242, 0, 0, 0, 0, 0, 0, 0, 0, 0, 0, 0, 0, 0, 0, 0, 0, 0, 0, 0, 908, 0, 0, 0]
set_option maxRecDepth 10000 in
def am_pl135 : List Nat := [0, 0, 0, 0, 0, 0, 0, 0, 372, 287, 93, 0, 0, 0, 0, 0, 0, 0, 0, 379, 0, 0, 0, 0, 0, 381, 0, 0, 0, 0, 0, 0, 0, 0, 0, 380, 0, 0, 0, 0, 0, 0, 0, 0, 0, 0, 0, 0, 0, 0, 0, 380, 0, 381, 0, 912, 0]
set_option maxRecDepth 10000 in
def am_pl136 : List Nat := [0, 377, 0, 0, 0, 0, 0, 0, 376, 0, 0, 0, 374, 0, 0, 0, 0, 377, 0, 0, 0, 0, 378, 0, 0, 0, 0, 0, 0, 373, 0, 0, 0, 0, 0, 0, 0, 0, 0, 0, 1089, 0, 0, 0, 0, 0, 0, 0, 0, 0, 0]
set_option maxRecDepth 10000 in
def am_pl137 : List Nat := [0, 0, 0, 0, 0, 0, 0, 0, 0, 904, 0, 0, 0, 0, 0, 0, 379, 0, 0, 0, 0, 0, 0, 0, 1089, 0, 0, 0, 0, 0, 0, 1089, 0, 0, 0, 0, 372, 300, 242, 0, 0, 0, 0, 0, 0, 0, 0, 0, 0, 0, 0, 0, 0, 0, 0, 0]
set_option maxRecDepth 10000 in
def am_pl138 : List Nat := [0, 408, 0, 0, 0, 411, 0, 0, 0, 413, 0, 0, 0, 415, 0, 0, 0, 416, 0, 0, 0, 417, 0, 0, 409, 0, 0, 410, 0]
set_option maxRecDepth 10000 in
def am_pl139 : List Nat := [0, 0, 0, 0, 0, 0, 0, 410, 0, 0, 409, 278, 899, 0, 0, 0, 916, 0, 0, 0, 925, 0]
set_option maxRecDepth 10000 in
def am_pl140 : List Nat := [0, 411, 0, 929, 0, 411, 0, 0, 0, 0]
set_option maxRecDepth 10000 in
def am_pl141 : List Nat := [0, 409, 294, 171, 0, 0, 0, 0, 409, 294, 174, 0, 0, 0, 0, 411, 0, 0, 409, 294, 178, 0, 0, 0, 0, 411, 0, 0, 409, 288, 96, 0, 0, 0, 0, 411, 0, 0, 409, 291, 131, 0, 0, 0, 0, 411, 0, 0, 0, 0, 411, 0, 0, 409, 291, 0, 0, 920, 0, 0, 411, 0, 0, 409, 294, 184, 0, 0, 0, 0, 411, 0, 0, 409, 294, 181, 0, 0, 0, 0, 411, 0, 0, 409, 288, 103, 0, 0, 0, 0, 411, 0, 0, 409, 288, 100, 0, 0, 0, 0, 411, 0, 0, 410, 382, 0, 0, 0, 0, 0]
set_option maxRecDepth 10000 in
def am_pl142 : List Nat := [0, 0, 925, 0, 409, 297, 0, 0, 0, 0, 411, 968, 0, 0, 969, 0]
set_option maxRecDepth 10000 in
def am_pl143 : List Nat := [0, 410, 0, 0, 899, 0, 413, 0, 980, 0, 0, 0, 0, 409, 294, 168, 0, 0, 410, 382, 0, 409, 294, 171, 0, 0, 0, 0, 0, 0, 0, 0, 0, 0, 981, 0, 0, 409, 291, 0, 413, 0, 409, 294, 174, 0, 0, 0, 0, 0, 989, 0, 0, 0]
set_option maxRecDepth 10000 in
def am_pl144 : List Nat := [0, 409, 297, 0, 0, 0, 0, 916, 0, 0, 0, 0, 0, 411, 968, 0, 0, 0, 0, 409, 294, 171, 0, 0, 0, 0, 0, 0, 0, 0, 411, 968, 0, 0, 969, 0, 0, 985, 0, 0, 409, 291, 131, 0, 409, 294, 174, 0, 0, 0, 0, 0, 0, 0, 0, 0, 411, 968, 0, 0, 969, 0, 0, 0, 410, 382, 0, 0, 986, 0, 409, 288, 96, 0, 0, 0, 0, 0, 0, 409, 294, 181, 0, 0, 0, 0, 0, 0, 0, 0, 988, 0, 0]
set_option maxRecDepth 10000 in
def am_pl145 : List Nat := [0, 0, 0, 0, 0, 0, 0, 0, 920, 0, 0, 0, 140, 0, 0, 0, 0, 0, 0, 0, 0, 0, 0, 0, 0, 0, 0, 0, 126, 0, 0, 143, 0, 0, 0, 0, 0, 0, 0, 0, 0, 0, 0, 0, 0, 0, 0, 0, 0, 0, 985, 0, 0, 0, 0, 0, 989, 0, 0, 0]
set_option maxRecDepth 10000 in
def am_pl146 : List Nat := [0, 0, 925, 0, 409, 297, 0, 0, 0, 0, 411, 968, 0, 0, 0, 409, 297, 0, 0, 0, 0, 411, 968, 0, 0, 0, 0, 0, 0, 0, 0, 415, 0, 0, 0, 0, 417, 0, 0, 413, 0, 0, 0, 0, 0, 0, 0, 0, 0, 0, 0, 0, 0, 0, 0, 0, 0, 0, 0, 996, 0, 0, 1004, 0, 0, 0, 0, 0, 0, 0, 0, 415, 0, 0, 0, 0, 0, 0, 415, 0, 0, 0, 0, 0, 415, 0, 0, 0, 0, 0, 0, 0, 0]
set_option maxRecDepth 10000 in
def am_pl147 : List Nat := [0, 0, 0, 0, 0, 0, 0, 0, 0, 0, 0, 0, 1000, 0, 0, 0, 0, 0, 0, 0, 0, 0, 0, 0, 417, 0, 0, 0, 0, 0, 413, 0, 0, 0, 0, 0, 0, 0, 0, 0, 415, 0, 0, 0, 0, 417, 0, 0, 0, 0, 0, 0, 0, 0, 0, 0, 0, 0, 0, 0, 0]
set_option maxRecDepth 10000 in
def am_pl148 : List Nat := [0, 1000, 0, 0, 0, 0, 0, 0, 0, 0, 0, 0, 0, 0, 0, 0, 416, 0, 1008, 0, 0, 417, 0, 0, 0, 0, 415, 0, 0, 0, 413, 0, 0, 0, 0, 0, 0, 0, 416, 0, 0, 0, 413, 0, 0, 0, 0, 0, 0, 0, 0, 415, 0, 0, 0, 0, 0, 0, 0, 0, 416, 0, 415, 0, 1009, 0]
set_option maxRecDepth 10000 in
def am_pl149 : List Nat := [0, 0, 0, 0, 0, 0, 0, 0, 417, 0, 0, 0, 0, 0, 413, 0, 0, 0, 0, 0, 0, 0, 0]
set_option maxRecDepth 10000 in
def am_pl150 : List Nat := [0, 0, 0, 0, 976, 0, 0, 409, 302, 248, 0, 0, 0, 0, 992, 0, 0, 415, 0, 0, 0]
set_option maxRecDepth 10000 in
def am_pl151 : List Nat := [0, 0, 0, 0, 0, 409, 302, 248, 0, 0, 0, 0, 0, 0, 0, 0, 0, 0, 0, 976, 0, 0, 409, 302, 248, 0, 0, 0, 0, 992, 0, 0, 0, 1010, 0, 0, 0, 0, 0, 0, 0, 0, 0, 0, 0, 0, 0, 0, 0, 0, 0, 415, 0, 0, 0, 0, 0, 0, 0, 0, 415, 0, 0, 0, 0, 409, 302, 0, 0, 0, 0, 1017, 0, 0, 0, 0, 0, 0, 0, 0]
set_option maxRecDepth 10000 in
def am_pl152 : List Nat := [0, 0, 0, 0, 409, 291, 126, 0, 0, 415, 0, 409, 291, 140, 0, 0, 0, 0, 0, 409, 302, 255, 0, 0, 0, 0, 0, 0, 0, 0, 0, 0, 0, 0, 0, 0, 0, 0, 0, 0, 415, 0, 0, 0, 415, 0, 0, 1014, 0, 0, 0, 415, 0, 0, 0, 0, 0, 0, 0, 0]
set_option maxRecDepth 10000 in
def am_pl153 : List Nat := [0, 0, 0, 0, 976, 0, 409, 302, 248, 0, 0, 0, 0, 409, 302, 253, 0, 0, 0, 0, 0, 992, 0, 0, 0, 0, 0, 0, 0, 409, 302, 0, 0, 0, 0, 415, 0, 0, 1017, 0, 0, 0]
set_option maxRecDepth 10000 in
def am_pl154 : List Nat := [0, 1188, 0, 0, 0, 1209, 0, 0, 0, 1210, 0, 0, 0, 1211, 0, 0, 0, 1212, 0, 0, 0, 1214, 0, 0, 0, 0, 0, 0, 0, 0, 0, 0, 0, 0, 0, 0, 0, 0, 0, 0, 0, 0, 0, 0, 0, 0, 0, 0, 0, 1215, 0, 0, 0, 1216, 0, 0, 1218, 0, 0, 0, 1219, 0, 0, 0, 0, 0, 1189, 0, 0, 0, 1190, 0, 0, 0, 1191, 0, 0, 0, 1192, 0, 0, 0, 1193, 0, 0, 0, 1194, 0, 0, 0, 1195, 0, 0, 0, 1196, 0, 0, 0, 1197, 0, 0, 0, 1198, 0, 0, 0, 1199, 0, 0, 0, 1200, 0, 0, 0, 1201, 0, 0, 0, 1202, 0, 0, 0, 1203, 0, 0, 0, 1204, 0, 0, 0, 1205, 0, 0, 0, 1206, 0, 0, 0, 1207, 0, 0, 0, 1208, 0, 1228, 0, 0, 0, 1229, 0, 0, 0, 1230, 0, 0, 1231, 0, 0, 0, 1233, 0, 0, 0, 1234, 0, 0, 0, 1235, 0, 0, 0, 1236, 0, 0, 0, 1237, 0, 0, 0, 1238, 0, 0, 0, 1240, 0]
set_option maxRecDepth 10000 in
def am_pl155 : List Nat := [0, 0, 0, 0, 0, 0, 0, 0, 0, 0]
set_option maxRecDepth 10000 in
def am_pl156 : List Nat := [0, 1214, 0, 0, 0, 0, 0, 0, 0, 0, 0]
set_option maxRecDepth 10000 in
def am_pl157 : List Nat := [0, 0, 1314, 0, 0, 0]
set_option maxRecDepth 10000 in
def am_pl158 : List Nat := [0, 0, 0, 1209, 0, 0, 0, 0, 1310, 0]
set_option maxRecDepth 10000 in
def am_pl159 : List Nat := [0, 0, 0, 1209, 0, 0, 0, 0, 1310, 0]
set_option maxRecDepth 10000 in
def am_pl160 : List Nat := [0, 0, 0, 1209, 0, 0, 0, 0, 1310, 0]
set_option maxRecDepth 10000 in
def am_pl161 : List Nat := [0, 0, 0, 1209, 0, 0, 1310, 0]
set_option maxRecDepth 10000 in
def am_pl162 : List Nat := [0, 0, 0, 1209, 0, 0, 0, 0, 1310, 0]
set_option maxRecDepth 10000 in
def am_pl163 : List Nat := [0, 1209, 0, 0, 0, 0, 0, 0, 0, 0, 0, 0, 0, 0, 0, 0]
set_option maxRecDepth 10000 in
def am_pl164 : List Nat := [0, 0, 0, 1310, 0, 0, 0, 1313, 1310, 0, 0, 0, 1314, 0, 0, 1209, 0, 0, 0, 0, 0, 0, 1314, 0, 0, 1209, 0, 0, 1209, 0, 0, 0, 0, 0, 0, 1209, 0, 0, 1209, 0, 0, 0, 0, 0, 0, 1209, 0, 0, 0, 0, 0, 0, 0, 1209, 0, 0, 0, 0, 0]
set_option maxRecDepth 10000 in
def am_pl165 : List Nat := [0, 0, 0, 0, 0, 1209, 0, 0, 0, 0, 0, 0, 0, 0, 0, 0, 0, 0, 1209, 0, 0, 0, 0, 0, 0, 1209, 0, 0, 0, 0, 0, 1209, 0, 0, 0, 0, 0, 0, 0, 0, 0, 0, 0, 0, 0, 1314, 0, 0, 1209, 0, 0, 1209, 0, 0, 0, 0, 0, 0, 0, 0, 0, 0, 0, 1209, 0, 0, 0, 0, 0, 0, 0, 0, 0, 0, 0, 0, 0, 0, 0]
set_option maxRecDepth 10000 in
def am_pl166 : List Nat := [0, 0, 0, 1310, 0, 0, 0, 1314, 0, 0, 0, 1326, 1310, 0, 0, 0, 1314, 0, 0, 0, 0, 1209, 0, 0, 0, 0, 0, 0, 0, 0, 1209, 0, 0, 0, 0, 1209, 0, 0, 0, 0, 0]
set_option maxRecDepth 10000 in
def am_pl167 : List Nat := [0, 0, 0, 0, 0, 0, 1209, 0, 0, 0, 0, 1209, 0, 0, 0, 0, 0, 0, 0, 1209, 0, 0, 0, 0, 0, 0, 0, 1209, 0, 0, 0, 0, 0, 0, 0, 0, 0, 0, 0, 0, 0, 0, 0, 0, 1209, 0, 0, 0, 0, 0, 1209, 0, 0, 0, 0, 0, 0, 0, 0, 0, 0, 0, 0, 0]
set_option maxRecDepth 10000 in
def am_pl168 : List Nat := [0, 0, 0, 0, 1347, 0, 0, 0, 0, 0, 0, 0, 1209, 0, 0, 0, 0, 0]
set_option maxRecDepth 10000 in
def am_pl169 : List Nat := [0, 0, 0, 0, 1209, 0, 0, 1347, 0, 0, 0, 0, 0, 1209, 0, 0, 0, 0, 0, 1209, 0, 0, 0, 0, 1209, 0, 0, 0, 0, 0, 0, 0, 1209, 0, 0, 0, 0, 1209, 0, 0, 0, 0, 0, 0, 0, 1209, 0, 0, 0, 0, 0, 0, 1209, 0, 0, 0, 0, 0, 0, 1209, 0, 0, 0, 0, 1209, 0, 0, 0, 0, 1209, 0, 0, 0, 0, 0, 0, 0]
set_option maxRecDepth 10000 in
def am_pl170 : List Nat := [0, 0, 1331, 0, 0, 0, 1335, 0, 0, 0, 1314, 0, 0, 0, 1209, 0, 0, 0, 1339, 0, 0, 0, 1314, 0, 0, 0, 1313, 1310, 0, 0, 0, 1314, 0, 0, 0, 1209, 0, 0, 0, 0, 0, 0, 0, 0, 1209, 0, 0, 1343, 0, 0, 0, 0, 1326, 0, 0, 0, 1209, 0, 0, 0, 0, 0, 0, 0, 0, 1351, 0, 0, 0, 1314, 0, 0, 0]
set_option maxRecDepth 10000 in
def am_pl171 : List Nat := [0, 0, 1359, 0, 0, 0, 1331, 0, 0, 0, 1335, 0, 0, 0, 1314, 0, 0, 0, 0, 1339, 0, 0, 0, 1314, 0, 0, 0, 1326, 1310, 0, 0, 0, 1314, 0, 0, 0, 0, 0, 0, 0, 0, 0, 1209, 0, 0, 1343, 0, 0, 0, 0, 0, 0, 0, 0, 0, 1351, 0, 0, 0, 0, 0, 1314, 0]
set_option maxRecDepth 10000 in
def am_pl172 : List Nat := [0, 0, 1367, 0, 0, 0, 0, 0, 0, 0, 1331, 0, 0, 0, 0, 0, 1335, 0, 0, 0, 1367, 0, 0, 0, 1371, 0, 0, 0, 0, 0, 1343, 0]
set_option maxRecDepth 10000 in
def am_pl173 : List Nat := [0, 0, 1331, 0, 0, 0, 1314, 0, 0, 0, 0, 0, 0, 1209, 0, 0, 0, 0, 0, 0, 1209, 0, 0, 0, 0, 0, 0, 0, 1209, 0, 0, 0, 1339, 0, 0, 0, 0, 0, 0, 0, 0, 0, 1209, 0, 0, 0, 0, 0, 0, 1209, 0, 0, 0, 0, 0, 0, 0, 0, 1209, 0, 0, 1343, 0, 0, 0, 0, 0, 0, 0, 0, 1314, 0]
set_option maxRecDepth 10000 in
def am_pl174 : List Nat := [0, 0, 1367, 0, 0, 0, 1371, 0, 0, 0, 0, 0, 1310, 0, 0, 0, 1371, 0, 0, 0, 0, 0, 1209, 0, 0, 0, 0, 0, 0, 0, 0, 0, 0, 1209, 0, 0, 0, 0, 0, 0, 0, 0, 0, 0, 0, 0, 0, 0, 0, 0, 1209, 0, 0, 0, 0, 0, 0, 0, 1211, 0, 0, 0, 0, 0, 0, 0, 0, 0]
set_option maxRecDepth 10000 in
def am_pl175 : List Nat := [0, 0, 0, 1310, 0, 0, 0, 0, 1310, 0, 0, 0, 0, 1209, 0, 0, 1310, 0, 0, 0, 1314, 0, 0, 1209, 0, 0, 0, 0, 0, 0, 1314, 0, 0, 1209, 0, 0, 0, 0, 1209, 0, 0, 0, 0, 0, 0, 1209, 0, 0, 0, 0, 0, 0, 1209, 0, 0, 0, 0, 0, 0, 1209, 0, 0, 0, 0, 0, 0, 1209, 0, 0, 0, 0, 0, 0, 0, 0]
set_option maxRecDepth 10000 in
def am_pl176 : List Nat := [0, 0, 0, 1310, 0, 0, 0, 0, 1310, 0, 0, 0, 0, 1209, 0, 0, 1310, 0, 0, 0, 1314, 0, 0, 1209, 0, 0, 0, 0, 0, 0, 1314, 0, 0, 1209, 0, 0, 0, 0, 1209, 0, 0, 0, 0, 0, 0, 1209, 0, 0, 0, 0, 0, 0, 1209, 0, 0, 0, 0, 0, 0, 1209, 0, 0, 0, 0, 0, 0, 1209, 0, 0, 0, 0, 0, 0, 1209, 0, 0, 0, 0, 0, 0, 0, 0]
set_option maxRecDepth 10000 in
def am_pl177 : List Nat := [0, 0, 1395, 0, 0, 0, 1371, 0, 0, 0, 0, 1209, 0, 0, 1310, 0, 0, 0, 1209, 0, 0, 0, 0, 0, 0, 0, 1371, 0, 0, 1209, 0, 0, 0, 0, 0, 0, 1209, 0, 0, 0, 0, 0, 0, 0]
set_option maxRecDepth 10000 in
def am_pl178 : List Nat := [0, 0, 0, 0, 0, 0, 1209, 0, 0, 0, 0, 0, 1209, 0, 0, 0, 0, 0, 0, 0, 0, 0, 0, 0, 0, 0, 0]
set_option maxRecDepth 10000 in
def am_pl179 : List Nat := [0, 0, 1395, 0, 0, 0, 1395, 0, 0, 0, 1314, 0, 0, 1209, 0, 0, 0, 0, 0, 0, 0, 0, 0, 0, 0, 0, 0, 0, 0, 1310, 0, 0, 0, 1403, 0, 0, 0, 0, 0, 0, 0, 0, 1314, 0, 0, 1209, 0, 0, 0, 0, 0, 0, 0, 0, 0, 0, 0]
set_option maxRecDepth 10000 in
def am_pl180 : List Nat := [0, 0, 0, 0, 0, 0, 1209, 0, 0, 0, 0, 0, 1209, 0, 0, 0, 0, 0, 0, 0, 1209, 0, 0, 0, 0, 0, 0, 0, 0, 0, 0, 0, 0]
set_option maxRecDepth 10000 in
def am_pl181 : List Nat := [0, 0, 1335, 0, 0, 0, 0, 0, 0, 0, 1395, 0, 0, 0, 1314, 0, 0, 0, 0, 0, 0, 0, 0, 0, 1310, 0, 0, 0, 1314, 0, 0, 1209, 0, 0, 0, 0, 0, 0, 1411, 0, 0, 0, 0, 0, 0, 1314, 0, 0, 1209, 0, 0, 0, 0, 1209, 0, 0, 0, 0, 0, 0, 1209, 0, 0, 0, 0, 0, 0, 0, 0, 1209, 0, 0, 0, 0, 0, 0, 0, 0, 1209, 0, 0, 0, 0, 0, 0, 1209, 0, 0, 0, 0, 1209, 0, 0, 0, 0, 1209, 0, 0, 0, 0, 0, 0, 0, 0]
set_option maxRecDepth 10000 in
def am_pl182 : List Nat := [0, 0, 1335, 0, 0, 0, 1371, 0, 0, 0, 0, 1310, 0, 0, 0, 1371, 0, 0, 0, 0, 0, 0, 1411, 0, 0, 1209, 0, 0, 0, 0, 0, 0, 0, 0, 0]
set_option maxRecDepth 10000 in
def am_pl183 : List Nat := [0, 0, 1395, 0, 0, 0, 1371, 0, 0, 0, 0, 1310, 0, 0, 0, 1371, 0, 0, 0, 0, 0, 0, 1403, 0, 0, 1209, 0, 0, 0, 0, 0, 0, 0, 0, 0]
set_option maxRecDepth 10000 in
def am_pl184 : List Nat := [0, 0, 0, 1209, 0, 0, 0, 0, 1310, 0, 0, 0, 1314, 0, 0, 0, 0, 1310, 0, 0, 1209, 0, 0, 0, 0, 0, 0, 0, 0, 0, 0, 0, 1314, 0]
set_option maxRecDepth 10000 in
def am_pl185 : List Nat := [0, 1209, 0, 0, 0, 0, 0, 0, 0, 1209, 0, 0, 0, 0, 0, 0, 0, 0, 0]
set_option maxRecDepth 10000 in
def am_pl186 : List Nat := [0, 0, 0, 0, 1209, 0, 0, 0, 0, 1209, 0, 0, 1209, 0, 0, 0, 0, 0, 0, 0, 0, 0, 0, 1439, 0, 0, 0, 0, 0, 1209, 0, 0, 0, 0, 0, 0, 0, 0, 0, 0, 0, 0]
set_option maxRecDepth 10000 in
def am_pl187 : List Nat := [0, 0, 0, 0, 0, 0, 0, 0, 0, 0, 1209, 0, 0, 0, 0, 0, 0, 0, 0, 1439, 0, 0, 0, 0, 0, 0, 0, 0, 0, 0, 1439, 0, 0, 0, 0, 0, 0, 0, 0, 0, 1209, 0, 0, 0, 0, 0, 0, 0, 0, 1439, 0, 0, 0, 0, 1439, 0, 0, 0, 1443, 0, 0, 1443, 0, 0, 0, 0, 0, 0, 0, 0, 0, 0, 1209, 0, 0, 0, 0, 0, 1209, 0, 0, 0, 0, 0, 0, 0, 0, 0, 0, 0, 0, 0, 0, 1447, 0, 0, 0, 0, 1447, 0, 0, 0, 0, 0, 0, 0, 0, 0, 0, 0, 0, 0, 0, 0]
set_option maxRecDepth 10000 in
def am_pl188 : List Nat := [0, 1209, 0, 0, 1209, 0, 0, 0, 0, 0, 0, 0]
set_option maxRecDepth 10000 in
def am_pl189 : List Nat := [0, 1209, 0, 0, 0, 0, 0, 0, 0, 1209, 0, 0, 0, 0, 0, 0, 0, 1209, 0, 0, 0, 0, 0, 1209, 0, 0, 0, 0, 0, 0, 0, 0, 0]
set_option maxRecDepth 10000 in
def am_pl190 : List Nat := [0, 1209, 0, 0, 0, 0, 0, 0, 0, 1209, 0, 0, 0, 0, 0, 0, 0, 0, 0, 0, 0, 1209, 0, 0, 0, 0, 0, 1209, 0, 0, 0, 0, 0, 0, 0, 0, 1209, 0, 0, 0, 0, 0, 1209, 0, 0, 0, 0, 0, 0, 0, 0, 1455, 0, 0, 0, 0, 1455, 0, 0, 0, 0, 0, 0, 0, 0, 0, 0, 0, 0, 0, 0, 0]
set_option maxRecDepth 10000 in
def am_pl191 : List Nat := [0, 0, 0, 0, 1335, 0, 0, 0, 1335, 0, 0, 0, 0, 0, 0, 0, 1395, 0, 0, 0, 1395, 0, 0, 0, 0, 0]
set_option maxRecDepth 10000 in
def am_pl192 : List Nat := [0, 0, 0, 1310, 0, 0, 0, 1314, 0, 0, 0, 0, 0, 1431, 0, 0, 0, 1314, 0, 0, 0, 0, 0, 0, 1314, 0, 0, 0, 0, 0, 0, 1435, 0, 0, 0, 0, 1451, 0]
set_option maxRecDepth 10000 in
def am_pl193 : List Nat := [0, 0, 0, 1310, 0, 0, 0, 1314, 0, 0, 0, 0, 0, 1431, 0, 0, 0, 1314, 0, 0, 0, 0, 0, 0, 0, 0, 0, 1435, 0, 0, 0, 0, 1451, 0, 0, 0, 1314, 0, 0, 0, 0, 0, 0, 0, 0, 1209, 0, 0, 0, 0, 0, 0, 1209, 0, 0, 0, 0, 0, 0, 0, 0, 0, 0, 0, 0, 0, 0, 0, 0, 0, 0, 0, 0, 0, 0, 0, 1209, 0, 0, 0, 0, 0, 0, 0, 0, 1209, 0, 0, 0, 0, 0, 0, 0, 1209, 0, 0, 0, 0, 0, 0, 0, 0, 0, 0, 0, 1209, 0, 0, 0, 0, 0, 0, 0, 0, 1209, 0, 0, 0, 0, 0, 0, 0, 0, 0]
set_option maxRecDepth 10000 in
def am_pl194 : List Nat := [0, 0, 0, 0, 1314, 0, 0, 0, 0, 0, 0, 1314, 0, 0, 1217, 0, 0, 0, 0, 0, 0, 1314, 0, 0, 0, 0, 0, 0, 0, 0, 1216, 0, 1217, 0, 0, 0, 0, 0, 0, 0, 0, 0, 0, 1217, 0, 0, 1217, 0, 0, 0, 1217, 0]
set_option maxRecDepth 10000 in
def am_pl195 : List Nat := [0, 1217, 0, 0, 0, 1217, 0, 0]
set_option maxRecDepth 10000 in
def am_pl196 : List Nat := [0, 0, 0, 0, 0, 1220, 0, 1217, 0, 0, 1216, 0, 1220, 0, 0, 0, 1310, 0, 0, 0, 0, 0, 0, 0, 0, 1216, 0, 1220, 0, 0, 0, 0, 0, 0, 0, 0, 0, 1220, 0, 0, 1220, 0, 0, 0, 0, 0, 0, 0, 0, 0, 0, 1228, 0, 0, 0, 0, 0, 0, 0, 0, 0, 0, 0, 0, 0, 0, 0, 0, 0, 0, 0, 0, 0, 0, 0, 0, 0, 0, 0, 0, 1222, 0, 0, 0, 0, 0, 0, 0, 0, 0, 1223, 0]
set_option maxRecDepth 10000 in
def am_pl197 : List Nat := [0, 1220, 0, 1217, 0, 0, 1216, 0, 1220, 0, 0, 0, 0, 0, 1220, 0, 0, 1220, 0, 0, 0, 1220, 1221, 0, 0, 1222, 0, 0, 1223, 0, 1220, 0, 1217, 0, 0, 0, 1216, 0, 1220, 0, 0, 0, 0, 0, 1310, 0, 0, 1479, 0, 0, 0, 0, 1310, 0, 0, 0, 0, 1220, 0, 1217, 0, 0, 1216, 0, 1220, 0, 0, 0, 1310, 0, 0, 0, 0, 0, 0, 0, 1223, 0, 0, 1216, 0, 1220, 0, 0, 0, 0, 0, 0, 1223, 0, 0, 0, 1220, 0, 0, 1220, 0, 0, 0, 0, 0, 0, 0, 0, 1222, 0, 0, 0, 0, 0, 0, 0, 0, 0, 0, 0, 0, 0, 0, 0, 0, 0, 0, 0, 0, 0, 0, 0, 0, 0, 0, 0, 0, 0, 0, 0, 0, 0, 0, 0, 0, 0, 0, 0, 0, 0, 1222, 0, 0, 1220, 0, 0, 1220, 0]
set_option maxRecDepth 10000 in
def am_pl198 : List Nat := [0, 1209, 0, 1226, 0, 1225, 0, 0, 0, 0, 0, 1225, 0, 0, 1225, 0]
set_option maxRecDepth 10000 in
def am_pl199 : List Nat := [0, 1224, 0, 0, 0, 0, 1227, 0, 0, 0, 0, 1224, 0, 0, 1224, 0, 1475, 0, 0]
set_option maxRecDepth 10000 in
def am_pl200 : List Nat := [0, 1487, 0, 1227, 0, 0, 1222, 0, 0, 0, 1475, 0, 1487, 0, 0, 1499, 0, 0]
set_option maxRecDepth 10000 in
def am_pl201 : List Nat := [0, 1491, 0, 1227, 0, 0, 1222, 0, 0, 0, 1475, 0, 1491, 0, 0, 1499, 0, 0]
set_option maxRecDepth 10000 in
def am_pl202 : List Nat := [0, 1227, 0, 0, 0, 1222, 0, 0, 0, 1495, 0, 0, 1491, 0, 0, 1499, 0, 0, 1224, 0, 0, 1224, 0, 0, 1503, 0, 1227, 0, 0, 1222, 0, 0, 0, 1222, 0, 0, 0, 1222, 0, 0, 0, 1222, 0, 0, 0, 0, 0, 1222, 0, 0, 0, 0, 0, 0, 0, 1475, 0, 1503, 0, 0, 1499, 0]
set_option maxRecDepth 10000 in
def am_pl203 : List Nat := [0, 1507, 0, 1227, 0, 0, 1222, 0, 0, 0, 1222, 0, 0, 0, 1222, 0, 0, 0, 0, 0, 0, 0, 1475, 0, 1507, 0, 0, 1499, 0, 0]
set_option maxRecDepth 10000 in
def am_pl204 : List Nat := [0, 1511, 0, 1227, 0, 0, 1222, 0, 0, 0, 1222, 0, 0, 0, 1222, 0, 0, 0, 1222, 0, 0, 0, 0, 0, 1222, 0, 0, 0, 0, 0, 0, 0, 1475, 0, 1511, 0, 0, 1499, 0, 0]
set_option maxRecDepth 10000 in
def am_pl205 : List Nat := [0, 1227, 0, 0, 0, 1222, 0, 0, 0, 1222, 0, 0, 0, 0, 1222, 0, 0, 0, 0, 1223, 0, 0, 0, 1223, 1499, 0, 1475, 0, 0, 1222, 0, 0, 0, 1495, 0, 0, 1511, 0, 0, 1499, 0, 0, 1224, 0, 0, 1224, 0, 0, 1222, 0, 0, 0, 1495, 0, 0, 1483, 0, 1515, 0, 0, 0, 1227, 0]
set_option maxRecDepth 10000 in
def am_pl206 : List Nat := [0, 1227, 0, 0, 1222, 0, 0, 0, 0, 1227, 0, 0, 0, 1224, 0, 0, 1224, 0, 1475, 0]
set_option maxRecDepth 10000 in
def am_pl207 : List Nat := [0, 0, 0, 1310, 0, 0, 0, 0, 0, 0, 1310, 0, 0, 0, 1314, 0, 0, 1209, 0, 0, 0, 0, 0, 0, 1314, 0, 0, 1209, 0, 0, 0, 0, 0, 1220, 0, 0, 1225, 0, 0, 1224, 0, 0, 1227, 0, 0, 0, 0, 0, 0, 1226, 0, 1475, 0, 1223, 0, 0, 0, 1222, 0, 0, 0, 0, 0, 1227, 0, 1227, 0, 0, 1475, 0, 1483, 0, 1225, 0, 0, 1227, 0, 0, 1222, 0, 0, 0, 1475, 0, 1483, 0, 1227, 0, 0, 1222, 0, 0, 0, 1221, 0, 0, 0, 0, 1217, 0, 1209, 0, 0, 0, 0, 0, 0, 1209, 0, 0, 0, 0, 0, 0, 1209, 0, 0, 0, 0, 0, 0, 1209, 0, 0, 0, 0, 0, 0, 1209, 0, 0, 0, 0, 1225, 0, 0, 1209, 0, 0, 0, 0, 0, 0, 0, 0]
set_option maxRecDepth 10000 in
def am_pl208 : List Nat := [0, 0, 0, 0, 0, 0, 0, 0, 0, 0, 0, 0, 0, 0, 0, 0, 0, 0, 0, 0, 0, 0, 0, 0, 0, 0, 0, 0, 0, 0, 0, 0, 0, 0, 0, 0, 0, 0, 0, 0, 0, 0, 0, 0, 0, 0, 0, 0, 0, 0, 0, 0, 0, 0, 0, 0, 0, 0, 0, 0, 0, 0, 0, 0, 0, 0, 0]
set_option maxRecDepth 10000 in
def am_pl209 : List Nat := [0, 0, 0, 0, 0, 0, 0, 0, 1209, 0, 0, 0, 0, 0, 0, 0, 0, 0, 0, 0, 0, 0, 0, 0, 0, 1230, 0, 0, 0, 0, 0, 1229, 0, 0, 0, 0, 0, 0, 0, 0, 0, 0, 0, 0, 0, 1230, 0, 0, 0, 0, 1230, 0, 0, 0, 0, 0, 0, 0, 0, 0, 0, 0, 0, 0, 0, 1230, 0, 0, 0, 0, 1230, 0, 0, 0, 0, 0, 0, 0, 0, 0, 1230, 0, 0, 0, 0, 0, 1230, 0, 0, 0, 0, 0, 1230, 0, 0, 1551, 0, 0, 0, 0, 1230, 0, 0, 0]
set_option maxRecDepth 10000 in
def am_pl210 : List Nat := [0, 0, 0, 0, 0, 0, 1229, 0, 0, 0, 0, 0, 0, 1229, 0, 0, 0, 0, 0, 0, 0, 0, 0, 1209, 0, 0, 0, 0, 0, 0, 1209, 0, 0, 0, 0, 0, 0, 1209, 0, 0, 0, 0, 0, 0, 1229, 0, 0, 1209, 0, 0, 0, 0, 0, 0, 1229, 0, 0, 1209, 0, 0, 0, 0, 0, 0, 1229, 0, 0, 1209, 0, 0, 0, 0, 0, 0, 1229, 0, 0, 0, 0, 0, 0, 0, 0, 0, 0, 0, 0, 0, 0, 1229, 0, 0, 1209, 0, 0, 0, 0, 0, 0, 1229, 0, 0, 1209, 0, 0, 0, 0, 0, 0, 1229, 0, 0, 1209, 0, 0, 0, 0, 0, 0, 1229, 0, 0, 1209, 0, 0, 0, 0, 0, 0, 1229, 0, 0, 1233, 0, 0, 0, 0]
set_option maxRecDepth 10000 in
def am_pl211 : List Nat := [0, 0, 0, 0, 1543, 0, 0, 0, 0, 0, 0, 0, 0, 0, 0, 0, 0, 0, 1232, 0, 0, 0, 0, 1209, 0, 0, 0, 0, 0, 1231, 0, 0, 1209, 0, 0, 0, 0, 0, 0, 0, 0, 1209, 0, 0, 0, 0, 0, 0, 0, 1209, 0, 0, 0, 0, 0, 0, 1209, 0, 0, 0, 0, 0, 1209, 0, 0, 0, 0, 0, 0, 0, 0, 1209, 0, 0, 0, 0, 0, 1209, 0, 0, 0, 0, 1547, 0, 0, 0, 0, 0, 0, 0, 0, 0, 0, 0, 0, 0, 0, 0, 0, 0, 0, 1209, 0, 0, 0, 0, 1547, 0, 0, 1232, 1232, 0, 0, 0, 0]
set_option maxRecDepth 10000 in
def am_pl212 : List Nat := [0, 0, 0, 1310, 0, 0, 0, 1367, 0, 0, 0, 0, 1209, 0, 0, 0, 0, 1310, 0, 0, 0, 0, 0]
set_option maxRecDepth 10000 in
def am_pl213 : List Nat := [0, 0, 0, 0, 1523, 0, 0, 0, 1371, 0, 0, 0, 0, 1209, 0, 0, 1527, 0, 0, 0, 0, 1539, 0, 0, 1232, 0]
set_option maxRecDepth 10000 in
def am_pl214 : List Nat := [0, 0, 0, 0, 1523, 0, 0, 0, 1314, 0, 0, 0, 0, 1209, 0, 0, 1527, 0, 0, 0, 0, 1539, 0]
set_option maxRecDepth 10000 in
def am_pl215 : List Nat := [0, 0, 0, 0, 0, 0, 1209, 0, 0, 0, 0, 0, 0, 0, 1339, 0, 0, 1209, 0, 0, 0, 0, 0, 0, 0, 0, 0, 0, 0, 0, 0, 0, 1343, 0, 0, 0, 0, 0, 0, 0, 0, 0]
set_option maxRecDepth 10000 in
def am_pl216 : List Nat := [0, 0, 0, 0, 1209, 0, 0, 0, 0, 1233, 0, 0, 0, 0, 0, 0, 0, 0, 0, 0, 0, 0, 0, 0, 0, 0, 1209, 0, 0, 0, 0, 1234, 0, 0, 0, 0, 0, 0, 1531, 0, 0, 0, 1234, 0, 0, 0, 0, 0, 0, 0, 0, 0, 0, 0, 0, 1209, 0, 0, 0, 0, 0, 0, 0, 0, 0, 1535, 0, 0, 0]
set_option maxRecDepth 10000 in
def am_pl217 : List Nat := [0, 0, 0, 0, 0, 0, 1209, 0, 0, 0, 0, 1235, 0, 0, 0, 0, 1234, 0, 0, 0, 0, 0, 0, 0, 0, 0, 1235, 0, 0, 0, 0, 0, 0, 0, 0, 0, 0, 0, 0, 0, 0, 0, 0, 0, 1209, 0, 0, 0, 0, 1235, 0, 0, 0, 0, 0, 0, 1234, 0, 0, 0, 0, 0, 0, 0, 0, 0, 0, 1234, 0, 0, 0, 0, 0, 0, 0, 0, 0, 0, 0, 0, 0, 0, 0, 0, 0, 0, 0, 0, 1234, 0, 0, 0, 0, 0, 0, 0, 0, 1234, 0, 0, 0, 0, 0, 0, 0, 0, 0, 0, 0, 0, 0, 0, 1235, 0, 0, 0, 0, 0, 0, 0, 0, 0, 0, 0, 0, 1209, 0, 0, 0, 0, 1233, 0, 0, 0, 0, 1235, 0, 0, 0, 0, 0, 0, 0]
set_option maxRecDepth 10000 in
def am_pl218 : List Nat := [0, 0, 0, 0, 0, 0, 0, 0, 0, 0, 0]
set_option maxRecDepth 10000 in
def am_pl219 : List Nat := [0, 1209, 0, 0, 0, 0, 0, 0, 0, 1209, 0, 0, 0, 0, 0, 0, 0, 0, 0, 0]
set_option maxRecDepth 10000 in
def am_pl220 : List Nat := [0, 0, 0, 1586, 0, 0, 1236, 0, 1209, 0, 0, 0, 0, 0, 0, 0, 0, 0, 0, 0, 0, 0, 0, 0, 0, 1209, 0, 0, 0, 0, 1209, 0, 0, 0, 0, 0, 0, 0, 0, 0, 0, 0, 0, 0, 0, 1209, 0, 0, 0, 0, 0, 0, 0, 0, 0, 0, 1590, 0, 0, 0, 0, 1582, 0, 0, 0]
set_option maxRecDepth 10000 in
def am_pl221 : List Nat := [0, 0, 0, 1527, 0, 0, 0, 0, 0, 0, 1236, 0, 0, 0, 0, 0, 0, 0, 0, 0, 1209, 0, 0, 0, 0, 0, 0, 0, 1539, 0, 0, 1232, 0, 0, 1209, 0, 0, 0, 0, 0, 0, 1209, 0, 0, 0, 0, 0, 0, 0, 0, 0, 1539, 0, 0, 1232, 1578, 0, 0, 0, 0, 0, 1539, 0, 0, 1209, 0, 0, 0, 0, 0, 0, 0, 0, 1232, 1578, 0, 0, 0, 0, 0, 1233, 0, 0, 0, 0, 1215, 0, 1209, 0, 0, 0, 0, 0, 0, 0, 0, 1209, 0, 0, 0, 0, 0, 0, 0, 0, 0, 0, 0, 0, 1581, 0, 0, 1582, 0, 0, 0]
set_option maxRecDepth 10000 in
def am_pl222 : List Nat := [0, 0, 0, 0, 0, 0, 0, 0, 0, 0, 1237, 0, 0, 0, 0, 1238, 0, 0, 1236, 0, 0, 0, 0, 0, 0, 0, 0, 0, 0, 0, 1236, 0, 0, 0, 0, 0, 0, 0, 0, 0, 0, 0, 0, 0, 0, 0, 0, 0, 0, 0, 0, 0, 0, 0, 0, 0, 0, 1238, 0, 0, 0, 0, 0, 1236, 0, 0, 0, 0, 0, 0, 0, 0, 0, 0, 1238, 0, 0, 0, 0, 1237, 0, 0, 0, 0, 0, 0, 0, 0, 0, 0, 0, 1236, 0, 0, 0, 0, 0, 0, 0, 0, 0, 0, 0, 0, 0, 0, 0, 0, 1595, 0, 0, 1239, 0, 0, 0, 0, 0, 0, 1237, 0, 0, 1237, 0, 0, 0, 0, 0, 0, 0, 0, 0, 1237, 0, 0, 0, 0, 0, 1239, 0, 1237, 0, 0, 0, 1239, 0, 0, 0]
set_option maxRecDepth 10000 in
def am_pl223 : List Nat := [0, 0, 0, 0, 0, 0, 0, 0, 1238, 0, 0, 0, 0, 1237, 0, 0, 0, 1236, 0, 0, 0, 0, 0, 0, 0, 0, 1237, 0, 0, 0, 0, 0, 0, 0, 0, 0, 0, 0, 0, 0, 0, 0, 0, 0, 0, 0, 0, 1238, 0, 0, 0, 0, 1237, 0, 0, 0, 0, 1236, 0, 0, 0, 0, 0, 0, 0, 0, 0, 1236, 0, 0, 0, 0, 0, 0, 0, 0, 0, 0, 0, 0, 0, 0, 0, 0, 0, 0, 0, 1236, 0, 0, 0, 0, 0, 0, 0, 1236, 0, 0, 0, 0, 0, 0, 0, 0, 0, 0, 0, 0, 0, 0, 1237, 0, 0, 0, 0, 0, 0, 0, 0, 0, 0, 0, 0]
set_option maxRecDepth 10000 in
def am_pl224 : List Nat := [0, 0, 0, 1574, 0, 0, 0, 0, 1539, 0, 0, 1232, 0, 0, 0, 0, 0, 1539, 0, 0, 0, 0, 0, 1232, 1591, 0]
set_option maxRecDepth 10000 in
def am_pl225 : List Nat := [0, 0, 0, 0, 0, 0, 1209, 0, 0, 0, 0, 0, 1209, 0, 0, 0, 0, 0, 0, 0, 1211, 0, 0, 0, 0, 0, 0, 0, 0, 0, 0, 0, 0, 0, 0, 0, 0]
set_option maxRecDepth 10000 in
def am_pl226 : List Nat := [0, 1211, 0, 0, 0, 0, 0, 0, 0, 0, 0, 0, 0, 0, 0, 1211, 0, 0, 0, 1209, 0, 0, 0, 0, 0, 0, 0, 0, 0, 0, 0, 0]
set_option maxRecDepth 10000 in
def am_pl227 : List Nat := [0, 0, 0, 1209, 0, 0, 0, 1211, 0, 0, 0, 0, 1570, 0, 0, 0, 0, 0, 0, 0, 0, 0, 1209, 0, 0, 0, 0, 1209, 0, 0, 0, 0, 0, 0, 0, 1237, 0, 0, 0, 0, 0, 1599, 0, 0, 0, 0, 0, 1240, 0, 0, 0, 0, 0, 0, 0, 0, 0, 0, 0, 1240, 0, 0, 0, 0, 0, 0, 0, 0, 0, 0, 0, 0, 0, 0, 0, 0, 0, 0, 1240, 0, 0, 0, 0, 0, 0, 0, 0, 1240, 0, 0, 0, 0, 0, 0, 0, 0, 0, 0, 0, 1603, 0, 0, 0, 0, 0, 0, 0, 0]
set_option maxRecDepth 10000 in
def am_pl228 : List Nat := [0, 0, 1326, 1310, 0, 0, 0, 1314, 0, 0, 1209, 0, 0, 1209, 0, 0, 0, 0, 0, 0, 1209, 0, 0, 1209, 0, 0, 0, 0, 0, 0, 0]
set_option maxRecDepth 10000 in
def am_pl229 : List Nat := [0, 1209, 0, 0, 0, 0, 0, 0, 0, 0, 1314, 0, 0, 1209, 0, 0, 0, 0, 0, 0, 0, 0, 1211, 0, 0, 0, 0, 0, 0, 0, 0, 0, 0, 0, 0, 0, 0, 1539, 0, 0, 1232, 0, 0, 0, 0, 1232, 0, 0, 0, 0, 0, 1232, 0, 0, 0, 0, 0, 0, 0, 0, 0, 0, 0, 0, 0, 0, 0, 1566, 0, 0, 0, 0, 1211, 0, 0, 0, 0, 0, 0, 0, 0, 0, 0, 0, 1570, 0, 1211, 0, 0, 0, 0, 0, 0, 1211, 0, 0, 0, 0, 1239, 0, 0, 0, 0, 0, 0, 0, 1209, 0, 0, 0, 0, 1237, 0, 0, 0, 0, 0, 0, 0, 0, 0, 1237, 0, 0, 1603, 0, 0, 1211, 0, 0, 0, 0, 0, 0, 0, 0, 0, 0, 0, 0, 0, 0, 0, 0, 0, 0, 0, 1209, 0, 0, 0, 0, 0, 0, 0, 1209, 0, 0, 0, 0, 0, 0, 1209, 0, 0, 0, 0, 0, 0, 0]
set_option maxRecDepth 10000 in
def am_pl230 : List Nat := [0, 0, 1367, 0, 0, 0, 1335, 0, 0, 0, 1367, 0, 0, 0, 1371, 0, 0, 0, 0, 1527, 0, 1233, 0, 0, 0]
set_option maxRecDepth 10000 in
def am_pl231 : List Nat := [0, 0, 1367, 0, 0, 0, 1335, 0, 0, 0, 1371, 0, 0, 0, 0, 0, 1209, 0, 0, 1527, 0, 0, 0, 0, 0, 0, 1209, 0, 0, 0, 0, 0, 1209, 0, 0, 0, 0, 0, 1209, 0, 0, 0, 0, 0, 0, 1233, 0, 0, 0, 0, 0, 0, 0, 0, 0, 0, 0]
set_option maxRecDepth 10000 in
def am_pl232 : List Nat := [0, 0, 1367, 0, 0, 0, 1395, 0, 0, 0, 1371, 0, 0, 0, 0, 0, 1209, 0, 0, 1574, 0, 1236, 0, 0, 0]
set_option maxRecDepth 10000 in
def am_pl233 : List Nat := [0, 0, 1359, 0, 0, 0, 1395, 0, 0, 0, 1371, 0, 0, 0, 0, 0, 1310, 0, 0, 0, 1371, 0, 0, 0, 0, 0, 0, 0, 0, 1211, 0, 0, 0, 0, 0, 0, 0, 0, 0, 0, 0, 0, 0, 0, 0, 0, 0, 0, 0, 1209, 0, 0, 0, 0, 0, 1211, 0, 0, 0, 0, 1570, 0, 1237, 0, 0, 0]
set_option maxRecDepth 10000 in
def am_pl234 : List Nat := [0, 0, 1359, 0, 0, 0, 1395, 0, 0, 0, 0, 1209, 0, 0, 0, 0, 1310, 0, 0, 0, 1371, 0, 0, 0, 0, 0, 1209, 0, 0, 0, 1211, 0, 0, 0, 0, 1570, 0, 1237, 0, 0, 0, 0, 0, 1231, 0, 0, 0, 1209, 0, 0, 0, 1211, 0, 0, 0, 0, 1570, 0, 0, 1231, 0, 0, 1237, 0, 0, 0, 0]
set_option maxRecDepth 10000 in
def am_pl235 : List Nat := [0, 0, 0, 0, 0, 0, 0, 0, 0, 0, 0, 0, 0, 0, 0, 1209, 0, 0, 0, 0, 0, 0, 1209, 0, 0, 0, 0, 0, 0, 0, 0, 0, 0, 0, 0, 1209, 0, 0, 0, 0, 0, 0, 0, 0, 0, 0, 0, 0, 0, 0, 1209, 0, 0, 0, 0, 0, 0, 0, 0, 0, 0, 0, 0, 0, 0, 0, 0, 0, 1639, 0, 0, 0, 0, 1209, 0, 0, 0, 1209, 0, 0, 0, 0, 0, 0, 0, 0, 0, 0, 0, 0, 0, 0, 0, 0, 0, 0, 0, 0, 0, 0, 0, 0, 0, 0, 0]
set_option maxRecDepth 10000 in
def am_pl236 : List Nat := [0, 0, 0, 0, 0, 0, 0, 0, 0, 0, 0, 0, 0, 0, 0, 0, 0, 0, 0]
set_option maxRecDepth 10000 in
def am_pl237 : List Nat := [0, 0, 0, 0, 1314, 0, 0, 0, 1209, 0, 0, 0, 0, 1209, 0, 0, 0, 0, 0, 1314, 0, 0, 0, 0, 0, 0, 0, 0, 0, 0, 0, 0, 1209, 0, 0, 0, 0, 0, 0, 1631, 0, 0, 0, 0, 1635, 0, 1639, 0, 0, 0, 0, 0, 0, 0, 0, 1209, 0, 0, 1209, 0, 0, 0, 0, 0, 0, 0, 1631, 0, 0, 0, 0, 0, 0, 0, 0, 0, 0, 0, 0, 0, 0, 0, 0, 0, 0, 0, 0, 0, 0, 0, 0, 0, 0, 0, 0, 0, 0, 0, 0, 0, 0, 0, 0, 0, 0, 0, 0, 0, 0, 0, 0, 0, 0, 0, 0, 0, 0, 0, 0, 0]
set_option maxRecDepth 10000 in
def am_pl238 : List Nat := [0, 1218, 0, 0, 0, 1314, 0, 0, 1209, 0, 0, 0, 0, 0, 1314, 0, 0, 0, 0, 0, 0, 0, 1218, 0, 0, 0, 1219, 0, 0, 1331, 0, 0, 0, 1219, 0, 0, 0, 0, 0, 0, 0, 0, 0, 0, 0, 0, 1219, 0, 0, 0, 0, 0, 0, 0, 0, 0, 1635, 0, 0]
set_option maxRecDepth 10000 in
def am_pl239 : List Nat := [0, 0, 0, 0, 0, 0, 0, 0, 0, 0, 0, 0, 0, 0, 1659, 0, 0, 1659, 0, 0, 0, 0, 0, 1659, 0, 0, 0, 0, 0, 0, 0]
set_option maxRecDepth 10000 in
def am_pl240 : List Nat := [0, 0, 0, 0, 0, 0, 1209, 0, 0, 0, 0, 0, 0, 0, 0, 0, 0, 0, 0, 1209, 0, 0, 1343, 0, 0, 0, 0, 0, 0, 0]
set_option maxRecDepth 10000 in
def am_pl241 : List Nat := [0, 0, 0, 0, 0, 0, 0, 0, 0, 0, 1209, 0, 0, 0, 0, 0, 0, 1339, 0, 0, 0, 0, 0, 0, 0, 0, 0, 0, 1209, 0, 0, 1343, 0, 0, 0, 0, 0, 0, 0, 1652, 0, 0, 0, 0, 0, 0, 1209, 0, 0, 0, 0, 0, 0, 0, 0, 0, 0, 0, 0, 1209, 0, 0, 1343, 0, 0, 0, 0, 0, 0, 0, 0, 0, 0, 0, 0, 0, 0, 0, 0, 0, 0, 0, 0, 1652, 0, 0, 0, 0, 0, 0, 0, 0, 0, 0, 0, 0, 1209, 0, 0, 1343, 0, 0, 0, 0, 0, 0, 0, 0, 0, 1656, 0, 0, 0, 0, 0, 0, 0, 0, 0, 0]
set_option maxRecDepth 10000 in
def am_pl242 : List Nat := [0, 0, 1367, 0, 0, 0, 0, 0, 0, 0, 1331, 0, 0, 0, 0, 0, 1335, 0, 0, 0, 1314, 0, 0, 0, 0, 0, 0, 1339, 0, 0, 0, 1314, 0, 0, 0, 0, 0, 0, 0, 0, 0, 1648, 0, 0, 0, 0, 0]
set_option maxRecDepth 10000 in
def am_pl243 : List Nat := [0, 0, 1367, 0, 0, 0, 1314, 0, 0, 0, 0, 0, 0, 0, 1209, 0, 0, 0, 0, 0, 0, 0, 1209, 0, 0, 0, 0, 0, 0, 1339, 0, 0, 0, 0, 0, 0, 0, 0, 0, 0, 1209, 0, 0, 1343, 0, 0, 0, 0, 0, 1648, 0, 0, 0, 0, 0, 0, 0, 0, 0, 0, 0, 0]
set_option maxRecDepth 10000 in
def am_pl244 : List Nat := [0, 0, 1367, 0, 0, 0, 1335, 0, 0, 0, 1371, 0, 0, 0, 0, 0, 1310, 0, 0, 0, 1371, 0, 0, 0, 0, 0, 0, 0, 0, 0, 0, 0, 0, 0, 0, 0, 1209, 0, 0, 0, 0, 0, 0, 0, 0, 0, 1209, 0, 0, 1531, 0, 0, 0, 0, 0, 0, 0, 0, 0, 0, 0, 0, 0, 1209, 0, 0, 1531, 0, 0, 1656, 0, 0, 0, 1209, 0, 0, 0, 0, 0, 0, 0, 0, 0, 0, 0, 0, 0, 0, 0, 0, 0, 0, 0, 0, 0, 0, 0, 0, 0, 0, 0, 0, 0]
set_option maxRecDepth 10000 in
def am_pl245 : List Nat := [0, 0, 0, 0, 0, 0, 0, 0, 0, 1209, 0, 0, 0, 0, 0, 0, 0, 0, 0, 0, 0, 0, 0, 0, 0]
set_option maxRecDepth 10000 in
def am_pl246 : List Nat := [0, 0, 0, 1209, 0, 0, 0, 0, 1217, 0, 0, 0, 0, 1209, 0, 0, 1672, 0, 0, 0, 0, 1209, 0, 0, 1672, 0, 0, 0, 1209, 0, 0, 1209, 0, 0, 0, 0, 1631, 0, 0, 0, 1314, 0]
set_option maxRecDepth 10000 in
def am_pl247 : List Nat := [0, 0, 0, 0, 0, 0, 1210, 0, 0, 1209, 0, 0, 0, 0, 0, 0, 0, 0, 0, 0, 0, 1212, 0, 0, 1211, 0, 0, 0, 0, 0, 0, 0, 1213, 0, 1209, 0, 0, 0]
set_option maxRecDepth 10000 in
def am_pl248 : List Nat := [0, 1213, 0, 0, 0, 1314, 0, 0, 0, 0, 0, 0, 0, 1209, 0, 0, 1210, 0, 0, 0, 0, 0, 0, 0, 0, 0, 0, 0, 1211, 0, 0, 1212, 0, 0, 0, 0, 0, 0, 1209, 0, 0, 0]
set_option maxRecDepth 10000 in
def am_pl249 : List Nat := [0, 0, 0, 0, 1314, 0, 0, 0, 0, 0, 0, 1314, 0, 0, 0, 1218, 0, 0, 0, 0, 0, 0, 1219, 0, 0, 0, 0, 0, 0, 0]
set_option maxRecDepth 10000 in
def am_pl250 : List Nat := [0, 1218, 0, 0, 0, 1371, 0, 0, 0, 0, 1218, 0, 0, 1310, 0, 0, 0, 1371, 0, 0, 1219, 0, 0, 0, 0, 1219, 0, 0, 0, 0, 0]
set_option maxRecDepth 10000 in
def am_pl251 : List Nat := [0, 1218, 0, 0, 0, 0, 0, 0, 0, 1218, 0, 0]
set_option maxRecDepth 10000 in
def am_pl252 : List Nat := [0, 1218, 0, 0, 0, 1371, 0, 0, 0, 0, 1218, 0, 0, 1310, 0, 0, 1219, 0, 0, 0, 0, 0, 1371, 0]
set_option maxRecDepth 10000 in
def am_pl253 : List Nat := [0, 1218, 0, 0, 0, 1314, 0, 0, 0, 0, 0, 1314, 0, 0, 0, 0, 0, 0, 0, 1218, 0, 0, 0, 1218, 0, 0, 0, 1218, 0, 0, 0, 0, 0, 1218, 0, 0, 0, 0, 0, 1314, 0, 0, 0, 0, 0, 0, 0, 0, 0, 0, 0, 0, 0, 0, 0, 0, 0, 0, 1219, 0, 0, 0, 0, 1219, 0, 0, 0, 0, 0, 0, 0, 0, 0]
set_option maxRecDepth 10000 in
def am_pl254 : List Nat := [0, 0, 0, 1310, 0, 0, 1214, 0, 0, 0, 0, 0, 0, 1314, 0]
set_option maxRecDepth 10000 in
def am_pl255 : List Nat := [0, 0, 0, 0, 490, 0, 0, 0, 0, 491, 0, 0, 0, 0, 491, 0, 0, 0, 0, 0, 0, 0, 0, 492, 0, 0, 0, 0, 0, 0, 0, 0, 0, 0, 0, 0, 0, 0, 0, 0, 0, 0]
set_option maxRecDepth 10000 in
def am_pl256 : List Nat := [0, 0, 0, 0, 0, 0, 0, 0, 0, 0, 0, 0, 0, 0, 0]
set_option maxRecDepth 10000 in
def am_pl257 : List Nat := [0, 0, 0, 0, 0, 0, 0, 0, 0, 0, 0, 0, 0, 0, 0]
set_option maxRecDepth 10000 in
def am_pl258 : List Nat := [23, 0, 25, 0, 1183, 0, 1185, 0, 0, 0, 0, 0, 0, 0, 0, 0, 0, 0, 0, 0, 0, 0, 0, 0, 0, 0, 0, 0, 0, 0, 0, 0, 0, 459, 0, 0, 0, 0, 0, 0, 0, 0, 0, 0, 0, 1306, 0, 0, 0, 0, 0, 0, 0, 0, 0, 475, 0, 0, 0, 0, 0, 0, 1318, 0, 0, 0, 0, 0, 0, 0, 0, 0, 0, 0, 0, 0, 0, 493, 0, 0, 0, 0, 0, 0, 0, 0, 0, 0, 0, 1322, 0, 0, 0, 0, 0, 0, 0, 0, 0, 0, 0, 0, 0, 0, 0, 0, 0, 0, 0, 498, 0, 0, 0, 0, 0, 0, 0, 0, 0, 0, 0, 0, 0, 0, 0, 0, 1327, 0, 0, 0, 0, 0, 0, 0, 0, 0, 0, 0, 0, 0, 0, 0, 0, 0, 0, 0, 0, 0, 0, 0, 0, 531, 0, 0, 0, 0, 0, 0, 0, 0, 0, 0, 0, 0, 0, 0, 0, 0, 0, 0, 0, 0, 0, 1355, 0, 0, 0, 0, 0, 0, 0, 0, 0, 0, 0, 0, 0, 0, 0, 0, 0, 0, 0, 539, 0, 0, 0, 0, 0, 0, 0, 0, 0, 0, 0, 0, 0, 0, 0, 0, 1363, 0, 0, 0, 0, 0, 0, 0, 0, 0, 0, 0, 0, 0, 0, 551, 0, 0, 0, 0, 0, 0, 0, 0, 0, 0, 0, 1375, 0, 0, 0, 0, 0, 0, 0, 0, 0, 0, 0, 0, 0, 0, 571, 0, 0, 0, 0, 0, 0, 0, 0, 0, 0, 0, 1379, 0, 0, 0, 0, 0, 0, 0, 0, 0, 0, 0, 0, 0, 0, 0, 0, 0, 0, 0, 0, 575, 0, 0, 0, 0, 0, 0, 0, 0, 0, 0, 0, 0, 0, 0, 0, 0, 1383, 0, 0, 0, 0, 0, 0, 0, 0, 0, 0, 0, 0, 0, 0, 0, 0, 0, 0, 0, 583, 0, 0, 0, 0, 0, 0, 0, 0, 0, 0, 0, 0, 0, 0, 0, 0, 1387, 0, 0, 0, 0, 0, 0, 0, 0, 0, 0, 0, 0, 0, 0, 591, 0, 0, 0, 0, 0, 0, 0, 0, 0, 0, 0, 1391, 0, 0, 0, 0, 0, 0, 0, 0, 0, 0, 0, 0, 0, 0, 0, 0, 0, 0, 0, 603, 0, 0, 0, 0, 0, 0, 0, 0, 0, 0, 0, 0, 0, 0, 0, 0, 1399, 0, 0, 0, 0, 0, 0, 0, 0, 0, 0, 0, 0, 0, 0, 0, 0, 0, 0, 0, 611, 0, 0, 0, 0, 0, 0, 0, 0, 0, 0, 0, 0, 0, 0, 0, 0, 1407, 0, 0, 0, 0, 0, 0, 0, 0, 0, 0, 0, 0, 0, 0, 623, 0, 0, 0, 0, 0, 0, 0, 0, 0, 0, 0, 1415, 0, 0, 0, 0, 0, 0, 0, 0, 0, 0, 0, 0, 0, 0, 627, 0, 0, 0, 0, 0, 0, 0, 0, 0, 0, 0, 1419, 0, 0, 0, 0, 0, 0, 0, 0, 0, 0, 0, 0, 0, 0, 631, 0, 0, 0, 0, 0, 0, 0, 0, 0, 0, 0, 1423, 0, 0, 0, 0, 0, 0, 0, 0, 0, 0, 0, 0, 0, 0, 0, 0, 0, 0, 0, 640, 0, 0, 0, 0, 0, 0, 0, 0, 0, 0, 0, 0, 0, 0, 0, 0, 1427, 0, 0, 0, 0, 0, 0, 0, 0, 0, 0, 0, 0, 0, 0, 0, 0, 0, 0, 0, 677, 0, 0, 0, 0, 0, 0, 0, 0, 0, 0, 0, 0, 0, 0, 0, 0, 1459, 0, 0, 0, 0, 0, 0, 0, 0, 0, 0, 0, 0, 0, 0, 687, 0, 0, 0, 0, 0, 0, 0, 0, 0, 0, 0, 1463, 0, 0, 0, 0, 695, 0, 1467, 0, 0, 0, 0, 0, 0, 0, 0, 0, 0, 0, 0, 0, 0, 699, 0, 0, 0, 0, 0, 0, 0, 0, 0, 0, 0, 1471, 0, 0, 0, 0, 0, 0, 0, 0, 0, 0, 0, 0, 0, 0, 0, 0, 0, 0, 0, 887, 0, 0, 0, 0, 0, 0, 0, 0, 0, 0, 0, 0, 0, 0, 0, 0, 1519, 0, 0, 0, 0, 0, 0, 0, 0, 0, 0, 0, 0, 0, 0, 0, 0, 0, 0, 0, 947, 0, 0, 0, 0, 0, 0, 0, 0, 0, 0, 0, 0, 0, 0, 0, 0, 1554, 0, 0, 0, 0, 0, 0, 0, 0, 0, 952, 0, 0, 0, 0, 0, 0, 1558, 0, 0, 0, 0, 956, 0, 1562, 0, 0, 0, 0, 0, 0, 0, 0, 0, 0, 0, 0, 0, 0, 0, 0, 0, 0, 0, 1033, 0, 0, 0, 0, 0, 0, 0, 0, 0, 0, 0, 0, 0, 0, 0, 0, 1607, 0, 0, 0, 0, 0, 0, 0, 0, 0, 0, 0, 0, 0, 0, 1038, 0, 0, 0, 0, 0, 0, 0, 0, 0, 0, 0, 1611, 0, 0, 0, 0, 0, 0, 0, 0, 0, 0, 0, 0, 0, 0, 0, 1042, 0, 0, 0, 0, 0, 0, 0, 0, 0, 0, 0, 1615, 0, 0, 0, 0, 0, 0, 0, 0, 0, 0, 0, 0, 0, 0, 0, 0, 0, 0, 0, 0, 1047, 0, 0, 0, 0, 0, 0, 0, 0, 0, 0, 0, 0, 0, 0, 0, 0, 1619, 0, 0, 0, 0, 0, 0, 0, 0, 0, 0, 0, 0, 0, 0, 0, 0, 0, 0, 0, 0, 1055, 0, 0, 0, 0, 0, 0, 0, 0, 0, 0, 0, 0, 0, 0, 0, 0, 1623, 0, 0, 0, 0, 0, 0, 0, 0, 0, 0, 1064, 0, 0, 0, 0, 0, 0, 1627, 0, 0, 0, 0, 1077, 0, 1640, 0, 0, 0, 0, 0, 0, 0, 0, 0, 0, 0, 0, 0, 0, 1081, 0, 0, 0, 0, 0, 0, 0, 0, 0, 0, 0, 1644, 0, 0, 0, 0, 0, 0, 0, 0, 0, 1092, 0, 0, 0, 0, 0, 0, 1660, 0, 0, 0, 0, 0, 0, 0, 0, 0, 0, 0, 0, 0, 0, 0, 0, 0, 0, 0, 1096, 0, 0, 0, 0, 0, 0, 0, 0, 0, 0, 0, 0, 0, 0, 0, 0, 1664, 0, 0, 0, 0, 0, 0, 0, 0, 0, 0, 1104, 0, 0, 0, 0, 0, 0, 1668, 0, 0, 0, 0, 1111, 0, 1676, 0, 0, 0, 0, 1153, 0, 1680, 0, 0, 0, 0, 0, 0, 0, 0, 0, 1157, 0, 0, 0, 0, 0, 0, 1684, 0, 0, 0, 0, 0, 0, 0, 0, 0, 0, 0, 0, 0, 0, 1162, 0, 0, 0, 0, 0, 0, 0, 0, 0, 0, 0, 1688, 0, 0, 0, 0, 1166, 0, 1692, 0, 0, 0, 0, 0, 0, 0, 0, 0, 1170, 0, 0, 0, 0, 0, 0, 1696, 0, 0, 0, 0, 0, 0, 0, 0, 0, 0, 0, 0, 0, 0, 0, 0, 0, 0, 0, 1174, 0, 0, 0, 0, 0, 0, 0, 0, 0, 0, 0, 0, 0, 0, 0, 0, 1700, 0, 0, 0, 0, 0, 0, 0, 0, 0, 1179, 0, 0, 0, 0, 0, 0, 1704, 0, 0, 0, 0, 0, 0, 0]
def am_pls : List (List Nat) := [am_pl0, am_pl1, am_pl2, am_pl3, am_pl4, am_pl5, am_pl6, am_pl7, am_pl8, am_pl9, am_pl10, am_pl11, am_pl12, am_pl13, am_pl14, am_pl15, am_pl16, am_pl17, am_pl18, am_pl19, am_pl20, am_pl21, am_pl22, am_pl23, am_pl24, am_pl25, am_pl26, am_pl27, am_pl28, am_pl29, am_pl30, am_pl31, am_pl32, am_pl33, am_pl34, am_pl35, am_pl36, am_pl37, am_pl38, am_pl39, am_pl40, am_pl41, am_pl42, am_pl43, am_pl44, am_pl45, am_pl46, am_pl47, am_pl48, am_pl49, am_pl50, am_pl51, am_pl52, am_pl53, am_pl54, am_pl55, am_pl56, am_pl57, am_pl58, am_pl59, am_pl60, am_pl61, am_pl62, am_pl63, am_pl64, am_pl65, am_pl66, am_pl67, am_pl68, am_pl69, am_pl70, am_pl71, am_pl72, am_pl73, am_pl74, am_pl75, am_pl76, am_pl77, am_pl78, am_pl79, am_pl80, am_pl81, am_pl82, am_pl83, am_pl84, am_pl85, am_pl86, am_pl87, am_pl88, am_pl89, am_pl90, am_pl91, am_pl92, am_pl93, am_pl94, am_pl95, am_pl96, am_pl97, am_pl98, am_pl99, am_pl100, am_pl101, am_pl102, am_pl103, am_pl104, am_pl105, am_pl106, am_pl107, am_pl108, am_pl109, am_pl110, am_pl111, am_pl112, am_pl113, am_pl114, am_pl115, am_pl116, am_pl117, am_pl118, am_pl119, am_pl120, am_pl121, am_pl122, am_pl123, am_pl124, am_pl125, am_pl126, am_pl127, am_pl128, am_pl129, am_pl130, am_pl131, am_pl132, am_pl133, am_pl134, am_pl135, am_pl136, am_pl137, am_pl138, am_pl139, am_pl140, am_pl141, am_pl142, am_pl143, am_pl144, am_pl145, am_pl146, am_pl147, am_pl148, am_pl149, am_pl150, am_pl151, am_pl152, am_pl153, am_pl154, am_pl155, am_pl156, am_pl157, am_pl158, am_pl159, am_pl160, am_pl161, am_pl162, am_pl163, am_pl164, am_pl165, am_pl166, am_pl167, am_pl168, am_pl169, am_pl170, am_pl171, am_pl172, am_pl173, am_pl174, am_pl175, am_pl176, am_pl177, am_pl178, am_pl179, am_pl180, am_pl181, am_pl182, am_pl183, am_pl184, am_pl185, am_pl186, am_pl187, am_pl188, am_pl189, am_pl190, am_pl191, am_pl192, am_pl193, am_pl194, am_pl195, am_pl196, am_pl197, am_pl198, am_pl199, am_pl200, am_pl201, am_pl202, am_pl203, am_pl204, am_pl205, am_pl206, am_pl207, am_pl208, am_pl209, am_pl210, am_pl211, am_pl212, am_pl213, am_pl214, am_pl215, am_pl216, am_pl217, am_pl218, am_pl219, am_pl220, am_pl221, am_pl222, am_pl223, am_pl224, am_pl225, am_pl226, am_pl227, am_pl228, am_pl229, am_pl230, am_pl231, am_pl232, am_pl233, am_pl234, am_pl235, am_pl236, am_pl237, am_pl238, am_pl239, am_pl240, am_pl241, am_pl242, am_pl243, am_pl244, am_pl245, am_pl246, am_pl247, am_pl248, am_pl249, am_pl250, am_pl251, am_pl252, am_pl253, am_pl254, am_pl255, am_pl256, am_pl257, am_pl258]
def am_yps : List (Nat × Nat × Nat × Nat) := [(27, 1, 26, 0), (462, 1, 460, 550), (478, 1, 476, 566), (496, 1, 494, 584), (501, 1, 499, 589), (534, 1, 532, 622), (542, 1, 540, 630), (554, 1, 552, 642), (574, 1, 572, 662), (578, 1, 576, 666), (586, 1, 584, 674), (594, 1, 592, 682), (606, 1, 604, 694), (614, 1, 612, 702), (626, 1, 624, 714), (630, 1, 628, 718), (634, 1, 632, 722), (643, 1, 641, 731), (680, 1, 678, 768), (690, 1, 688, 778), (698, 1, 696, 786), (702, 1, 700, 790), (890, 1, 888, 978), (950, 1, 948, 1038), (955, 1, 953, 1043), (959, 1, 957, 1047), (1036, 1, 1034, 1124), (1041, 1, 1039, 1129), (1045, 1, 1043, 1133), (1050, 1, 1048, 1138), (1058, 1, 1056, 1146), (1067, 1, 1065, 1155), (1080, 1, 1078, 1168), (1084, 1, 1082, 1172), (1095, 1, 1093, 1183), (1099, 1, 1097, 1187), (1107, 1, 1105, 1195), (1114, 1, 1112, 1202), (1156, 1, 1154, 1244), (1160, 1, 1158, 1248), (1165, 1, 1163, 1253), (1169, 1, 1167, 1257), (1173, 1, 1171, 1261), (1177, 1, 1175, 1265), (1182, 1, 1180, 1270), (470, 1, 469, 0), (550, 1, 549, 4), (546, 1, 545, 3), (538, 1, 537, 2), (505, 1, 504, 1), (894, 1, 893, 25), (647, 1, 646, 6), (1076, 1, 1075, 0), (465, 1, 464, 0), (971, 1, 970, 0), (522, 1, 521, 0), (1091, 1, 1090, 0), (914, 1, 913, 0), (683, 1, 682, 0), (1110, 1, 1109, 0), (35, 2, 34, 0), (1118, 2, 1116, 1206), (1028, 2, 1026, 1116), (651, 2, 649, 739), (655, 2, 654, 7), (663, 2, 662, 8), (41, 3, 40, 0), (1122, 3, 1120, 1210), (509, 3, 507, 597), (482, 3, 480, 570), (474, 3, 472, 562), (1071, 3, 1069, 1159), (66, 4, 65, 0), (1127, 4, 1125, 1215), (486, 4, 484, 574), (526, 4, 524, 614), (530, 4, 528, 618), (90, 5, 89, 0), (1132, 5, 1130, 1220), (514, 5, 512, 602), (582, 5, 580, 670), (123, 6, 122, 0), (1137, 6, 1135, 1225), (598, 6, 596, 686), (590, 6, 588, 678), (610, 6, 608, 698), (923, 6, 921, 1011), (672, 6, 670, 760), (676, 6, 675, 9), (164, 7, 163, 0), (1142, 7, 1140, 1230), (638, 7, 636, 726), (622, 7, 620, 710), (618, 7, 616, 706), (659, 7, 657, 747), (667, 7, 665, 755), (203, 8, 202, 0), (1147, 8, 1145, 1235), (1062, 8, 1060, 1150), (882, 8, 880, 970), (933, 8, 931, 1021), (937, 8, 935, 1025), (941, 8, 940, 30), (944, 8, 943, 0), (235, 9, 234, 0), (1151, 9, 1149, 1239), (519, 9, 517, 607), (963, 9, 961, 1051), (1020, 9, 1018, 1108), (1032, 9, 1030, 1120), (324, 10, 323, 0), (694, 10, 692, 782), (706, 10, 704, 794), (710, 10, 709, 10), (714, 10, 713, 11), (725, 10, 724, 12), (842, 10, 841, 15), (729, 10, 728, 13), (782, 10, 781, 14), (717, 10, 716, 0), (721, 10, 720, 0), (858, 10, 857, 19), (862, 10, 861, 20), (866, 10, 865, 21), (846, 10, 845, 16), (850, 10, 849, 17), (854, 10, 853, 18), (870, 10, 869, 22), (874, 10, 873, 23), (878, 10, 877, 24), (370, 11, 369, 0), (558, 11, 556, 646), (567, 11, 566, 5), (907, 11, 906, 26), (902, 11, 900, 990), (911, 11, 910, 27), (1088, 11, 1086, 1176), (1103, 11, 1101, 1191), (407, 12, 406, 0), (898, 12, 896, 986), (928, 12, 927, 29), (919, 12, 918, 28), (967, 12, 965, 1055), (979, 12, 977, 1067), (984, 12, 983, 31), (991, 12, 990, 0), (995, 12, 994, 32), (999, 12, 998, 33), (1007, 12, 1006, 35), (1003, 12, 1002, 34), (1054, 12, 1052, 1142), (975, 12, 973, 1063), (1013, 12, 1012, 36), (1024, 12, 1022, 1112), (1187, 13, 1186, 0), (1312, 13, 1311, 0), (1317, 13, 1316, 37), (1374, 13, 1373, 46), (1334, 13, 1333, 38), (1338, 13, 1337, 39), (1398, 13, 1397, 47), (1370, 13, 1369, 45), (1362, 13, 1361, 44), (1342, 13, 1341, 40), (1309, 13, 1307, 1397), (1321, 13, 1319, 1409), (1325, 13, 1323, 1413), (1350, 13, 1349, 42), (1346, 13, 1345, 41), (1354, 13, 1353, 43), (1330, 13, 1328, 1418), (1358, 13, 1356, 1446), (1366, 13, 1364, 1454), (1378, 13, 1376, 1466), (1382, 13, 1380, 1470), (1386, 13, 1384, 1474), (1390, 13, 1388, 1478), (1394, 13, 1392, 1482), (1406, 13, 1405, 48), (1402, 13, 1400, 1490), (1414, 13, 1413, 49), (1410, 13, 1408, 1498), (1418, 13, 1416, 1506), (1422, 13, 1420, 1510), (1426, 13, 1424, 1514), (1442, 13, 1441, 52), (1450, 13, 1449, 54), (1438, 13, 1437, 51), (1446, 13, 1445, 53), (1458, 13, 1457, 56), (1454, 13, 1453, 55), (1434, 13, 1433, 50), (1430, 13, 1428, 1518), (1462, 13, 1460, 1550), (1466, 13, 1464, 1554), (1470, 13, 1468, 1558), (1482, 13, 1481, 58), (1478, 13, 1477, 57), (1502, 13, 1501, 63), (1498, 13, 1497, 62), (1486, 13, 1485, 59), (1490, 13, 1489, 60), (1494, 13, 1493, 61), (1506, 13, 1505, 64), (1510, 13, 1509, 65), (1514, 13, 1513, 66), (1518, 13, 1517, 67), (1474, 13, 1472, 1562), (1553, 13, 1552, 0), (1550, 13, 1549, 74), (1546, 13, 1545, 73), (1542, 13, 1541, 72), (1526, 13, 1525, 68), (1522, 13, 1520, 1610), (1557, 13, 1555, 1645), (1534, 13, 1533, 70), (1530, 13, 1529, 69), (1538, 13, 1537, 71), (1580, 13, 1579, 0), (1589, 13, 1588, 79), (1585, 13, 1584, 78), (1577, 13, 1576, 77), (1594, 13, 1593, 80), (1598, 13, 1597, 81), (1573, 13, 1572, 76), (1602, 13, 1601, 82), (1606, 13, 1605, 83), (1569, 13, 1568, 75), (1561, 13, 1559, 1649), (1565, 13, 1563, 1653), (1610, 13, 1608, 1698), (1614, 13, 1612, 1702), (1618, 13, 1616, 1706), (1622, 13, 1620, 1710), (1626, 13, 1624, 1714), (1638, 13, 1637, 85), (1634, 13, 1633, 84), (1630, 13, 1628, 1718), (1643, 13, 1641, 1731), (1658, 13, 1657, 0), (1655, 13, 1654, 87), (1651, 13, 1650, 86), (1647, 13, 1645, 1735), (1663, 13, 1661, 1751), (1667, 13, 1665, 1755), (1675, 13, 1674, 88), (1671, 13, 1669, 1759), (1679, 13, 1677, 1767), (1683, 13, 1681, 1771), (1687, 13, 1685, 1775), (1691, 13, 1689, 1779), (1695, 13, 1693, 1783), (1699, 13, 1697, 1787), (1703, 13, 1701, 1791), (1707, 13, 1705, 1795), (489, 14, 488, 0), (570, 15, 569, 0), (561, 15, 560, 0), (0, 0, 0, 0)]
def am_sts : List Bool := [false, false, false, false, false, false, false, false, false, false, false, false, false, false, false, false, false, false, false, false, false, false, false, false, false, false, false, false, false, false, false, false, false, false, false, false, false, false, false, false, false, false, false, false, false, false, false, false, false, false, false, false, true, true, true, true, true, true, true, true, false, false, false, false, false, false, false, false, false, false, false, false, false, false, false, false, false, false, false, false, false, false, false, false, false, false, false, false, false, false, false, false, false, false, false, false, false, false, false, false, false, false, false, true, false, false, false, false, false, false, false, false, false, false, false, false, false, false, false, true, true, false, false, false, false, false, false, false, false, false, false, false, false, false, false, false, false, false, false, false, false, false, false, false, false, true, false, false, false, false, false, false, false, false, false, true, false, false, false, false, false, false, false, false, false, false, false, false, false, false, false, false, false, false, false, false, false, false, false, false, false, false, false, false, false, false, false, false, false, false, false, false, false, false, false, false, false, false, false, false, false, false, false, false, false, false, false, false, true, false, false, false, false, false, false, false, false, false, true, false, false, false, false, false, false, false, false, false, false, false, false, false, false, false, false, false, false, false, false, true, false, false, false, false, false, false, false, false, false, false, false, false, false, false, false, true, true, true, false]
def am_nm (n : Nat) : MethodName := (am_nth am_nms n).getD ⟨"", "", ""⟩
def am_by (n : Nat) : ByteArray := (am_nth am_bys n).getD ⟨#[]⟩
def am_rt (n : Nat) : Option FieldType := (am_nth am_rts n).getD none
def am_iss (n : Nat) : Bool := (am_nth am_sts n).getD false
/-- what a row of the tables must keep to -/
def am_okb (mid pc : Nat) (o : am_E) (pl : Nat) : Bool :=
  match o with
  | (i, len, n1, n2, n3, n4, z, sw) => decide (decode (am_by mid) pc = .ok (i, len)) && match i with
    | .iconst x => decide (len = 1) && decide (am_r x)
    | .bipush x => decide (len = 2) && decide (am_r x) && decide ((Int8.ofInt x).toInt32 = Int32.ofInt x)
    | .sipush x => decide (len = 3) && decide (am_r x) && decide ((Int16.ofInt x).toInt32 = Int32.ofInt x)
    | .lconst x => decide (len = 1) && decide (am_rl z) && decide (Int64.ofNat x.val = Int64.ofInt z)
    | .ldc idx => decide (len = 2) && (match n1 with
      | 0 => decide (am_r z) && decide (tables_1[pl]? = some (.constant (am_nm mid).cls idx (Int32.ofInt z)))
      | _ => decide (n2 = 3 ∧ idx = 91 ∨ n2 = 4 ∧ idx = 84) && decide ((am_nm mid).cls = "LoanPence$Reader"))
    | .ldc_w idx => decide (len = 3) && decide (am_r z) && decide (tables_1[pl]? = some (.constant (am_nm mid).cls idx (Int32.ofInt z)))
    | .ldc2_w idx => decide (len = 3) && decide (am_rl z) && decide (tables_1[pl]? = some (.constantLong (am_nm mid).cls idx (Int64.ofInt z)))
    | .iload k => decide (len = 2) && decide (k = n1)
    | .lload k => decide (len = 2) && decide (k = n1)
    | .aload k => decide (len = 2) && decide (k = n1)
    | .iload_n k => decide (len = 1) && decide (k.val = n1)
    | .lload_n k => decide (len = 1) && decide (k.val = n1)
    | .aload_n k => decide (len = 1) && decide (k.val = n1)
    | .istore k => decide (len = 2) && decide (k = n1) && decide (n1 < am_mx mid)
    | .astore k => decide (len = 2) && decide (k = n1) && decide (n1 < am_mx mid)
    | .lstore k => decide (len = 2) && decide (k = n1) && decide (n1 + 1 < am_mx mid)
    | .istore_n k => decide (len = 1) && decide (k.val = n1) && decide (n1 < am_mx mid)
    | .astore_n k => decide (len = 1) && decide (k.val = n1) && decide (n1 < am_mx mid)
    | .lstore_n k => decide (len = 1) && decide (k.val = n1) && decide (n1 + 1 < am_mx mid)
    | .iinc k x => decide (len = 3) && decide (k = n1) && decide (n1 < am_mx mid)
    | .if_icmp _ off => decide (len = 3) && decide ((pc : Int) + off = (n1 : Int))
    | .ifCond _ off => decide (len = 3) && decide ((pc : Int) + off = (n1 : Int))
    | .goto off => decide (len = 3) && decide ((pc : Int) + off = (n1 : Int))
    | .ifnonnull off => decide (len = 3) && decide ((pc : Int) + off = (n1 : Int))
    | .tableswitch d lo hi offs => decide ((pc : Int) + d = (n1 : Int)) && decide (lo ≤ hi + 1) && decide (sw = (offs.toList.zipIdx.map (fun q => (lo + (q.2 : Int), ((pc : Int) + q.1).toNat)))) && decide ((offs.size : Int) = hi - lo + 1) && offs.toList.all (fun x => decide (0 ≤ (pc : Int) + x))
    | .lookupswitch d ps => decide ((pc : Int) + d = (n1 : Int)) && decide (sw = ps.toList.map (fun q => (q.1, ((pc : Int) + q.2).toNat))) && (ps.toList.zip (ps.toList.drop 1)).all (fun (a, next) => a.1 < next.1) && ps.toList.all (fun q => decide (0 ≤ (pc : Int) + q.2))
    | .ireturn => decide (len = 1) && decide (am_rt mid = some .int ∨ am_rt mid = some .boolean)
    | .lreturn => decide (len = 1) && decide (am_rt mid = some .long)
    | .return_ => decide (len = 1) && decide (am_rt mid = none)
    | .getfield idx => decide (len = 3) && decide (z = (n2 : Int)) && (match am_nth am_cl n1 with
      | some (C, T, N) => decide (n2 < N) && decide ((T n2).1 = C) && decide (tables_1[pl]? = some (.fieldLink (am_nm mid).cls idx C (T n2).2.1 (T n2).2.2.1))
      | none => false)
    | .putfield idx => decide (len = 3) && decide (z = (n2 : Int)) && (match am_nth am_cl n1 with
      | some (C, T, N) => decide (n2 < N) && decide ((T n2).1 = C) && decide (tables_1[pl]? = some (.fieldLink (am_nm mid).cls idx C (T n2).2.1 (T n2).2.2.1)) && (decide ((T n2).2.2.2 = false) || (decide ((am_nm mid).name = "<init>") && decide (C = (am_nm mid).cls)))
      | none => false)
    | .getstatic idx => decide (len = 3) && decide (n1 = 1 ∧ tables_1[pl]? = some (.fieldLinkNest (am_nm mid).cls idx "LoanPence" "UNRULED" "[I" "LoanPence") ∨ n1 = 2 ∧ tables_1[pl]? = some (.fieldLinkNest (am_nm mid).cls idx "LoanPence" "KIND_POINTS" "[I" "LoanPence"))
    | .newarray _ => decide (len = 2) && decide (z = (n1 : Int)) && decide (n1 ≤ 65536)
    | .new idx => decide (len = 3) && (match am_nth am_cl n1 with
      | some (C, T, N) => decide (n2 = N) && decide (tables_1[pl]? = some (.classLink (am_nm mid).cls idx C))
      | none => false)
    | .invokevirtual idx => decide (len = 3) && (match n4 with
      | 0 => decide (tables_1[pl]? = some (.methodLink (am_nm mid).cls idx (am_nm n1))) && decide ((am_nth am_cl n3).map (fun q => q.1) = some (am_nm n1).cls) && !(am_iss n1) && decide ((parseMethodDescriptor (am_nm n1).desc).map (fun d => d.parameters.length) = some (n2 - 1)) && decide (1 ≤ n2) && decide (am_al n1 = (0, 0)) && decide (n1 < 258) && decide ((am_nm n1).name ≠ "<init>")
      | 1 => decide (tables_1[pl]? = some (.methodLink (am_nm mid).cls idx (am_nm n1))) && decide ((am_nth am_cl n3).map (fun q => q.1) = some (am_nm n1).cls) && !(am_iss n1) && decide ((parseMethodDescriptor (am_nm n1).desc).map (fun d => d.parameters.length) = some (n2 - 1)) && decide (1 ≤ n2) && decide (n1 < 258) && decide ((am_nm n1).name ≠ "<init>")
      | _ => decide ((am_nm mid).cls = "LoanPence$Reader") && decide (n4 = 2 ∧ idx = 97 ∨ n4 = 3 ∧ idx = 86 ∨ n4 = 4 ∧ idx = 93))
    | .invokestatic idx => decide (len = 3) && (match n3 with
      | 0 => (decide (tables_1[pl]? = some (.methodLink (am_nm mid).cls idx (am_nm n1))) || decide (tables_1[pl]? = some (.methodLinkNest (am_nm mid).cls idx (am_nm n1) "LoanPence"))) && am_iss n1 && decide ((parseMethodDescriptor (am_nm n1).desc).map (fun d => d.parameters.length) = some n2) && decide (am_al n1 = (0, 0)) && decide (n1 < 258)
      | 1 => decide (tables_1[pl]? = some (.methodLink (am_nm mid).cls idx arraycopyName))
      | 2 => decide (tables_1[pl]? = some (.methodLink (am_nm mid).cls idx Lib.Math.max.name))
      | 3 => decide (tables_1[pl]? = some (.methodLink (am_nm mid).cls idx Lib.Math.min.name))
      | _ => decide (tables_1[pl]? = some (.methodLink (am_nm mid).cls idx Lib.MathLoose.max_long.x)))
    | .invokespecial idx => decide (len = 3) && (match n3 with
      | 0 => (decide (tables_1[pl]? = some (.methodLink (am_nm mid).cls idx (am_nm n1))) || decide (tables_1[pl]? = some (.methodLinkNest (am_nm mid).cls idx (am_nm n1) "LoanPence"))) && !(am_iss n1) && decide ((am_nm n1).name = "<init>") && decide (am_rt n1 = none) && decide ((parseMethodDescriptor (am_nm n1).desc).map (fun d => d.parameters.length) = some (n2 - 1)) && decide (1 ≤ n2) && decide (n1 < 258)
      | _ => decide (tables_1[pl]? = some (.methodLink (am_nm mid).cls idx Lib.objectInit)))
    | _ => decide (len = 1)
def am_okl (mid : Nat) : List (Nat × am_E) → List Nat → Bool
  | [], _ => true
  | _ :: _, [] => false
  | (pc, o) :: r, pl :: ps => am_okb mid pc o pl && am_okl mid r ps
/-- what the tables say of a method that is called -/
def am_yok (mid : Nat) : Bool := match am_nth am_yps mid with
  | some (a, b, c, d) => decide (tables_1[a]? = some (.code (am_nm mid) (am_by mid) (am_mx mid) (am_rt mid))) && decide (tables_1[b]? = some (.initialized (am_nm mid).cls)) && decide ((am_nm mid).cls ≠ "java/lang/invoke/MethodHandle" ∧ (am_nm mid).cls ≠ "java/lang/invoke/VarHandle") && plainName (am_nm mid).cls && decide (am_mx mid ≤ 40) &&
    (match am_iss mid with
      | true => decide (tables_1[c]? = some (.static (am_nm mid)))
      | false => decide (tables_1[c]? = some (.instanceMethod (am_nm mid))) && (decide ((am_nm mid).name = "<init>") || decide (lw_tbl[d]? = some (.selects (am_nm mid).cls (am_nm mid) (am_nm mid)))))
  | none => false
def am_okm (mid : Nat) : Bool := match am_nth am_Ms mid, am_nth am_pls mid with
  | some M, some ps => am_okl mid M.1 ps && (decide (mid = 258) || am_yok mid) && decide (M.2.2 = true ↔ am_rt mid = some .boolean)
  | _, _ => false
