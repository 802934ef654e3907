/-! PRINTED BY wip/whole/print.py: the tables of the program for the small machine. -/
def qr_TB : List Cond := lw_tbl.filter ai_st
def qr_T0 : u_T := fun k => match k with
  | 0 => ("QueryReader", "grammar", "LQueryReader$Grammar;", true)
  | 1 => ("QueryReader", "tape", "LQueryReader$Row;", true)
  | 2 => ("QueryReader", "plain", "LQueryReader$Row;", true)
  | 3 => ("QueryReader", "namesSeen", "LQueryReader$Names;", true)
  | _ => ("QueryReader", "kindRead", "I", false)
def qr_T1 : u_T := fun k => match k with
  | 0 => ("QueryReader$Grammar", "text", "LQueryReader$Row;", true)
  | 1 => ("QueryReader$Grammar", "plain", "LQueryReader$Row;", true)
  | 2 => ("QueryReader$Grammar", "tokens", "LQueryReader$Tokens;", true)
  | 3 => ("QueryReader$Grammar", "at", "I", false)
  | 4 => ("QueryReader$Grammar", "token", "LQueryReader$Sort;", false)
  | 5 => ("QueryReader$Grammar", "open", "I", false)
  | 6 => ("QueryReader$Grammar", "mostOpen", "I", false)
  | 7 => ("QueryReader$Grammar", "makes", "[I", true)
  | 8 => ("QueryReader$Grammar", "starts", "[I", true)
  | _ => ("QueryReader$Grammar", "pending", "I", false)
def qr_T2 : u_T := fun k => match k with
  | _ => ("QueryReader$Names", "slots", "[I", false)
def qr_T3 : u_T := fun k => match k with
  | 0 => ("QueryReader$Row", "bytes", "[B", false)
  | _ => ("QueryReader$Row", "size", "I", false)
def qr_T4 : u_T := fun k => match k with
  | 0 => ("QueryReader$Tokens", "sorts", "[LQueryReader$Sort;", false)
  | 1 => ("QueryReader$Tokens", "froms", "[I", false)
  | 2 => ("QueryReader$Tokens", "tos", "[I", false)
  | 3 => ("QueryReader$Tokens", "count", "I", false)
  | _ => ("QueryReader$Tokens", "reach", "I", false)
def qr_T5 : u_T := fun k => match k with
  | 0 => ("QueryReaderModel", "words", "[Ljava/lang/String;", true)
  | 1 => ("QueryReaderModel", "thrown", "I", false)
  | 2 => ("QueryReaderModel", "tape", "[B", true)
  | 3 => ("QueryReaderModel", "taped", "I", false)
  | 4 => ("QueryReaderModel", "text", "[B", true)
  | 5 => ("QueryReaderModel", "length", "I", false)
  | 6 => ("QueryReaderModel", "count", "I", false)
  | 7 => ("QueryReaderModel", "starts", "[I", true)
  | 8 => ("QueryReaderModel", "sorts", "[B", true)
  | 9 => ("QueryReaderModel", "sizes", "[S", true)
  | 10 => ("QueryReaderModel", "at", "I", false)
  | 11 => ("QueryReaderModel", "kept", "I", false)
  | 12 => ("QueryReaderModel", "row", "[I", true)
  | 13 => ("QueryReaderModel", "brackets", "[I", true)
  | 14 => ("QueryReaderModel", "open", "I", false)
  | 15 => ("QueryReaderModel", "deepest", "I", false)
  | 16 => ("QueryReaderModel", "statement", "I", false)
  | 17 => ("QueryReaderModel", "fault", "I", false)
  | 18 => ("QueryReaderModel", "begins", "I", false)
  | 19 => ("QueryReaderModel", "ends", "I", false)
  | 20 => ("QueryReaderModel", "made", "I", false)
  | 21 => ("QueryReaderModel", "waiting", "I", false)
  | 22 => ("QueryReaderModel", "waitRank", "[I", true)
  | 23 => ("QueryReaderModel", "waitFrom", "[I", true)
  | _ => ("QueryReaderModel", "seen", "[I", true)
def qr_T6 : u_T := fun k => match k with
  | 0 => ("java/lang/Enum", "ordinal", "I", false)
  | 1 => ("QueryReader$Sort", "text", "Ljava/lang/String;", false)
  | _ => ("QueryReader$Sort", "makes", "I", false)
def qr_T7 : u_T := fun k => match k with
  | 0 => ("java/lang/String", "value", "[B", false)
  | _ => ("java/lang/String", "coder", "B", false)
def qr_zc : Nat → String × u_T := fun ci => match ci with
  | 0 => ("QueryReader", qr_T0)
  | 1 => ("QueryReader$Grammar", qr_T1)
  | 2 => ("QueryReader$Names", qr_T2)
  | 3 => ("QueryReader$Row", qr_T3)
  | 4 => ("QueryReader$Tokens", qr_T4)
  | 5 => ("QueryReaderModel", qr_T5)
  | 6 => ("QueryReader$Sort", qr_T6)
  | _ => ("java/lang/String", qr_T7)
def qr_cl : List vw_C := [("QueryReader", qr_T0, 5), ("QueryReader$Grammar", qr_T1, 10), ("QueryReader$Names", qr_T2, 1), ("QueryReader$Row", qr_T3, 2), ("QueryReader$Tokens", qr_T4, 5), ("QueryReaderModel", qr_T5, 25)]
def qr_ty0 : Nat → FieldType := fun k => match k with
  | 0 => .object "QueryReader$Grammar"
  | 1 => .object "QueryReader$Row"
  | 2 => .object "QueryReader$Row"
  | 3 => .object "QueryReader$Names"
  | _ => .int
def qr_ty1 : Nat → FieldType := fun k => match k with
  | 0 => .object "QueryReader$Row"
  | 1 => .object "QueryReader$Row"
  | 2 => .object "QueryReader$Tokens"
  | 3 => .int
  | 4 => .object "QueryReader$Sort"
  | 5 => .int
  | 6 => .int
  | 7 => .array .int
  | 8 => .array .int
  | _ => .int
def qr_ty2 : Nat → FieldType := fun k => match k with
  | _ => .array .int
def qr_ty3 : Nat → FieldType := fun k => match k with
  | 0 => .array .byte
  | _ => .int
def qr_ty4 : Nat → FieldType := fun k => match k with
  | 0 => .array (.object "QueryReader$Sort")
  | 1 => .array .int
  | 2 => .array .int
  | 3 => .int
  | _ => .int
def qr_ty5 : Nat → FieldType := fun k => match k with
  | 0 => .array (.object "java/lang/String")
  | 1 => .int
  | 2 => .array .byte
  | 3 => .int
  | 4 => .array .byte
  | 5 => .int
  | 6 => .int
  | 7 => .array .int
  | 8 => .array .byte
  | 9 => .array .short
  | 10 => .int
  | 11 => .int
  | 12 => .array .int
  | 13 => .array .int
  | 14 => .int
  | 15 => .int
  | 16 => .int
  | 17 => .int
  | 18 => .int
  | 19 => .int
  | 20 => .int
  | 21 => .int
  | 22 => .array .int
  | 23 => .array .int
  | _ => .array .int
def qr_ty : Nat → Nat → FieldType := fun ci => match ci with
  | 0 => qr_ty0
  | 1 => qr_ty1
  | 2 => qr_ty2
  | 3 => qr_ty3
  | 4 => qr_ty4
  | _ => qr_ty5
def qr_df : Nat → List Value := fun ci => match ci with
  | 0 => [.null, .null, .null, .null, .int 0]
  | 1 => [.null, .null, .null, .int 0, .null, .int 0, .int 0, .null, .null, .int 0]
  | 2 => [.null]
  | 3 => [.null, .int 0]
  | 4 => [.null, .null, .null, .int 0, .int 0]
  | _ => [.null, .int 0, .null, .int 0, .null, .int 0, .int 0, .null, .null, .null, .int 0, .int 0, .null, .null, .int 0, .int 0, .int 0, .int 0, .int 0, .int 0, .int 0, .int 0, .null, .null, .null]
/-- the enum's constants: text, what it makes -/
def qr_en : List (Nat × Int32) := [(1015, 0), (1016, 0), (1017, 2), (1018, 0), (1019, 0), (1020, 0), (1021, 0), (1022, 0), (1023, 0), (1024, 0), (1025, 0), (1026, 0), (1027, 0), (1028, 0), (1029, 0), (1030, 0), (1031, 0), (1032, 0), (1033, 0), (1034, 0), (1035, 0), (1036, 0), (1037, 0), (1038, 0), (1039, 0), (1040, 0), (1041, 0), (1042, 0), (1043, 0), (1044, 0), (1045, 0), (1046, 0), (1047, 0), (1048, 0), (1049, 0), (1050, 0), (1051, 0), (1052, 0), (1053, 0), (1054, 0), (1055, 0), (1056, 0), (1057, 0), (1058, 0), (1059, 0), (1060, 0), (1061, 0), (1062, 0), (1063, 0), (1064, 0), (1065, 0), (1066, 0), (1067, 0), (1068, 0), (1069, 1), (1070, 0), (1071, 0), (1072, 0), (1073, 0), (1074, 0), (1075, 0), (1076, 0), (1077, 0), (1078, 0), (1079, 0), (1080, 0), (1010, 0), (1081, 0), (1082, 0), (1083, 0), (1084, 0), (1085, 0), (1086, 0), (1087, 0), (1088, 0), (1089, 0), (1090, 0), (1091, 0), (1092, 0), (1093, 0), (1094, 0), (1095, 0), (1005, 0), (1008, 0), (1099, 0), (1098, 0), (1110, 0), (1107, 6), (1097, 6), (1096, 7), (1108, 7), (1109, 7), (1106, 5), (1100, 4), (1101, 4), (1102, 4), (1103, 4), (1104, 4), (1105, 4), (1111, 0), (1111, 0), (1111, 0), (1111, 0), (1111, 0)]
def qr_tx : List (List Int32) := [[97, 110, 111, 116, 104, 101, 114, 32, 116, 111, 107, 101, 110, 32, 109, 117, 115, 116, 32, 115, 116, 97, 110, 100, 32, 104, 101, 114, 101], [116, 111, 111, 32, 109, 97, 110, 121, 32, 97, 114, 101, 32, 111, 112, 101, 110], [97, 32, 110, 97, 109, 101, 32, 109, 117, 115, 116, 32, 115, 116, 97, 110, 100, 32, 104, 101, 114, 101], [97, 32, 110, 117, 109, 98, 101, 114, 32, 109, 117, 115, 116, 32, 115, 116, 97, 110, 100, 32, 104, 101, 114, 101], [116, 111, 111, 32, 109, 97, 110, 121, 32, 97, 114, 101, 32, 112, 101, 110, 100, 105, 110, 103], [40], [67, 82, 79, 83, 83, 32, 74, 79, 73, 78], [110, 111, 32, 101, 120, 112, 114, 101, 115, 115, 105, 111, 110, 32, 98, 101, 103, 105, 110, 115, 32, 115, 111], [41], [79, 78, 32, 68, 69, 76, 69, 84, 69, 32, 82, 69, 83, 84, 82, 73, 67, 84], [83, 69, 82, 73, 65, 76, 73, 90, 65, 66, 76, 69], [110, 111, 32, 115, 116, 97, 116, 101, 109, 101, 110, 116, 32, 98, 101, 103, 105, 110, 115, 32, 115, 111], [110, 111, 32, 114, 111, 111, 109, 32, 102, 111, 114, 32, 116, 119, 101, 110, 116, 121, 32, 98, 121, 116, 101, 115], [116, 104, 101, 32, 116, 97, 112, 101, 32, 104, 97, 115, 32, 110, 111, 116, 32, 115, 111, 32, 109, 97, 110, 121, 32, 98, 121, 116, 101, 115], [116, 104, 101, 32, 112, 108, 97, 105, 110, 32, 102, 111, 114, 109, 32, 104, 97, 115, 32, 110, 111, 32, 115, 117, 99, 104, 32, 99, 104, 97, 114, 97, 99, 116, 101, 114], [65, 66, 83], [65, 76, 76], [65, 78, 68], [65, 83], [65, 83, 67], [65, 86, 71], [66, 69, 71, 73, 78], [66, 69, 84, 87, 69, 69, 78], [66, 89], [67, 65, 83, 67, 65, 68, 69], [67, 65, 83, 69], [67, 65, 83, 84], [67, 72, 69, 67, 75], [67, 79, 65, 76, 69, 83, 67, 69], [67, 79, 77, 77, 73, 84], [67, 79, 77, 77, 73, 84, 84, 69, 68], [67, 79, 85, 78, 84], [67, 82, 69, 65, 84, 69], [67, 82, 79, 83, 83], [68, 69, 70, 65, 85, 76, 84], [68, 69, 76, 69, 84, 69], [68, 69, 83, 67], [68, 73, 83, 84, 73, 78, 67, 84], [68, 82, 79, 80], [69, 76, 83, 69], [69, 78, 68], [69, 88, 67, 76, 85, 83, 73, 86, 69], [69, 88, 73, 83, 84, 83], [70, 82, 79, 77], [71, 82, 79, 85, 80], [72, 65, 86, 73, 78, 71], [73, 78], [73, 78, 68, 69, 88], [73, 78, 78, 69, 82], [73, 78, 83, 69, 82, 84], [73, 78, 84], [73, 78, 84, 79], [73, 83], [74, 79, 73, 78], [75, 69, 89], [76, 69, 70, 84], [76, 69, 78, 71, 84, 72], [76, 73, 75, 69], [76, 73, 77, 73, 84], [76, 79, 67, 75], [76, 79, 87, 69, 82], [77, 65, 88], [77, 73, 78], [77, 79, 68, 69], [78, 79, 84], [78, 85, 76, 76], [78, 85, 76, 76, 73, 70], [79, 70, 70, 83, 69, 84], [79, 78], [79, 82], [79, 82, 68, 69, 82], [79, 85, 84, 69, 82], [80, 82, 69, 80, 65, 82, 69], [80, 82, 69, 80, 65, 82, 69, 68], [80, 82, 73, 77, 65, 82, 89], [82, 69, 65, 68], [82, 69, 70, 69, 82, 69, 78, 67, 69, 83], [82, 69, 83, 84, 82, 73, 67, 84], [82, 79, 76, 76, 66, 65, 67, 75], [83, 65, 86, 69, 80, 79, 73, 78, 84], [83, 69, 76, 69, 67, 84], [83, 69, 84], [83, 72, 65, 82, 69], [83, 85, 66, 83, 84, 82], [83, 85, 77], [84, 65, 66, 76, 69], [84, 69, 88, 84], [84, 72, 69, 78], [84, 79], [85, 78, 67, 79, 77, 77, 73, 84, 84, 69, 68], [85, 78, 73, 81, 85, 69], [85, 80, 68, 65, 84, 69], [85, 80, 80, 69, 82], [86, 65, 76, 85, 69, 83], [87, 72, 69, 78], [87, 72, 69, 82, 69], [42], [45], [46], [44], [61], [60, 62], [60], [60, 61], [62], [62, 61], [124, 124], [43], [47], [37], [59], []]
def qr_sw : List Int32 := [20, 0, 0, 0, 0, 32, 7, 0, 0, 0, 19, 27, 0, 25, 8, 0, 28, 1, 0, 0, 5, 0, 0, 2, 0, 0, 0, 18, 0, 0, 0, 0, 0, 0, 3, 0, 0, 0, 0, 0, 0, 21, 0, 0, 11, 23, 31, 30, 0, 0, 15, 26, 0, 0, 0, 0, 0, 12, 0, 0, 0, 0, 0, 9, 10, 6, 0, 0, 0, 24, 29, 0, 0, 0, 0, 0, 0, 4, 22, 0, 0, 0, 17, 0, 0, 0, 0, 0, 0, 0, 0, 0, 0, 0, 0, 0, 0, 0, 0, 16, 13, 14, 0, 0]
/-- the constant objects: 0.. the constants of the enum, 1000.. the texts, 2000.. their bytes, 3000 the row of the constants, 3001 the table of the switches, 3002 the script -/
def qr_Z (L : Nat) (xs : Nat → Int32) : ai_S := fun k =>
  if k < 104 then some (ai_obj 6 [.int (Int32.ofNat k), .retAddr (qr_en.getD k (0, 0)).1, .int (qr_en.getD k (0, 0)).2])
  else if 1000 ≤ k ∧ k < 1112 then some (ai_obj 7 [.retAddr (k + 1000), .int 0])
  else if 2000 ≤ k ∧ k < 2112 then some (ai_num .byte (qr_tx.getD (k - 2000) []).length (fun j => (qr_tx.getD (k - 2000) []).getD j 0))
  else if k = 3000 then some (ai_refs "QueryReader$Sort" 104 (fun j => .retAddr j))
  else if k = 3001 then some (ai_num .int 104 (fun j => qr_sw.getD j 0))
  else if k = 3002 then some (ai_num .int L xs)
  else none
def qr_cn : Nat → String := fun ci => (qr_zc ci).1
def qr_G (L : Nat) (xs : Nat → Int32) : ai_G := (qr_Z L xs, qr_cn, qr_df, fun ci k v => ai_fit (qr_ty ci k) v)
def qr_ys : List (String × Nat × String × Nat) := [("QueryReader$Grammar", 180, "another token must stand here", 1000), ("QueryReader$Grammar", 172, "too many are open", 1001), ("QueryReader$Grammar", 194, "a name must stand here", 1002), ("QueryReader$Grammar", 206, "a number must stand here", 1003), ("QueryReader$Grammar", 487, "too many are pending", 1004), ("QueryReader$Grammar", 478, "(", 1005), ("QueryReader$Grammar", 412, "CROSS JOIN", 1006), ("QueryReader$Grammar", 516, "no expression begins so", 1007), ("QueryReader$Grammar", 469, ")", 1008), ("QueryReader$Grammar", 277, "ON DELETE RESTRICT", 1009), ("QueryReader$Grammar", 342, "SERIALIZABLE", 1010), ("QueryReader$Grammar", 139, "no statement begins so", 1011), ("QueryReader", 47, "no room for twenty bytes", 1012), ("QueryReader", 58, "the tape has not so many bytes", 1013), ("QueryReader", 78, "the plain form has no such character", 1014), ("QueryReaderModel", 9, "ABS", 1015), ("QueryReaderModel", 11, "ALL", 1016), ("QueryReaderModel", 13, "AND", 1017), ("QueryReaderModel", 15, "AS", 1018), ("QueryReaderModel", 17, "ASC", 1019), ("QueryReaderModel", 19, "AVG", 1020), ("QueryReaderModel", 21, "BEGIN", 1021), ("QueryReaderModel", 23, "BETWEEN", 1022), ("QueryReaderModel", 25, "BY", 1023), ("QueryReaderModel", 27, "CASCADE", 1024), ("QueryReaderModel", 29, "CASE", 1025), ("QueryReaderModel", 31, "CAST", 1026), ("QueryReaderModel", 33, "CHECK", 1027), ("QueryReaderModel", 35, "COALESCE", 1028), ("QueryReaderModel", 37, "COMMIT", 1029), ("QueryReaderModel", 39, "COMMITTED", 1030), ("QueryReaderModel", 41, "COUNT", 1031), ("QueryReaderModel", 43, "CREATE", 1032), ("QueryReaderModel", 45, "CROSS", 1033), ("QueryReaderModel", 47, "DEFAULT", 1034), ("QueryReaderModel", 49, "DELETE", 1035), ("QueryReaderModel", 51, "DESC", 1036), ("QueryReaderModel", 53, "DISTINCT", 1037), ("QueryReaderModel", 55, "DROP", 1038), ("QueryReaderModel", 57, "ELSE", 1039), ("QueryReaderModel", 59, "END", 1040), ("QueryReaderModel", 61, "EXCLUSIVE", 1041), ("QueryReaderModel", 63, "EXISTS", 1042), ("QueryReaderModel", 65, "FROM", 1043), ("QueryReaderModel", 67, "GROUP", 1044), ("QueryReaderModel", 69, "HAVING", 1045), ("QueryReaderModel", 71, "IN", 1046), ("QueryReaderModel", 73, "INDEX", 1047), ("QueryReaderModel", 75, "INNER", 1048), ("QueryReaderModel", 77, "INSERT", 1049), ("QueryReaderModel", 79, "INT", 1050), ("QueryReaderModel", 81, "INTO", 1051), ("QueryReaderModel", 83, "IS", 1052), ("QueryReaderModel", 85, "JOIN", 1053), ("QueryReaderModel", 87, "KEY", 1054), ("QueryReaderModel", 89, "LEFT", 1055), ("QueryReaderModel", 91, "LENGTH", 1056), ("QueryReaderModel", 93, "LIKE", 1057), ("QueryReaderModel", 95, "LIMIT", 1058), ("QueryReaderModel", 97, "LOCK", 1059), ("QueryReaderModel", 99, "LOWER", 1060), ("QueryReaderModel", 101, "MAX", 1061), ("QueryReaderModel", 103, "MIN", 1062), ("QueryReaderModel", 105, "MODE", 1063), ("QueryReaderModel", 107, "NOT", 1064), ("QueryReaderModel", 109, "NULL", 1065), ("QueryReaderModel", 111, "NULLIF", 1066), ("QueryReaderModel", 113, "OFFSET", 1067), ("QueryReaderModel", 115, "ON", 1068), ("QueryReaderModel", 117, "OR", 1069), ("QueryReaderModel", 119, "ORDER", 1070), ("QueryReaderModel", 121, "OUTER", 1071), ("QueryReaderModel", 123, "PREPARE", 1072), ("QueryReaderModel", 125, "PREPARED", 1073), ("QueryReaderModel", 127, "PRIMARY", 1074), ("QueryReaderModel", 129, "READ", 1075), ("QueryReaderModel", 131, "REFERENCES", 1076), ("QueryReaderModel", 133, "RESTRICT", 1077), ("QueryReaderModel", 135, "ROLLBACK", 1078), ("QueryReaderModel", 137, "SAVEPOINT", 1079), ("QueryReaderModel", 139, "SELECT", 1080), ("QueryReaderModel", 141, "SERIALIZABLE", 1010), ("QueryReaderModel", 143, "SET", 1081), ("QueryReaderModel", 145, "SHARE", 1082), ("QueryReaderModel", 147, "SUBSTR", 1083), ("QueryReaderModel", 149, "SUM", 1084), ("QueryReaderModel", 151, "TABLE", 1085), ("QueryReaderModel", 153, "TEXT", 1086), ("QueryReaderModel", 155, "THEN", 1087), ("QueryReaderModel", 157, "TO", 1088), ("QueryReaderModel", 159, "UNCOMMITTED", 1089), ("QueryReaderModel", 161, "UNIQUE", 1090), ("QueryReaderModel", 163, "UPDATE", 1091), ("QueryReaderModel", 165, "UPPER", 1092), ("QueryReaderModel", 167, "VALUES", 1093), ("QueryReaderModel", 169, "WHEN", 1094), ("QueryReaderModel", 171, "WHERE", 1095), ("QueryReaderModel", 343, "*", 1096), ("QueryReaderModel", 341, "-", 1097), ("QueryReaderModel", 305, "(", 1005), ("QueryReaderModel", 310, ")", 1008), ("QueryReaderModel", 408, ".", 1098), ("QueryReaderModel", 297, ",", 1099), ("QueryReaderModel", 325, "=", 1100), ("QueryReaderModel", 327, "<>", 1101), ("QueryReaderModel", 329, "<", 1102), ("QueryReaderModel", 331, "<=", 1103), ("QueryReaderModel", 333, ">", 1104), ("QueryReaderModel", 335, ">=", 1105), ("QueryReaderModel", 337, "||", 1106), ("QueryReaderModel", 339, "+", 1107), ("QueryReaderModel", 345, "/", 1108), ("QueryReaderModel", 347, "%", 1109), ("QueryReaderModel", 497, ";", 1110), ("QueryReader$Sort", 485, "", 1111), ("QueryReader$Sort", 464, "||", 1106), ("QueryReader$Sort", 470, "<>", 1101), ("QueryReader$Sort", 476, "<=", 1103), ("QueryReader$Sort", 482, ">=", 1105), ("QueryReader$Sort", 434, "(", 1005), ("QueryReader$Sort", 437, ")", 1008), ("QueryReader$Sort", 440, ",", 1099), ("QueryReader$Sort", 443, ".", 1098), ("QueryReader$Sort", 446, ";", 1110), ("QueryReader$Sort", 449, "+", 1107), ("QueryReader$Sort", 452, "-", 1097), ("QueryReader$Sort", 455, "*", 1096), ("QueryReader$Sort", 458, "/", 1108), ("QueryReader$Sort", 461, "%", 1109), ("QueryReader$Sort", 467, "=", 1100), ("QueryReader$Sort", 473, "<", 1102), ("QueryReader$Sort", 479, ">", 1104), ("QueryReader$Sort", 368, "CREATE", 1032), ("QueryReader$Sort", 361, "CASE", 1025), ("QueryReader$Sort", 376, "END", 1040), ("QueryReader$Sort", 422, "TABLE", 1085), ("QueryReader$Sort", 386, "INT", 1050), ("QueryReader$Sort", 423, "TEXT", 1086), ("QueryReader$Sort", 400, "NOT", 1064), ("QueryReader$Sort", 401, "NULL", 1065), ("QueryReader$Sort", 410, "PRIMARY", 1074), ("QueryReader$Sort", 390, "KEY", 1054), ("QueryReader$Sort", 370, "DEFAULT", 1034), ("QueryReader$Sort", 363, "CHECK", 1027), ("QueryReader$Sort", 378, "EXISTS", 1042), ("QueryReader$Sort", 416, "SELECT", 1080), ("QueryReader$Sort", 373, "DISTINCT", 1037), ("QueryReader$Sort", 354, "AS", 1018), ("QueryReader$Sort", 379, "FROM", 1043), ("QueryReader$Sort", 404, "ON", 1068), ("QueryReader$Sort", 369, "CROSS", 1033), ("QueryReader$Sort", 391, "LEFT", 1055), ("QueryReader$Sort", 407, "OUTER", 1071), ("QueryReader$Sort", 389, "JOIN", 1053), ("QueryReader$Sort", 384, "INNER", 1048), ("QueryReader$Sort", 432, "WHERE", 1095), ("QueryReader$Sort", 380, "GROUP", 1044), ("QueryReader$Sort", 359, "BY", 1023), ("QueryReader$Sort", 381, "HAVING", 1045), ("QueryReader$Sort", 406, "ORDER", 1070), ("QueryReader$Sort", 355, "ASC", 1019), ("QueryReader$Sort", 372, "DESC", 1036), ("QueryReader$Sort", 394, "LIMIT", 1058), ("QueryReader$Sort", 403, "OFFSET", 1067), ("QueryReader$Sort", 431, "WHEN", 1094), ("QueryReader$Sort", 424, "THEN", 1087), ("QueryReader$Sort", 375, "ELSE", 1039), ("QueryReader$Sort", 362, "CAST", 1026), ("QueryReader$Sort", 367, "COUNT", 1031), ("QueryReader$Sort", 382, "IN", 1046), ("QueryReader$Sort", 358, "BETWEEN", 1022), ("QueryReader$Sort", 393, "LIKE", 1057), ("QueryReader$Sort", 388, "IS", 1052), ("QueryReader$Sort", 353, "AND", 1017), ("QueryReader$Sort", 412, "REFERENCES", 1076), ("QueryReader$Sort", 371, "DELETE", 1035), ("QueryReader$Sort", 418, "SET", 1081), ("QueryReader$Sort", 360, "CASCADE", 1024), ("QueryReader$Sort", 413, "RESTRICT", 1077), ("QueryReader$Sort", 427, "UNIQUE", 1090), ("QueryReader$Sort", 383, "INDEX", 1047), ("QueryReader$Sort", 374, "DROP", 1038), ("QueryReader$Sort", 385, "INSERT", 1049), ("QueryReader$Sort", 387, "INTO", 1051), ("QueryReader$Sort", 430, "VALUES", 1093), ("QueryReader$Sort", 428, "UPDATE", 1091), ("QueryReader$Sort", 357, "BEGIN", 1021), ("QueryReader$Sort", 411, "READ", 1075), ("QueryReader$Sort", 366, "COMMITTED", 1030), ("QueryReader$Sort", 426, "UNCOMMITTED", 1089), ("QueryReader$Sort", 417, "SERIALIZABLE", 1010), ("QueryReader$Sort", 365, "COMMIT", 1029), ("QueryReader$Sort", 409, "PREPARED", 1073), ("QueryReader$Sort", 414, "ROLLBACK", 1078), ("QueryReader$Sort", 425, "TO", 1088), ("QueryReader$Sort", 415, "SAVEPOINT", 1079), ("QueryReader$Sort", 395, "LOCK", 1059), ("QueryReader$Sort", 419, "SHARE", 1082), ("QueryReader$Sort", 377, "EXCLUSIVE", 1041), ("QueryReader$Sort", 399, "MODE", 1063), ("QueryReader$Sort", 408, "PREPARE", 1072), ("QueryReader$Sort", 348, "ABS", 1015), ("QueryReader$Sort", 352, "ALL", 1016), ("QueryReader$Sort", 356, "AVG", 1020), ("QueryReader$Sort", 364, "COALESCE", 1028), ("QueryReader$Sort", 392, "LENGTH", 1056), ("QueryReader$Sort", 396, "LOWER", 1060), ("QueryReader$Sort", 397, "MAX", 1061), ("QueryReader$Sort", 398, "MIN", 1062), ("QueryReader$Sort", 402, "NULLIF", 1066), ("QueryReader$Sort", 405, "OR", 1069), ("QueryReader$Sort", 420, "SUBSTR", 1083), ("QueryReader$Sort", 421, "SUM", 1084), ("QueryReader$Sort", 429, "UPPER", 1092)]
def qr_yf : List (String × String × String × Value) := [("QueryReader$Sort", "ABS", "LQueryReader$Sort;", .retAddr 0), ("QueryReader$Sort", "ALL", "LQueryReader$Sort;", .retAddr 1), ("QueryReader$Sort", "AND", "LQueryReader$Sort;", .retAddr 2), ("QueryReader$Sort", "AS", "LQueryReader$Sort;", .retAddr 3), ("QueryReader$Sort", "ASC", "LQueryReader$Sort;", .retAddr 4), ("QueryReader$Sort", "AVG", "LQueryReader$Sort;", .retAddr 5), ("QueryReader$Sort", "BEGIN", "LQueryReader$Sort;", .retAddr 6), ("QueryReader$Sort", "BETWEEN", "LQueryReader$Sort;", .retAddr 7), ("QueryReader$Sort", "BY", "LQueryReader$Sort;", .retAddr 8), ("QueryReader$Sort", "CASCADE", "LQueryReader$Sort;", .retAddr 9), ("QueryReader$Sort", "CASE", "LQueryReader$Sort;", .retAddr 10), ("QueryReader$Sort", "CAST", "LQueryReader$Sort;", .retAddr 11), ("QueryReader$Sort", "CHECK", "LQueryReader$Sort;", .retAddr 12), ("QueryReader$Sort", "COALESCE", "LQueryReader$Sort;", .retAddr 13), ("QueryReader$Sort", "COMMIT", "LQueryReader$Sort;", .retAddr 14), ("QueryReader$Sort", "COMMITTED", "LQueryReader$Sort;", .retAddr 15), ("QueryReader$Sort", "COUNT", "LQueryReader$Sort;", .retAddr 16), ("QueryReader$Sort", "CREATE", "LQueryReader$Sort;", .retAddr 17), ("QueryReader$Sort", "CROSS", "LQueryReader$Sort;", .retAddr 18), ("QueryReader$Sort", "DEFAULT", "LQueryReader$Sort;", .retAddr 19), ("QueryReader$Sort", "DELETE", "LQueryReader$Sort;", .retAddr 20), ("QueryReader$Sort", "DESC", "LQueryReader$Sort;", .retAddr 21), ("QueryReader$Sort", "DISTINCT", "LQueryReader$Sort;", .retAddr 22), ("QueryReader$Sort", "DROP", "LQueryReader$Sort;", .retAddr 23), ("QueryReader$Sort", "ELSE", "LQueryReader$Sort;", .retAddr 24), ("QueryReader$Sort", "END", "LQueryReader$Sort;", .retAddr 25), ("QueryReader$Sort", "EXCLUSIVE", "LQueryReader$Sort;", .retAddr 26), ("QueryReader$Sort", "EXISTS", "LQueryReader$Sort;", .retAddr 27), ("QueryReader$Sort", "FROM", "LQueryReader$Sort;", .retAddr 28), ("QueryReader$Sort", "GROUP", "LQueryReader$Sort;", .retAddr 29), ("QueryReader$Sort", "HAVING", "LQueryReader$Sort;", .retAddr 30), ("QueryReader$Sort", "IN", "LQueryReader$Sort;", .retAddr 31), ("QueryReader$Sort", "INDEX", "LQueryReader$Sort;", .retAddr 32), ("QueryReader$Sort", "INNER", "LQueryReader$Sort;", .retAddr 33), ("QueryReader$Sort", "INSERT", "LQueryReader$Sort;", .retAddr 34), ("QueryReader$Sort", "INT", "LQueryReader$Sort;", .retAddr 35), ("QueryReader$Sort", "INTO", "LQueryReader$Sort;", .retAddr 36), ("QueryReader$Sort", "IS", "LQueryReader$Sort;", .retAddr 37), ("QueryReader$Sort", "JOIN", "LQueryReader$Sort;", .retAddr 38), ("QueryReader$Sort", "KEY", "LQueryReader$Sort;", .retAddr 39), ("QueryReader$Sort", "LEFT", "LQueryReader$Sort;", .retAddr 40), ("QueryReader$Sort", "LENGTH", "LQueryReader$Sort;", .retAddr 41), ("QueryReader$Sort", "LIKE", "LQueryReader$Sort;", .retAddr 42), ("QueryReader$Sort", "LIMIT", "LQueryReader$Sort;", .retAddr 43), ("QueryReader$Sort", "LOCK", "LQueryReader$Sort;", .retAddr 44), ("QueryReader$Sort", "LOWER", "LQueryReader$Sort;", .retAddr 45), ("QueryReader$Sort", "MAX", "LQueryReader$Sort;", .retAddr 46), ("QueryReader$Sort", "MIN", "LQueryReader$Sort;", .retAddr 47), ("QueryReader$Sort", "MODE", "LQueryReader$Sort;", .retAddr 48), ("QueryReader$Sort", "NOT", "LQueryReader$Sort;", .retAddr 49), ("QueryReader$Sort", "NULL", "LQueryReader$Sort;", .retAddr 50), ("QueryReader$Sort", "NULLIF", "LQueryReader$Sort;", .retAddr 51), ("QueryReader$Sort", "OFFSET", "LQueryReader$Sort;", .retAddr 52), ("QueryReader$Sort", "ON", "LQueryReader$Sort;", .retAddr 53), ("QueryReader$Sort", "OR", "LQueryReader$Sort;", .retAddr 54), ("QueryReader$Sort", "ORDER", "LQueryReader$Sort;", .retAddr 55), ("QueryReader$Sort", "OUTER", "LQueryReader$Sort;", .retAddr 56), ("QueryReader$Sort", "PREPARE", "LQueryReader$Sort;", .retAddr 57), ("QueryReader$Sort", "PREPARED", "LQueryReader$Sort;", .retAddr 58), ("QueryReader$Sort", "PRIMARY", "LQueryReader$Sort;", .retAddr 59), ("QueryReader$Sort", "READ", "LQueryReader$Sort;", .retAddr 60), ("QueryReader$Sort", "REFERENCES", "LQueryReader$Sort;", .retAddr 61), ("QueryReader$Sort", "RESTRICT", "LQueryReader$Sort;", .retAddr 62), ("QueryReader$Sort", "ROLLBACK", "LQueryReader$Sort;", .retAddr 63), ("QueryReader$Sort", "SAVEPOINT", "LQueryReader$Sort;", .retAddr 64), ("QueryReader$Sort", "SELECT", "LQueryReader$Sort;", .retAddr 65), ("QueryReader$Sort", "SERIALIZABLE", "LQueryReader$Sort;", .retAddr 66), ("QueryReader$Sort", "SET", "LQueryReader$Sort;", .retAddr 67), ("QueryReader$Sort", "SHARE", "LQueryReader$Sort;", .retAddr 68), ("QueryReader$Sort", "SUBSTR", "LQueryReader$Sort;", .retAddr 69), ("QueryReader$Sort", "SUM", "LQueryReader$Sort;", .retAddr 70), ("QueryReader$Sort", "TABLE", "LQueryReader$Sort;", .retAddr 71), ("QueryReader$Sort", "TEXT", "LQueryReader$Sort;", .retAddr 72), ("QueryReader$Sort", "THEN", "LQueryReader$Sort;", .retAddr 73), ("QueryReader$Sort", "TO", "LQueryReader$Sort;", .retAddr 74), ("QueryReader$Sort", "UNCOMMITTED", "LQueryReader$Sort;", .retAddr 75), ("QueryReader$Sort", "UNIQUE", "LQueryReader$Sort;", .retAddr 76), ("QueryReader$Sort", "UPDATE", "LQueryReader$Sort;", .retAddr 77), ("QueryReader$Sort", "UPPER", "LQueryReader$Sort;", .retAddr 78), ("QueryReader$Sort", "VALUES", "LQueryReader$Sort;", .retAddr 79), ("QueryReader$Sort", "WHEN", "LQueryReader$Sort;", .retAddr 80), ("QueryReader$Sort", "WHERE", "LQueryReader$Sort;", .retAddr 81), ("QueryReader$Sort", "OPEN", "LQueryReader$Sort;", .retAddr 82), ("QueryReader$Sort", "CLOSE", "LQueryReader$Sort;", .retAddr 83), ("QueryReader$Sort", "COMMA", "LQueryReader$Sort;", .retAddr 84), ("QueryReader$Sort", "DOT", "LQueryReader$Sort;", .retAddr 85), ("QueryReader$Sort", "SEMICOLON", "LQueryReader$Sort;", .retAddr 86), ("QueryReader$Sort", "PLUS", "LQueryReader$Sort;", .retAddr 87), ("QueryReader$Sort", "MINUS", "LQueryReader$Sort;", .retAddr 88), ("QueryReader$Sort", "STAR", "LQueryReader$Sort;", .retAddr 89), ("QueryReader$Sort", "SLASH", "LQueryReader$Sort;", .retAddr 90), ("QueryReader$Sort", "PERCENT", "LQueryReader$Sort;", .retAddr 91), ("QueryReader$Sort", "BARS", "LQueryReader$Sort;", .retAddr 92), ("QueryReader$Sort", "EQUAL", "LQueryReader$Sort;", .retAddr 93), ("QueryReader$Sort", "UNEQUAL", "LQueryReader$Sort;", .retAddr 94), ("QueryReader$Sort", "LESS", "LQueryReader$Sort;", .retAddr 95), ("QueryReader$Sort", "AT_MOST", "LQueryReader$Sort;", .retAddr 96), ("QueryReader$Sort", "MORE", "LQueryReader$Sort;", .retAddr 97), ("QueryReader$Sort", "AT_LEAST", "LQueryReader$Sort;", .retAddr 98), ("QueryReader$Sort", "NAME", "LQueryReader$Sort;", .retAddr 99), ("QueryReader$Sort", "NUMBER", "LQueryReader$Sort;", .retAddr 100), ("QueryReader$Sort", "STRING", "LQueryReader$Sort;", .retAddr 101), ("QueryReader$Sort", "FINISH", "LQueryReader$Sort;", .retAddr 102), ("QueryReader$Sort", "WRONG", "LQueryReader$Sort;", .retAddr 103), ("QueryReader", "SORTS", "[LQueryReader$Sort;", .retAddr 3000), ("QueryReader$1", "$SwitchMap$QueryReader$Sort", "[I", .retAddr 3001), ("java/lang/String", "COMPACT_STRINGS", "Z", .int 1), ("jdk/internal/util/Preconditions", "SIOOBE_FORMATTER", "Ljava/util/function/BiFunction;", .float 0)]
def qr_yw : List Cond := [.isRef (.static Bundle.tN "UNASSIGNED_STACK" Bundle.steD), .isRef (.static Bundle.tN "SUPPRESSED_SENTINEL" Bundle.listD), .laysStatic Bundle.tN "UNASSIGNED_STACK" Bundle.steD, .laysStatic Bundle.tN "SUPPRESSED_SENTINEL" Bundle.listD]
def qr_Y (L : Nat) (xs : Nat → Int32) : ai_Y := (qr_G L xs, qr_zc, qr_cl, qr_ty, qr_ys, qr_yf, qr_yw)
def qr_Y0 : ai_Y := qr_Y 0 (fun _ => 0)
