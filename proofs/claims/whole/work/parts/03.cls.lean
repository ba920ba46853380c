def T_Br : u_T := fun k => match k with
  | 0 => ("ScriptDesk$Branches", "open", "I", false)
  | _ => ("ScriptDesk$Branches", "lowestOff", "I", false)
def ty_Br : Nat → FieldType := fun k => match k with
  | 0 => .int
  | _ => .int
def T_Ma : u_T := fun k => match k with
  | 0 => ("ScriptDesk$Machine", "sha256", "LScriptDesk$Sum;", true)
  | 1 => ("ScriptDesk$Machine", "ripemd160", "LScriptDesk$Sum;", true)
  | 2 => ("ScriptDesk$Machine", "other", "LScriptDesk$Stack;", true)
  | 3 => ("ScriptDesk$Machine", "branches", "LScriptDesk$Branches;", true)
  | 4 => ("ScriptDesk$Machine", "yes", "LScriptDesk$Thing;", true)
  | 5 => ("ScriptDesk$Machine", "no", "LScriptDesk$Thing;", true)
  | 6 => ("ScriptDesk$Machine", "main", "LScriptDesk$Stack;", false)
  | _ => ("ScriptDesk$Machine", "counted", "I", false)
def ty_Ma : Nat → FieldType := fun k => match k with
  | 0 => .object "ScriptDesk$Sum"
  | 1 => .object "ScriptDesk$Sum"
  | 2 => .object "ScriptDesk$Stack"
  | 3 => .object "ScriptDesk$Branches"
  | 4 => .object "ScriptDesk$Thing"
  | 5 => .object "ScriptDesk$Thing"
  | 6 => .object "ScriptDesk$Stack"
  | _ => .int
def T_Ri : u_T := fun k => match k with
  | 0 => ("ScriptDesk$Ripemd160", "left", "[I", true)
  | 1 => ("ScriptDesk$Ripemd160", "right", "[I", true)
  | 2 => ("ScriptDesk$Sum", "state", "[I", true)
  | 3 => ("ScriptDesk$Sum", "words", "[I", true)
  | 4 => ("ScriptDesk$Sum", "start", "[I", true)
  | _ => ("ScriptDesk$Sum", "highFirst", "Z", true)
def ty_Ri : Nat → FieldType := fun k => match k with
  | 0 => .array .int
  | 1 => .array .int
  | 2 => .array .int
  | 3 => .array .int
  | 4 => .array .int
  | _ => .boolean
def T_Sh : u_T := fun k => match k with
  | 0 => ("ScriptDesk$Sha256", "turning", "[I", true)
  | 1 => ("ScriptDesk$Sum", "state", "[I", true)
  | 2 => ("ScriptDesk$Sum", "words", "[I", true)
  | 3 => ("ScriptDesk$Sum", "start", "[I", true)
  | _ => ("ScriptDesk$Sum", "highFirst", "Z", true)
def ty_Sh : Nat → FieldType := fun k => match k with
  | 0 => .array .int
  | 1 => .array .int
  | 2 => .array .int
  | 3 => .array .int
  | _ => .boolean
def T_St : u_T := fun k => match k with
  | 0 => ("ScriptDesk$Stack", "things", "[LScriptDesk$Thing;", true)
  | 1 => ("ScriptDesk$Stack", "none", "LScriptDesk$Thing;", true)
  | _ => ("ScriptDesk$Stack", "count", "I", false)
def ty_St : Nat → FieldType := fun k => match k with
  | 0 => .array (.object "ScriptDesk$Thing")
  | 1 => .object "ScriptDesk$Thing"
  | _ => .int
def T_Th : u_T := fun k => match k with
  | _ => ("ScriptDesk$Thing", "bytes", "[B", true)
def ty_Th : Nat → FieldType := fun k => match k with
  | _ => .array .byte
def T_De : u_T := fun k => match k with
  | 0 => ("ScriptDesk", "row", "[B", true)
  | 1 => ("ScriptDesk", "length", "I", false)
  | 2 => ("ScriptDesk", "sha256", "LScriptDesk$Sum;", true)
  | 3 => ("ScriptDesk", "ripemd160", "LScriptDesk$Sum;", true)
  | 4 => ("ScriptDesk", "machine", "LScriptDesk$Machine;", true)
  | _ => ("ScriptDesk", "stack", "LScriptDesk$Stack;", false)
def ty_De : Nat → FieldType := fun k => match k with
  | 0 => .array .byte
  | 1 => .int
  | 2 => .object "ScriptDesk$Sum"
  | 3 => .object "ScriptDesk$Sum"
  | 4 => .object "ScriptDesk$Machine"
  | _ => .object "ScriptDesk$Stack"
def T_Mo : u_T := fun k => match k with
  | 0 => ("ScriptDeskModel", "row", "[B", true)
  | 1 => ("ScriptDeskModel", "rows", "I", false)
  | 2 => ("ScriptDeskModel", "thrown", "I", false)
  | 3 => ("ScriptDeskModel", "kept", "[B", true)
  | 4 => ("ScriptDeskModel", "keptSize", "[I", true)
  | 5 => ("ScriptDeskModel", "s", "[I", true)
  | 6 => ("ScriptDeskModel", "w", "[I", true)
  | 7 => ("ScriptDeskModel", "hash", "[B", true)
  | 8 => ("ScriptDeskModel", "padded", "[B", true)
  | 9 => ("ScriptDeskModel", "thing", "[B", true)
  | 10 => ("ScriptDeskModel", "size", "[I", true)
  | 11 => ("ScriptDeskModel", "deep", "I", false)
  | 12 => ("ScriptDeskModel", "aside", "I", false)
  | 13 => ("ScriptDeskModel", "ops", "I", false)
  | _ => ("ScriptDeskModel", "taken", "[Z", true)
def ty_Mo : Nat → FieldType := fun k => match k with
  | 0 => .array .byte
  | 1 => .int
  | 2 => .int
  | 3 => .array .byte
  | 4 => .array .int
  | 5 => .array .int
  | 6 => .array .int
  | 7 => .array .byte
  | 8 => .array .byte
  | 9 => .array .byte
  | 10 => .array .int
  | 11 => .int
  | 12 => .int
  | 13 => .int
  | _ => .array .boolean
abbrev vwCl : List vw_C := [("ScriptDesk$Branches", T_Br, 2), ("ScriptDesk$Machine", T_Ma, 8), ("ScriptDesk$Ripemd160", T_Ri, 6), ("ScriptDesk$Sha256", T_Sh, 5), ("ScriptDesk$Stack", T_St, 3), ("ScriptDesk$Thing", T_Th, 1), ("ScriptDesk", T_De, 6), ("ScriptDeskModel", T_Mo, 15)]
def tb_Ri_LEFT_ADDENDS : List Int32 := [0, 1518500249, 1859775393, (-1894007588), (-1454113458)]
def tb_Ri_LEFT_TURNS : List Int32 := [11, 14, 15, 12, 5, 8, 7, 9, 11, 13, 14, 15, 6, 7, 9, 8, 7, 6, 8, 13, 11, 9, 7, 15, 7, 12, 15, 9, 11, 7, 13, 12, 11, 13, 6, 7, 14, 9, 13, 15, 14, 8, 13, 6, 5, 12, 7, 5, 11, 12, 14, 15, 14, 15, 9, 8, 9, 14, 5, 6, 8, 6, 5, 12, 9, 15, 5, 11, 6, 8, 13, 12, 5, 12, 13, 14, 11, 8, 5, 6]
def tb_Ri_LEFT_WORDS : List Int32 := [0, 1, 2, 3, 4, 5, 6, 7, 8, 9, 10, 11, 12, 13, 14, 15, 7, 4, 13, 1, 10, 6, 15, 3, 12, 0, 9, 5, 2, 14, 11, 8, 3, 10, 14, 4, 9, 15, 8, 1, 2, 7, 0, 6, 13, 11, 5, 12, 1, 9, 11, 10, 0, 8, 12, 4, 13, 3, 7, 15, 14, 5, 6, 2, 4, 0, 5, 9, 7, 12, 2, 10, 14, 1, 3, 8, 11, 6, 15, 13]
def tb_Ri_RIGHT_ADDENDS : List Int32 := [1352829926, 1548603684, 1836072691, 2053994217, 0]
def tb_Ri_RIGHT_TURNS : List Int32 := [8, 9, 9, 11, 13, 15, 15, 5, 7, 7, 8, 11, 14, 14, 12, 6, 9, 13, 15, 7, 12, 8, 9, 11, 7, 7, 12, 7, 6, 15, 13, 11, 9, 7, 15, 11, 8, 6, 6, 14, 12, 13, 5, 14, 13, 13, 7, 5, 15, 5, 8, 11, 14, 14, 6, 14, 6, 9, 12, 9, 12, 5, 15, 8, 8, 5, 12, 9, 12, 5, 14, 6, 8, 13, 6, 5, 15, 13, 11, 11]
def tb_Ri_RIGHT_WORDS : List Int32 := [5, 14, 7, 0, 9, 2, 11, 4, 13, 6, 15, 8, 1, 10, 3, 12, 6, 11, 3, 7, 0, 13, 5, 10, 14, 15, 8, 12, 4, 9, 1, 2, 15, 5, 1, 3, 7, 14, 6, 9, 11, 8, 12, 2, 10, 0, 4, 13, 8, 6, 4, 1, 3, 11, 15, 0, 5, 12, 2, 13, 9, 7, 10, 14, 12, 15, 10, 4, 1, 5, 8, 7, 6, 2, 13, 14, 0, 3, 9, 11]
def tb_Ri_START : List Int32 := [1732584193, (-271733879), (-1732584194), 271733878, (-1009589776)]
def tb_Sh_ADDENDS : List Int32 := [1116352408, 1899447441, (-1245643825), (-373957723), 961987163, 1508970993, (-1841331548), (-1424204075), (-670586216), 310598401, 607225278, 1426881987, 1925078388, (-2132889090), (-1680079193), (-1046744716), (-459576895), (-272742522), 264347078, 604807628, 770255983, 1249150122, 1555081692, 1996064986, (-1740746414), (-1473132947), (-1341970488), (-1084653625), (-958395405), (-710438585), 113926993, 338241895, 666307205, 773529912, 1294757372, 1396182291, 1695183700, 1986661051, (-2117940946), (-1838011259), (-1564481375), (-1474664885), (-1035236496), (-949202525), (-778901479), (-694614492), (-200395387), 275423344, 430227734, 506948616, 659060556, 883997877, 958139571, 1322822218, 1537002063, 1747873779, 1955562222, 2024104815, (-2067236844), (-1933114872), (-1866530822), (-1538233109), (-1090935817), (-965641998)]
def tb_Sh_START : List Int32 := [1779033703, (-1150833019), 1013904242, (-1521486534), 1359893119, (-1694144372), 528734635, 1541459225]
def tb_Mo_K : List Int32 := [1116352408, 1899447441, (-1245643825), (-373957723), 961987163, 1508970993, (-1841331548), (-1424204075), (-670586216), 310598401, 607225278, 1426881987, 1925078388, (-2132889090), (-1680079193), (-1046744716), (-459576895), (-272742522), 264347078, 604807628, 770255983, 1249150122, 1555081692, 1996064986, (-1740746414), (-1473132947), (-1341970488), (-1084653625), (-958395405), (-710438585), 113926993, 338241895, 666307205, 773529912, 1294757372, 1396182291, 1695183700, 1986661051, (-2117940946), (-1838011259), (-1564481375), (-1474664885), (-1035236496), (-949202525), (-778901479), (-694614492), (-200395387), 275423344, 430227734, 506948616, 659060556, 883997877, 958139571, 1322822218, 1537002063, 1747873779, 1955562222, 2024104815, (-2067236844), (-1933114872), (-1866530822), (-1538233109), (-1090935817), (-965641998)]
def tb_Mo_KL : List Int32 := [0, 1518500249, 1859775393, (-1894007588), (-1454113458)]
def tb_Mo_KR : List Int32 := [1352829926, 1548603684, 1836072691, 2053994217, 0]
def tb_Mo_RL : List Int32 := [0, 1, 2, 3, 4, 5, 6, 7, 8, 9, 10, 11, 12, 13, 14, 15, 7, 4, 13, 1, 10, 6, 15, 3, 12, 0, 9, 5, 2, 14, 11, 8, 3, 10, 14, 4, 9, 15, 8, 1, 2, 7, 0, 6, 13, 11, 5, 12, 1, 9, 11, 10, 0, 8, 12, 4, 13, 3, 7, 15, 14, 5, 6, 2, 4, 0, 5, 9, 7, 12, 2, 10, 14, 1, 3, 8, 11, 6, 15, 13]
def tb_Mo_RR : List Int32 := [5, 14, 7, 0, 9, 2, 11, 4, 13, 6, 15, 8, 1, 10, 3, 12, 6, 11, 3, 7, 0, 13, 5, 10, 14, 15, 8, 12, 4, 9, 1, 2, 15, 5, 1, 3, 7, 14, 6, 9, 11, 8, 12, 2, 10, 0, 4, 13, 8, 6, 4, 1, 3, 11, 15, 0, 5, 12, 2, 13, 9, 7, 10, 14, 12, 15, 10, 4, 1, 5, 8, 7, 6, 2, 13, 14, 0, 3, 9, 11]
def tb_Mo_SL : List Int32 := [11, 14, 15, 12, 5, 8, 7, 9, 11, 13, 14, 15, 6, 7, 9, 8, 7, 6, 8, 13, 11, 9, 7, 15, 7, 12, 15, 9, 11, 7, 13, 12, 11, 13, 6, 7, 14, 9, 13, 15, 14, 8, 13, 6, 5, 12, 7, 5, 11, 12, 14, 15, 14, 15, 9, 8, 9, 14, 5, 6, 8, 6, 5, 12, 9, 15, 5, 11, 6, 8, 13, 12, 5, 12, 13, 14, 11, 8, 5, 6]
def tb_Mo_SR : List Int32 := [8, 9, 9, 11, 13, 15, 15, 5, 7, 7, 8, 11, 14, 14, 12, 6, 9, 13, 15, 7, 12, 8, 9, 11, 7, 7, 12, 7, 6, 15, 13, 11, 9, 7, 15, 11, 8, 6, 6, 14, 12, 13, 5, 14, 13, 13, 7, 5, 15, 5, 8, 11, 14, 14, 6, 14, 6, 9, 12, 9, 12, 5, 15, 8, 8, 5, 12, 9, 12, 5, 14, 6, 8, 13, 6, 5, 15, 13, 11, 11]
def tb_Mo_START : List Int32 := [1779033703, (-1150833019), 1013904242, (-1521486534), 1359893119, (-1694144372), 528734635, 1541459225]
def st_tab : List (String × String × List Int32) := [("ScriptDesk$Ripemd160", "LEFT_ADDENDS", tb_Ri_LEFT_ADDENDS), ("ScriptDesk$Ripemd160", "LEFT_TURNS", tb_Ri_LEFT_TURNS), ("ScriptDesk$Ripemd160", "LEFT_WORDS", tb_Ri_LEFT_WORDS), ("ScriptDesk$Ripemd160", "RIGHT_ADDENDS", tb_Ri_RIGHT_ADDENDS), ("ScriptDesk$Ripemd160", "RIGHT_TURNS", tb_Ri_RIGHT_TURNS), ("ScriptDesk$Ripemd160", "RIGHT_WORDS", tb_Ri_RIGHT_WORDS), ("ScriptDesk$Ripemd160", "START", tb_Ri_START), ("ScriptDesk$Sha256", "ADDENDS", tb_Sh_ADDENDS), ("ScriptDesk$Sha256", "START", tb_Sh_START), ("ScriptDeskModel", "K", tb_Mo_K), ("ScriptDeskModel", "KL", tb_Mo_KL), ("ScriptDeskModel", "KR", tb_Mo_KR), ("ScriptDeskModel", "RL", tb_Mo_RL), ("ScriptDeskModel", "RR", tb_Mo_RR), ("ScriptDeskModel", "SL", tb_Mo_SL), ("ScriptDeskModel", "SR", tb_Mo_SR), ("ScriptDeskModel", "START", tb_Mo_START)]
