/-! NAMES, by program out of the claim: the classes whose objects the heap holds, their fields, the methods with their instructions, the links. -/
def jw_big : List Cond := lw_tbl.filter goodWord
theorem jt_t1 {w : Cond} (h : w ∈ tables_1_1) : w ∈ tables_1 := List.mem_append_left _ h
theorem jt_i1 (i : Nat) {w : Cond} (h : tables_1_1[i]? = some w) (g : goodWord w = true) : w ∈ jw_big := List.mem_filter.mpr ⟨List.mem_append_right _ (jt_t1 (List.mem_of_getElem? h)), g⟩
theorem jt_t2 {w : Cond} (h : w ∈ tables_1_2) : w ∈ tables_1 := List.mem_append_right _ (List.mem_append_left _ h)
theorem jt_i2 (i : Nat) {w : Cond} (h : tables_1_2[i]? = some w) (g : goodWord w = true) : w ∈ jw_big := List.mem_filter.mpr ⟨List.mem_append_right _ (jt_t2 (List.mem_of_getElem? h)), g⟩
theorem jt_t3 {w : Cond} (h : w ∈ tables_1_3) : w ∈ tables_1 := List.mem_append_right _ (List.mem_append_right _ (List.mem_append_left _ h))
theorem jt_i3 (i : Nat) {w : Cond} (h : tables_1_3[i]? = some w) (g : goodWord w = true) : w ∈ jw_big := List.mem_filter.mpr ⟨List.mem_append_right _ (jt_t3 (List.mem_of_getElem? h)), g⟩
theorem jt_t4 {w : Cond} (h : w ∈ tables_1_4) : w ∈ tables_1 := List.mem_append_right _ (List.mem_append_right _ (List.mem_append_right _ (List.mem_append_left _ h)))
theorem jt_i4 (i : Nat) {w : Cond} (h : tables_1_4[i]? = some w) (g : goodWord w = true) : w ∈ jw_big := List.mem_filter.mpr ⟨List.mem_append_right _ (jt_t4 (List.mem_of_getElem? h)), g⟩
theorem jt_t5 {w : Cond} (h : w ∈ tables_1_5) : w ∈ tables_1 := List.mem_append_right _ (List.mem_append_right _ (List.mem_append_right _ (List.mem_append_right _ (List.mem_append_left _ h))))
theorem jt_i5 (i : Nat) {w : Cond} (h : tables_1_5[i]? = some w) (g : goodWord w = true) : w ∈ jw_big := List.mem_filter.mpr ⟨List.mem_append_right _ (jt_t5 (List.mem_of_getElem? h)), g⟩
theorem jt_t6 {w : Cond} (h : w ∈ tables_1_6) : w ∈ tables_1 := List.mem_append_right _ (List.mem_append_right _ (List.mem_append_right _ (List.mem_append_right _ (List.mem_append_right _ h))))
theorem jt_i6 (i : Nat) {w : Cond} (h : tables_1_6[i]? = some w) (g : goodWord w = true) : w ∈ jw_big := List.mem_filter.mpr ⟨List.mem_append_right _ (jt_t6 (List.mem_of_getElem? h)), g⟩
/-- the words of links across the nest, and some others: they hold on, but by laws of their own -/
def jw_n1 : List (String × Nat × String × String × String × String) := [("TemplateEngine$TemplateReader", 210, "TemplateEngine$Text", "chars", "[C", "TemplateEngine"), ("TemplateEngine", 163, "TemplateEngine$Text", "chars", "[C", "TemplateEngine"), ("TemplateEngine$TemplateReader", 42, "TemplateEngine$Text", "length", "I", "TemplateEngine"), ("TemplateEngine", 51, "TemplateEngine$Text", "length", "I", "TemplateEngine"), ("TemplateEngine$Value", 40, "TemplateEngine$Text", "length", "I", "TemplateEngine"), ("TemplateEngine", 99, "TemplateEngine$Value", "kind", "I", "TemplateEngine"), ("TemplateEngine$Renderer", 210, "TemplateEngine$Value", "kind", "I", "TemplateEngine"), ("TemplateEngine$Renderer", 222, "TemplateEngine$Value", "number", "I", "TemplateEngine"), ("TemplateEngine$Renderer", 204, "TemplateEngine$Value", "text", "LTemplateEngine$Text;", "TemplateEngine"), ("TemplateEngine$Renderer", 178, "TemplateEngine$Value", "entries", "[LTemplateEngine$Value;", "TemplateEngine"), ("TemplateEngine", 187, "TemplateEngine$Value", "entries", "[LTemplateEngine$Value;", "TemplateEngine"), ("TemplateEngine$Renderer", 171, "TemplateEngine$Value", "size", "I", "TemplateEngine"), ("TemplateEngine", 108, "TemplateEngine$Value", "size", "I", "TemplateEngine"), ("TemplateEngine", 184, "TemplateEngine$Value", "lastSearch", "I", "TemplateEngine"), ("TemplateEngine", 158, "TemplateEngine$Renderer", "rendered", "LTemplateEngine$Text;", "TemplateEngine"), ("TemplateEngine", 174, "TemplateEngine$Renderer", "tagsRendered", "I", "TemplateEngine"), ("TemplateEngine$Renderer", 89, "TemplateEngine$Part", "sort", "LTemplateEngine$Sort;", "TemplateEngine"), ("TemplateEngine$TemplateReader", 135, "TemplateEngine$Part", "sort", "LTemplateEngine$Sort;", "TemplateEngine"), ("TemplateEngine$TemplateReader", 96, "TemplateEngine$Part", "place", "I", "TemplateEngine"), ("TemplateEngine$TemplateReader", 106, "TemplateEngine$Part", "plain", "LTemplateEngine$Text;", "TemplateEngine"), ("TemplateEngine$Renderer", 99, "TemplateEngine$Part", "plain", "LTemplateEngine$Text;", "TemplateEngine"), ("TemplateEngine$Renderer", 109, "TemplateEngine$Part", "expression", "LTemplateEngine$Expression;", "TemplateEngine"), ("TemplateEngine$TemplateReader", 221, "TemplateEngine$Part", "expression", "LTemplateEngine$Expression;", "TemplateEngine"), ("TemplateEngine$Renderer", 125, "TemplateEngine$Part", "partial", "I", "TemplateEngine"), ("TemplateEngine$TemplateReader", 214, "TemplateEngine$Part", "partial", "I", "TemplateEngine"), ("TemplateEngine$Renderer", 135, "TemplateEngine$Part", "next", "LTemplateEngine$Part;", "TemplateEngine"), ("TemplateEngine$TemplateReader", 116, "TemplateEngine$Part", "next", "LTemplateEngine$Part;", "TemplateEngine"), ("TemplateEngine$Renderer", 70, "TemplateEngine$Part", "body", "LTemplateEngine$Part;", "TemplateEngine"), ("TemplateEngine$TemplateReader", 126, "TemplateEngine$Part", "body", "LTemplateEngine$Part;", "TemplateEngine"), ("TemplateEngine$TemplateReader", 123, "TemplateEngine$Part", "other", "LTemplateEngine$Part;", "TemplateEngine"), ("TemplateEngine$Renderer", 162, "TemplateEngine$Part", "other", "LTemplateEngine$Part;", "TemplateEngine"), ("TemplateEngine$TemplateReader", 119, "TemplateEngine$Part", "hasElse", "Z", "TemplateEngine"), ("TemplateEngine", 145, "TemplateEngine$TemplateReader", "root", "LTemplateEngine$Part;", "TemplateEngine"), ("TemplateEngine", 149, "TemplateEngine$TemplateReader", "tags", "I", "TemplateEngine"), ("TemplateEngine", 142, "TemplateEngine$TemplateReader", "fault", "I", "TemplateEngine"), ("TemplateEngine$Renderer", 235, "TemplateEngine$Operand", "sort", "LTemplateEngine$OperandSort;", "TemplateEngine"), ("TemplateEngine$Renderer", 243, "TemplateEngine$Operand", "literal", "LTemplateEngine$Value;", "TemplateEngine"), ("TemplateEngine$TemplateReader", 301, "TemplateEngine$Operand", "literal", "LTemplateEngine$Value;", "TemplateEngine"), ("TemplateEngine$Renderer", 250, "TemplateEngine$Operand", "back", "I", "TemplateEngine"), ("TemplateEngine$TemplateReader", 312, "TemplateEngine$Operand", "back", "I", "TemplateEngine"), ("TemplateEngine$Renderer", 253, "TemplateEngine$Operand", "steps", "[J", "TemplateEngine"), ("TemplateEngine$TemplateReader", 330, "TemplateEngine$Operand", "steps", "[J", "TemplateEngine"), ("TemplateEngine$Renderer", 197, "TemplateEngine$Expression", "helper", "LTemplateEngine$Helper;", "TemplateEngine"), ("TemplateEngine$Renderer", 181, "TemplateEngine$Expression", "first", "LTemplateEngine$Operand;", "TemplateEngine"), ("TemplateEngine$Renderer", 191, "TemplateEngine$Expression", "second", "LTemplateEngine$Operand;", "TemplateEngine"), ("TemplateEngine$TemplateReader", 253, "TemplateEngine$Helper", "opening", "Ljava/lang/String;", "TemplateEngine"), ("TemplateEngine$TemplateReader", 233, "TemplateEngine$Helper", "operands", "I", "TemplateEngine")]
def jw_n2 : List (String × Nat × MethodName × String) := [("TemplateEngine", 11, ⟨"TemplateEngine$Text", "<init>", "(I)V"⟩, "TemplateEngine"), ("TemplateEngine", 36, ⟨"TemplateEngine$Renderer", "<init>", "()V"⟩, "TemplateEngine"), ("TemplateEngine$Renderer", 20, ⟨"TemplateEngine$Value", "ofNumber", "(I)LTemplateEngine$Value;"⟩, "TemplateEngine"), ("TemplateEngine$Renderer", 30, ⟨"TemplateEngine$Text", "<init>", "(I)V"⟩, "TemplateEngine"), ("TemplateEngine$Renderer", 46, ⟨"TemplateEngine$Value", "ofText", "(LTemplateEngine$Text;)LTemplateEngine$Value;"⟩, "TemplateEngine"), ("TemplateEngine", 59, ⟨"TemplateEngine$Text", "append", "(C)V"⟩, "TemplateEngine"), ("TemplateEngine", 68, ⟨"TemplateEngine$Value", "ofNumber", "(I)LTemplateEngine$Value;"⟩, "TemplateEngine"), ("TemplateEngine", 76, ⟨"TemplateEngine$Text", "copyOf", "(II)LTemplateEngine$Text;"⟩, "TemplateEngine"), ("TemplateEngine", 80, ⟨"TemplateEngine$Value", "ofText", "(LTemplateEngine$Text;)LTemplateEngine$Value;"⟩, "TemplateEngine"), ("TemplateEngine", 84, ⟨"TemplateEngine$Text", "clear", "()V"⟩, "TemplateEngine"), ("TemplateEngine", 87, ⟨"TemplateEngine$Value", "ofEntries", "(I)LTemplateEngine$Value;"⟩, "TemplateEngine"), ("TemplateEngine", 113, ⟨"TemplateEngine$Value", "setEntry", "(IJLTemplateEngine$Value;)V"⟩, "TemplateEngine"), ("TemplateEngine", 117, ⟨"TemplateEngine$Text", "nameCode", "(II)J"⟩, "TemplateEngine"), ("TemplateEngine", 123, ⟨"TemplateEngine$Value", "placeOf", "(J)I"⟩, "TemplateEngine"), ("TemplateEngine", 136, ⟨"TemplateEngine$TemplateReader", "<init>", "(LTemplateEngine$Text;)V"⟩, "TemplateEngine"), ("TemplateEngine$TemplateReader", 17, ⟨"TemplateEngine$Part", "<init>", "(LTemplateEngine$Sort;I)V"⟩, "TemplateEngine"), ("TemplateEngine", 139, ⟨"TemplateEngine$TemplateReader", "takeApart", "()V"⟩, "TemplateEngine"), ("TemplateEngine$TemplateReader", 49, ⟨"TemplateEngine$Text", "find", "(Ljava/lang/String;I)I"⟩, "TemplateEngine"), ("TemplateEngine$TemplateReader", 102, ⟨"TemplateEngine$Text", "copyOf", "(II)LTemplateEngine$Text;"⟩, "TemplateEngine"), ("TemplateEngine$TemplateReader", 59, ⟨"TemplateEngine$Text", "hasWord", "(Ljava/lang/String;II)Z"⟩, "TemplateEngine"), ("TemplateEngine$TemplateReader", 278, ⟨"TemplateEngine$Operand", "<init>", "(LTemplateEngine$OperandSort;)V"⟩, "TemplateEngine"), ("TemplateEngine$TemplateReader", 295, ⟨"TemplateEngine$Value", "ofNumber", "(I)LTemplateEngine$Value;"⟩, "TemplateEngine"), ("TemplateEngine$TemplateReader", 305, ⟨"TemplateEngine$Value", "ofText", "(LTemplateEngine$Text;)LTemplateEngine$Value;"⟩, "TemplateEngine"), ("TemplateEngine$TemplateReader", 331, ⟨"TemplateEngine$Text", "nameCode", "(II)J"⟩, "TemplateEngine"), ("TemplateEngine$TemplateReader", 242, ⟨"TemplateEngine$Expression", "<init>", "(LTemplateEngine$Helper;LTemplateEngine$Operand;LTemplateEngine$Operand;)V"⟩, "TemplateEngine"), ("TemplateEngine", 154, ⟨"TemplateEngine$Renderer", "run", "([LTemplateEngine$Part;LTemplateEngine$Part;LTemplateEngine$Value;)V"⟩, "TemplateEngine"), ("TemplateEngine$Renderer", 54, ⟨"TemplateEngine$Text", "clear", "()V"⟩, "TemplateEngine"), ("TemplateEngine$Renderer", 102, ⟨"TemplateEngine$Text", "appendText", "(LTemplateEngine$Text;)V"⟩, "TemplateEngine"), ("TemplateEngine$Renderer", 216, ⟨"TemplateEngine$Value", "becomeNumber", "(I)LTemplateEngine$Value;"⟩, "TemplateEngine"), ("TemplateEngine$Renderer", 229, ⟨"TemplateEngine$Value", "elementAt", "(I)LTemplateEngine$Value;"⟩, "TemplateEngine"), ("TemplateEngine$Renderer", 259, ⟨"TemplateEngine$Value", "entryNamed", "(J)LTemplateEngine$Value;"⟩, "TemplateEngine"), ("TemplateEngine$Renderer", 266, ⟨"TemplateEngine$Text", "appendNumber", "(I)V"⟩, "TemplateEngine"), ("TemplateEngine$Renderer", 269, ⟨"TemplateEngine$Text", "append", "(C)V"⟩, "TemplateEngine"), ("TemplateEngine$Renderer", 275, ⟨"TemplateEngine$Text", "appendWord", "(Ljava/lang/String;)V"⟩, "TemplateEngine"), ("TemplateEngine$Renderer", 207, ⟨"TemplateEngine$Text", "raiseLetters", "()V"⟩, "TemplateEngine"), ("TemplateEngine$Renderer", 213, ⟨"TemplateEngine$Value", "measure", "()I"⟩, "TemplateEngine"), ("TemplateEngine$Renderer", 278, ⟨"TemplateEngine$Value", "isFalse", "()Z"⟩, "TemplateEngine"), ("TemplateEngine$Renderer", 225, ⟨"TemplateEngine$Text", "isLike", "(LTemplateEngine$Text;)Z"⟩, "TemplateEngine"), ("TemplateEngine$Renderer", 263, ⟨"TemplateEngine$Text", "appendEscaped", "(LTemplateEngine$Text;)V"⟩, "TemplateEngine"), ("TemplateEngine", 167, ⟨"TemplateEngine$Value", "measure", "()I"⟩, "TemplateEngine")]
def jw_n3 : List (String × String) := [("java/lang/IllegalArgumentException", "java/lang/IllegalArgumentException"), ("java/lang/IllegalStateException", "java/lang/IllegalStateException"), ("java/util/NoSuchElementException", "java/util/NoSuchElementException"), ("java/lang/IndexOutOfBoundsException", "java/lang/IndexOutOfBoundsException"), ("[J", "java/lang/Cloneable"), ("java/lang/ArithmeticException", "java/lang/ArithmeticException")]
def jw_n4 : List MethodName := [⟨"java/lang/RuntimeException", "<init>", "()V"⟩, ⟨"java/lang/RuntimeException", "<init>", "(Ljava/lang/String;)V"⟩, ⟨"java/lang/Exception", "<init>", "()V"⟩, ⟨"java/lang/Exception", "<init>", "(Ljava/lang/String;)V"⟩, ⟨"java/lang/Throwable", "<init>", "()V"⟩, ⟨"java/lang/Throwable", "<init>", "(Ljava/lang/String;)V"⟩, ⟨"java/lang/Enum", "ordinal", "()I"⟩]
def jw_nest : List Cond := jw_n1.map (fun q => .fieldLinkNest q.1 q.2.1 q.2.2.1 q.2.2.2.1 q.2.2.2.2.1 q.2.2.2.2.2) ++ (jw_n2.map (fun q => .methodLinkNest q.1 q.2.1 q.2.2.1 q.2.2.2) ++ (jw_n3.map (fun q => .castable q.1 q.2) ++ jw_n4.map (fun q => .declares q)))
theorem jt_n1 (i : Nat) {q : String × Nat × String × String × String × String} (h : jw_n1[i]? = some q) : Cond.fieldLinkNest q.1 q.2.1 q.2.2.1 q.2.2.2.1 q.2.2.2.2.1 q.2.2.2.2.2 ∈ jw_nest := List.mem_append_left _ (List.mem_map.mpr ⟨q, List.mem_of_getElem? h, rfl⟩)
theorem jt_n2 (i : Nat) {q : String × Nat × MethodName × String} (h : jw_n2[i]? = some q) : Cond.methodLinkNest q.1 q.2.1 q.2.2.1 q.2.2.2 ∈ jw_nest := List.mem_append_right _ (List.mem_append_left _ (List.mem_map.mpr ⟨q, List.mem_of_getElem? h, rfl⟩))
theorem jt_se {q : MethodName × Nat} (h : q ∈ lw_privs) : Cond.selects q.1.cls q.1 q.1 ∈ jw_big := List.mem_filter.mpr ⟨List.mem_append_left _ (List.mem_map.mpr ⟨q, h, rfl⟩), rfl⟩
def jc_T0 : u_T := fun k => match k with
  | 0 => ("TemplateEngine", "line", "LTemplateEngine$Text;", true)
  | 1 => ("TemplateEngine", "data", "[LTemplateEngine$Value;", true)
  | 2 => ("TemplateEngine", "dataCount", "I", false)
  | 3 => ("TemplateEngine", "searches", "I", false)
  | 4 => ("TemplateEngine", "templates", "[LTemplateEngine$Part;", true)
  | 5 => ("TemplateEngine", "fault", "I", false)
  | 6 => ("TemplateEngine", "renderer", "LTemplateEngine$Renderer;", true)
  | _ => ("TemplateEngine", "threw", "I", false)
def jc_t0 : Nat → FieldType := fun k => match k with
  | 0 => .object "TemplateEngine$Text"
  | 1 => .array (.object "TemplateEngine$Value")
  | 2 => .int
  | 3 => .int
  | 4 => .array (.object "TemplateEngine$Part")
  | 5 => .int
  | 6 => .object "TemplateEngine$Renderer"
  | _ => .int
def jc_T1 : u_T := fun k => match k with
  | 0 => ("TemplateEngine$Text", "chars", "[C", true)
  | _ => ("TemplateEngine$Text", "length", "I", false)
def jc_t1 : Nat → FieldType := fun k => match k with
  | 0 => .array (.char)
  | _ => .int
def jc_T2 : u_T := fun k => match k with
  | 0 => ("TemplateEngine$Value", "kind", "I", false)
  | 1 => ("TemplateEngine$Value", "number", "I", false)
  | 2 => ("TemplateEngine$Value", "text", "LTemplateEngine$Text;", false)
  | 3 => ("TemplateEngine$Value", "entries", "[LTemplateEngine$Value;", false)
  | 4 => ("TemplateEngine$Value", "names", "[J", false)
  | 5 => ("TemplateEngine$Value", "size", "I", false)
  | _ => ("TemplateEngine$Value", "lastSearch", "I", false)
def jc_t2 : Nat → FieldType := fun k => match k with
  | 0 => .int
  | 1 => .int
  | 2 => .object "TemplateEngine$Text"
  | 3 => .array (.object "TemplateEngine$Value")
  | 4 => .array (.long)
  | 5 => .int
  | _ => .int
def jc_T3 : u_T := fun k => match k with
  | 0 => ("TemplateEngine$Renderer", "contexts", "[LTemplateEngine$Value;", true)
  | 1 => ("TemplateEngine$Renderer", "contextCount", "I", false)
  | 2 => ("TemplateEngine$Renderer", "slots", "[LTemplateEngine$Value;", true)
  | 3 => ("TemplateEngine$Renderer", "secondSlot", "LTemplateEngine$Value;", true)
  | 4 => ("TemplateEngine$Renderer", "left", "LTemplateEngine$Text;", true)
  | 5 => ("TemplateEngine$Renderer", "right", "LTemplateEngine$Text;", true)
  | 6 => ("TemplateEngine$Renderer", "result", "LTemplateEngine$Text;", false)
  | 7 => ("TemplateEngine$Renderer", "rendered", "LTemplateEngine$Text;", false)
  | 8 => ("TemplateEngine$Renderer", "templates", "[LTemplateEngine$Part;", false)
  | 9 => ("TemplateEngine$Renderer", "underWay", "I", false)
  | 10 => ("TemplateEngine$Renderer", "turn", "I", false)
  | 11 => ("TemplateEngine$Renderer", "tagsMet", "I", false)
  | _ => ("TemplateEngine$Renderer", "tagsRendered", "I", false)
def jc_t3 : Nat → FieldType := fun k => match k with
  | 0 => .array (.object "TemplateEngine$Value")
  | 1 => .int
  | 2 => .array (.object "TemplateEngine$Value")
  | 3 => .object "TemplateEngine$Value"
  | 4 => .object "TemplateEngine$Text"
  | 5 => .object "TemplateEngine$Text"
  | 6 => .object "TemplateEngine$Text"
  | 7 => .object "TemplateEngine$Text"
  | 8 => .array (.object "TemplateEngine$Part")
  | 9 => .int
  | 10 => .int
  | 11 => .int
  | _ => .int
def jc_T4 : u_T := fun k => match k with
  | 0 => ("TemplateEngine$TemplateReader", "source", "LTemplateEngine$Text;", true)
  | 1 => ("TemplateEngine$TemplateReader", "root", "LTemplateEngine$Part;", true)
  | 2 => ("TemplateEngine$TemplateReader", "open", "[LTemplateEngine$Part;", true)
  | 3 => ("TemplateEngine$TemplateReader", "openBlocks", "I", false)
  | 4 => ("TemplateEngine$TemplateReader", "last", "LTemplateEngine$Part;", false)
  | 5 => ("TemplateEngine$TemplateReader", "tags", "I", false)
  | 6 => ("TemplateEngine$TemplateReader", "fault", "I", false)
  | 7 => ("TemplateEngine$TemplateReader", "cursor", "I", false)
  | 8 => ("TemplateEngine$TemplateReader", "end", "I", false)
  | _ => ("TemplateEngine$TemplateReader", "steps", "[J", true)
def jc_t4 : Nat → FieldType := fun k => match k with
  | 0 => .object "TemplateEngine$Text"
  | 1 => .object "TemplateEngine$Part"
  | 2 => .array (.object "TemplateEngine$Part")
  | 3 => .int
  | 4 => .object "TemplateEngine$Part"
  | 5 => .int
  | 6 => .int
  | 7 => .int
  | 8 => .int
  | _ => .array (.long)
def jc_T5 : u_T := fun k => match k with
  | 0 => ("TemplateEngine$Part", "sort", "LTemplateEngine$Sort;", true)
  | 1 => ("TemplateEngine$Part", "place", "I", true)
  | 2 => ("TemplateEngine$Part", "plain", "LTemplateEngine$Text;", false)
  | 3 => ("TemplateEngine$Part", "expression", "LTemplateEngine$Expression;", false)
  | 4 => ("TemplateEngine$Part", "partial", "I", false)
  | 5 => ("TemplateEngine$Part", "next", "LTemplateEngine$Part;", false)
  | 6 => ("TemplateEngine$Part", "body", "LTemplateEngine$Part;", false)
  | 7 => ("TemplateEngine$Part", "other", "LTemplateEngine$Part;", false)
  | _ => ("TemplateEngine$Part", "hasElse", "Z", false)
def jc_t5 : Nat → FieldType := fun k => match k with
  | 0 => .object "TemplateEngine$Sort"
  | 1 => .int
  | 2 => .object "TemplateEngine$Text"
  | 3 => .object "TemplateEngine$Expression"
  | 4 => .int
  | 5 => .object "TemplateEngine$Part"
  | 6 => .object "TemplateEngine$Part"
  | 7 => .object "TemplateEngine$Part"
  | _ => .boolean
def jc_T6 : u_T := fun k => match k with
  | 0 => ("TemplateEngine$Expression", "helper", "LTemplateEngine$Helper;", true)
  | 1 => ("TemplateEngine$Expression", "first", "LTemplateEngine$Operand;", true)
  | _ => ("TemplateEngine$Expression", "second", "LTemplateEngine$Operand;", true)
def jc_t6 : Nat → FieldType := fun k => match k with
  | 0 => .object "TemplateEngine$Helper"
  | 1 => .object "TemplateEngine$Operand"
  | _ => .object "TemplateEngine$Operand"
def jc_T7 : u_T := fun k => match k with
  | 0 => ("TemplateEngine$Operand", "sort", "LTemplateEngine$OperandSort;", true)
  | 1 => ("TemplateEngine$Operand", "literal", "LTemplateEngine$Value;", false)
  | 2 => ("TemplateEngine$Operand", "back", "I", false)
  | _ => ("TemplateEngine$Operand", "steps", "[J", false)
def jc_t7 : Nat → FieldType := fun k => match k with
  | 0 => .object "TemplateEngine$OperandSort"
  | 1 => .object "TemplateEngine$Value"
  | 2 => .int
  | _ => .array (.long)
def jc_T8 : u_T := fun k => match k with
  | 0 => ("TemplateEngineModel", "code", "I", false)
  | 1 => ("TemplateEngineModel", "threw", "I", false)
  | 2 => ("TemplateEngineModel", "typed", "I", false)
  | 3 => ("TemplateEngineModel", "error", "I", false)
  | 4 => ("TemplateEngineModel", "data", "I", false)
  | 5 => ("TemplateEngineModel", "seen", "I", false)
  | 6 => ("TemplateEngineModel", "lastSeen", "I", false)
  | 7 => ("TemplateEngineModel", "line", "[C", true)
  | 8 => ("TemplateEngineModel", "kind", "[I", true)
  | 9 => ("TemplateEngineModel", "many", "[I", true)
  | 10 => ("TemplateEngineModel", "texts", "[I", true)
  | 11 => ("TemplateEngineModel", "part", "[I", true)
  | 12 => ("TemplateEngineModel", "name", "[J", true)
  | 13 => ("TemplateEngineModel", "marked", "[Z", true)
  | 14 => ("TemplateEngineModel", "text", "[C", true)
  | 15 => ("TemplateEngineModel", "length", "[I", true)
  | 16 => ("TemplateEngineModel", "tags", "[I", true)
  | 17 => ("TemplateEngineModel", "there", "[Z", true)
  | 18 => ("TemplateEngineModel", "begin", "[I", true)
  | 19 => ("TemplateEngineModel", "end", "[I", true)
  | 20 => ("TemplateEngineModel", "from", "[I", true)
  | 21 => ("TemplateEngineModel", "to", "[I", true)
  | 22 => ("TemplateEngineModel", "sort", "[I", true)
  | 23 => ("TemplateEngineModel", "other", "[I", true)
  | 24 => ("TemplateEngineModel", "last", "[I", true)
  | 25 => ("TemplateEngineModel", "open", "[I", true)
  | 26 => ("TemplateEngineModel", "is", "[I", true)
  | 27 => ("TemplateEngineModel", "num", "[I", true)
  | 28 => ("TemplateEngineModel", "size", "[I", true)
  | 29 => ("TemplateEngineModel", "words", "[C", true)
  | 30 => ("TemplateEngineModel", "raw", "[C", true)
  | 31 => ("TemplateEngineModel", "out", "[C", true)
  | 32 => ("TemplateEngineModel", "result", "[C", true)
  | 33 => ("TemplateEngineModel", "rawSize", "I", false)
  | 34 => ("TemplateEngineModel", "outSize", "I", false)
  | 35 => ("TemplateEngineModel", "resultSize", "I", false)
  | 36 => ("TemplateEngineModel", "contexts", "I", false)
  | 37 => ("TemplateEngineModel", "under", "I", false)
  | 38 => ("TemplateEngineModel", "fail", "I", false)
  | 39 => ("TemplateEngineModel", "rawDeep", "I", false)
  | 40 => ("TemplateEngineModel", "inside", "[I", true)
  | 41 => ("TemplateEngineModel", "tagOf", "[I", true)
  | 42 => ("TemplateEngineModel", "turn", "[I", true)
  | 43 => ("TemplateEngineModel", "over", "[I", true)
  | 44 => ("TemplateEngineModel", "listOf", "[I", true)
  | 45 => ("TemplateEngineModel", "nextOf", "[I", true)
  | 46 => ("TemplateEngineModel", "isOther", "[Z", true)
  | _ => ("TemplateEngineModel", "isPartial", "[Z", true)
def jc_t8 : Nat → FieldType := fun k => match k with
  | 0 => .int
  | 1 => .int
  | 2 => .int
  | 3 => .int
  | 4 => .int
  | 5 => .int
  | 6 => .int
  | 7 => .array (.char)
  | 8 => .array (.int)
  | 9 => .array (.int)
  | 10 => .array (.int)
  | 11 => .array (.int)
  | 12 => .array (.long)
  | 13 => .array (.boolean)
  | 14 => .array (.char)
  | 15 => .array (.int)
  | 16 => .array (.int)
  | 17 => .array (.boolean)
  | 18 => .array (.int)
  | 19 => .array (.int)
  | 20 => .array (.int)
  | 21 => .array (.int)
  | 22 => .array (.int)
  | 23 => .array (.int)
  | 24 => .array (.int)
  | 25 => .array (.int)
  | 26 => .array (.int)
  | 27 => .array (.int)
  | 28 => .array (.int)
  | 29 => .array (.char)
  | 30 => .array (.char)
  | 31 => .array (.char)
  | 32 => .array (.char)
  | 33 => .int
  | 34 => .int
  | 35 => .int
  | 36 => .int
  | 37 => .int
  | 38 => .int
  | 39 => .int
  | 40 => .array (.int)
  | 41 => .array (.int)
  | 42 => .array (.int)
  | 43 => .array (.int)
  | 44 => .array (.int)
  | 45 => .array (.int)
  | 46 => .array (.boolean)
  | _ => .array (.boolean)
def jc_cl : List vw_C := [("TemplateEngine", jc_T0, 8), ("TemplateEngine$Text", jc_T1, 2), ("TemplateEngine$Value", jc_T2, 7), ("TemplateEngine$Renderer", jc_T3, 13), ("TemplateEngine$TemplateReader", jc_T4, 10), ("TemplateEngine$Part", jc_T5, 9), ("TemplateEngine$Expression", jc_T6, 3), ("TemplateEngine$Operand", jc_T7, 4), ("TemplateEngineModel", jc_T8, 48)]
def jc_ty (ci : Nat) : Nat → FieldType := match ci with
  | 0 => jc_t0
  | 1 => jc_t1
  | 2 => jc_t2
  | 3 => jc_t3
  | 4 => jc_t4
  | 5 => jc_t5
  | 6 => jc_t6
  | 7 => jc_t7
  | _ => jc_t8
def jc_at (t : Nat) : FieldType := match t with
  | 0 => .char
  | 1 => .int
  | 2 => .long
  | 3 => .boolean
  | 4 => .object "TemplateEngine$Value"
  | _ => .object "TemplateEngine$Part"
def jc_an : Nat := 6
def jc_strs : List (String × Nat × String) := [("TemplateEngine", 46, "no character 0 .. 127"), ("TemplateEngine", 56, "THE LINE is full"), ("TemplateEngine$Text", 21, "the text would be too long"), ("TemplateEngine", 66, "60 DATA were made"), ("TemplateEngine", 96, "no such DATA"), ("TemplateEngine", 106, "no LIST, or it would contain itself"), ("TemplateEngine", 111, "the LIST has 10"), ("TemplateEngine", 121, "no MAP, it would contain itself, or THE LINE is no NAME"), ("TemplateEngine", 127, "the MAP has 10 others"), ("TemplateEngine", 131, "no TEMPLATE 0 .. 3"), ("TemplateEngine$TemplateReader", 47, "{{"), ("TemplateEngine$TemplateReader", 57, "{{{"), ("TemplateEngine$TemplateReader", 63, "}}}"), ("TemplateEngine$TemplateReader", 65, "}}"), ("TemplateEngine$TemplateReader", 164, "!"), ("TemplateEngine$TemplateReader", 173, "#if "), ("TemplateEngine$TemplateReader", 175, "#each "), ("TemplateEngine$TemplateReader", 177, "#with "), ("TemplateEngine$TemplateReader", 179, "> "), ("TemplateEngine$TemplateReader", 184, "else"), ("TemplateEngine$TemplateReader", 192, "/if"), ("TemplateEngine$TemplateReader", 197, "/each"), ("TemplateEngine$TemplateReader", 202, "/with"), ("TemplateEngine$TemplateReader", 263, "\""), ("TemplateEngine$TemplateReader", 268, "@index"), ("TemplateEngine$TemplateReader", 281, "@first"), ("TemplateEngine$TemplateReader", 315, "../"), ("TemplateEngine$TemplateReader", 321, "this"), ("TemplateEngine$TemplateReader", 323, "."), ("TemplateEngine$TemplateReader", 238, " "), ("TemplateEngine", 143, "the template has a FAULT"), ("TemplateEngine", 152, "no such TEMPLATE or DATA"), ("TemplateEngine$Renderer", 140, "a 601st TAG would be come to"), ("TemplateEngine$Renderer", 273, "[map]"), ("TemplateEngine$Text", 39, "&amp;"), ("TemplateEngine$Text", 44, "&lt;"), ("TemplateEngine$Text", 46, "&gt;"), ("TemplateEngine$Text", 48, "&quot;"), ("TemplateEngine$Renderer", 147, "no such partial"), ("TemplateEngine$Renderer", 152, "a 4th TEMPLATE would be under way"), ("TemplateEngine", 161, "no such character"), ("TemplateEngine$Helper", 53, ""), ("TemplateEngine$Helper", 59, "up "), ("TemplateEngine$Helper", 62, "len "), ("TemplateEngine$Helper", 65, "not "), ("TemplateEngine$Helper", 68, "add "), ("TemplateEngine$Helper", 71, "eq "), ("TemplateEngine$Helper", 74, "at ")]
