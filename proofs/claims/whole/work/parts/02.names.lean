/-! NAMES: classes, fields, words, methods (by program) -/
def k_T0 : u_T := fun k => match k with
  | 0 => ("java/lang/String", "value", "[B", true)
  | 1 => ("java/lang/String", "coder", "B", true)
  | 2 => ("java/lang/String", "hash", "I", false)
  | _ => ("java/lang/String", "hashIsZero", "Z", false)
def k_y0 : Nat → FieldType := fun k => match k with
  | 0 => .array (.byte)
  | 1 => .byte
  | 2 => .int
  | _ => .boolean
def k_T1 : u_T := fun k => match k with
  | 0 => ("java/lang/AbstractStringBuilder", "value", "[B", false)
  | 1 => ("java/lang/AbstractStringBuilder", "coder", "B", false)
  | 2 => ("java/lang/AbstractStringBuilder", "maybeLatin1", "Z", false)
  | _ => ("java/lang/AbstractStringBuilder", "count", "I", false)
def k_y1 : Nat → FieldType := fun k => match k with
  | 0 => .array (.byte)
  | 1 => .byte
  | 2 => .boolean
  | _ => .int
def k_T2 : u_T := fun k => match k with
  | 0 => ("java/util/ArrayList", "elementData", "[Ljava/lang/Object;", false)
  | 1 => ("java/util/ArrayList", "size", "I", false)
  | _ => ("java/util/AbstractList", "modCount", "I", false)
def k_y2 : Nat → FieldType := fun k => match k with
  | 0 => .array (.object "java/lang/Object")
  | 1 => .int
  | _ => .int
def k_T3 : u_T := fun k => match k with
  | 0 => ("ReleaseSolverModel", "text", "[I", true)
  | 1 => ("ReleaseSolverModel", "length", "[I", true)
  | 2 => ("ReleaseSolverModel", "releases", "[I", true)
  | 3 => ("ReleaseSolverModel", "withdrawn", "[Z", true)
  | 4 => ("ReleaseSolverModel", "hosted", "[Z", true)
  | 5 => ("ReleaseSolverModel", "needs", "[I", true)
  | 6 => ("ReleaseSolverModel", "needed", "[I", true)
  | 7 => ("ReleaseSolverModel", "optional", "[Z", true)
  | 8 => ("ReleaseSolverModel", "asks", "I", false)
  | 9 => ("ReleaseSolverModel", "asked", "[I", true)
  | 10 => ("ReleaseSolverModel", "counts", "[Z", true)
  | 11 => ("ReleaseSolverModel", "now", "[I", true)
  | 12 => ("ReleaseSolverModel", "solved", "Z", false)
  | 13 => ("ReleaseSolverModel", "failed", "Z", false)
  | 14 => ("ReleaseSolverModel", "chosen", "[I", true)
  | 15 => ("ReleaseSolverModel", "blame", "[Z", true)
  | 16 => ("ReleaseSolverModel", "led", "[Z", true)
  | 17 => ("ReleaseSolverModel", "from", "I", false)
  | 18 => ("ReleaseSolverModel", "end", "I", false)
  | _ => ("ReleaseSolverModel", "worth", "[I", true)
def k_y3 : Nat → FieldType := fun k => match k with
  | 0 => .array (.int)
  | 1 => .array (.int)
  | 2 => .array (.int)
  | 3 => .array (.boolean)
  | 4 => .array (.boolean)
  | 5 => .array (.int)
  | 6 => .array (.int)
  | 7 => .array (.boolean)
  | 8 => .int
  | 9 => .array (.int)
  | 10 => .array (.boolean)
  | 11 => .array (.int)
  | 12 => .boolean
  | 13 => .boolean
  | 14 => .array (.int)
  | 15 => .array (.boolean)
  | 16 => .array (.boolean)
  | 17 => .int
  | 18 => .int
  | _ => .array (.int)
def k_T4 : u_T := fun k => match k with
  | 0 => ("ReleaseSolver$Search", "order", "[[I", true)
  | 1 => ("ReleaseSolver$Search", "usable", "[I", true)
  | 2 => ("ReleaseSolver$Search", "beside", "[[I", true)
  | 3 => ("ReleaseSolver$Search", "leads", "[I", true)
  | 4 => ("ReleaseSolver$Search", "askPlugins", "[I", true)
  | 5 => ("ReleaseSolver$Search", "askOptions", "[I", true)
  | 6 => ("ReleaseSolver$Search", "askCount", "I", false)
  | 7 => ("ReleaseSolver$Search", "asked", "I", false)
  | _ => ("ReleaseSolver$Search", "left", "[[I", true)
def k_y4 : Nat → FieldType := fun k => match k with
  | 0 => .array (.array (.int))
  | 1 => .array (.int)
  | 2 => .array (.array (.int))
  | 3 => .array (.int)
  | 4 => .array (.int)
  | 5 => .array (.int)
  | 6 => .int
  | 7 => .int
  | _ => .array (.array (.int))
def k_T5 : u_T := fun k => match k with
  | 0 => ("ReleaseSolver$Version", "ranks", "[I", true)
  | _ => ("ReleaseSolver$Version", "places", "[J", true)
def k_y5 : Nat → FieldType := fun k => match k with
  | 0 => .array (.int)
  | _ => .array (.long)
def k_T6 : u_T := fun k => match k with
  | 0 => ("ReleaseSolver$Plugin", "releases", "Ljava/util/ArrayList;", true)
  | _ => ("ReleaseSolver$Plugin", "falling", "[I", true)
def k_y6 : Nat → FieldType := fun k => match k with
  | 0 => .object "java/util/ArrayList"
  | _ => .array (.int)
def k_T7 : u_T := fun k => match k with
  | 0 => ("ReleaseSolver", "text", "Ljava/lang/StringBuilder;", true)
  | 1 => ("ReleaseSolver", "plugins", "[LReleaseSolver$Plugin;", true)
  | 2 => ("ReleaseSolver", "asks", "Ljava/util/ArrayList;", true)
  | 3 => ("ReleaseSolver", "search", "LReleaseSolver$Search;", true)
  | 4 => ("ReleaseSolver", "hostVersion", "LReleaseSolver$Version;", false)
  | 5 => ("ReleaseSolver", "solved", "Z", false)
  | 6 => ("ReleaseSolver", "selection", "[I", true)
  | _ => ("ReleaseSolver", "blame", "I", false)
def k_y7 : Nat → FieldType := fun k => match k with
  | 0 => .object "java/lang/StringBuilder"
  | 1 => .array (.object "ReleaseSolver$Plugin")
  | 2 => .object "java/util/ArrayList"
  | 3 => .object "ReleaseSolver$Search"
  | 4 => .object "ReleaseSolver$Version"
  | 5 => .boolean
  | 6 => .array (.int)
  | _ => .int
def k_T8 : u_T := fun k => match k with
  | 0 => ("ReleaseSolver$Release", "version", "LReleaseSolver$Version;", true)
  | 1 => ("ReleaseSolver$Release", "needs", "Ljava/util/ArrayList;", true)
  | 2 => ("ReleaseSolver$Release", "hostRange", "LReleaseSolver$Range;", false)
  | _ => ("ReleaseSolver$Release", "withdrawn", "Z", false)
def k_y8 : Nat → FieldType := fun k => match k with
  | 0 => .object "ReleaseSolver$Version"
  | 1 => .object "java/util/ArrayList"
  | 2 => .object "ReleaseSolver$Range"
  | _ => .boolean
def k_T9 : u_T := fun k => match k with
  | 0 => ("ReleaseSolver$Range", "lower", "LReleaseSolver$Version;", true)
  | 1 => ("ReleaseSolver$Range", "upper", "LReleaseSolver$Version;", true)
  | 2 => ("ReleaseSolver$Range", "withLower", "Z", true)
  | _ => ("ReleaseSolver$Range", "withUpper", "Z", true)
def k_y9 : Nat → FieldType := fun k => match k with
  | 0 => .object "ReleaseSolver$Version"
  | 1 => .object "ReleaseSolver$Version"
  | 2 => .boolean
  | _ => .boolean
def k_T10 : u_T := fun k => match k with
  | 0 => ("ReleaseSolver$Need", "plugin", "I", true)
  | 1 => ("ReleaseSolver$Need", "range", "LReleaseSolver$Range;", true)
  | _ => ("ReleaseSolver$Need", "optional", "Z", true)
def k_y10 : Nat → FieldType := fun k => match k with
  | 0 => .int
  | 1 => .object "ReleaseSolver$Range"
  | _ => .boolean
def k_T11 : u_T := fun k => match k with
  | 0 => ("ReleaseSolver$Ask", "plugin", "I", true)
  | _ => ("ReleaseSolver$Ask", "range", "LReleaseSolver$Range;", true)
def k_y11 : Nat → FieldType := fun k => match k with
  | 0 => .int
  | _ => .object "ReleaseSolver$Range"
abbrev rz_cl : List vw_C := [("java/lang/String", k_T0, 4), ("java/lang/StringBuilder", k_T1, 4), ("java/util/ArrayList", k_T2, 3), ("ReleaseSolverModel", k_T3, 20), ("ReleaseSolver$Search", k_T4, 9), ("ReleaseSolver$Version", k_T5, 2), ("ReleaseSolver$Plugin", k_T6, 2), ("ReleaseSolver", k_T7, 8), ("ReleaseSolver$Release", k_T8, 4), ("ReleaseSolver$Range", k_T9, 4), ("ReleaseSolver$Need", k_T10, 3), ("ReleaseSolver$Ask", k_T11, 2)]
def rz_bl : Nat → List Value := fun ci => match ci with
  | 0 => [.null, .int (Int32.ofInt 0), .int (Int32.ofInt 0), .int (Int32.ofInt 0)]
  | 1 => [.null, .int (Int32.ofInt 0), .int (Int32.ofInt 0), .int (Int32.ofInt 0)]
  | 2 => [.null, .int (Int32.ofInt 0), .int (Int32.ofInt 0)]
  | 3 => [.null, .null, .null, .null, .null, .null, .null, .null, .int (Int32.ofInt 0), .null, .null, .null, .int (Int32.ofInt 0), .int (Int32.ofInt 0), .null, .null, .null, .int (Int32.ofInt 0), .int (Int32.ofInt 0), .null]
  | 4 => [.null, .null, .null, .null, .null, .null, .int (Int32.ofInt 0), .int (Int32.ofInt 0), .null]
  | 5 => [.null, .null]
  | 6 => [.null, .null]
  | 7 => [.null, .null, .null, .null, .null, .int (Int32.ofInt 0), .null, .int (Int32.ofInt 0)]
  | 8 => [.null, .null, .null, .int (Int32.ofInt 0)]
  | 9 => [.null, .null, .int (Int32.ofInt 0), .int (Int32.ofInt 0)]
  | 10 => [.int (Int32.ofInt 0), .null, .int (Int32.ofInt 0)]
  | _ => [.int (Int32.ofInt 0), .null]
/-- words that follow from the tables: private methods of a class above are selected -/
def rz_more : List Cond := [.selects "java/lang/StringBuilder" ⟨"java/lang/AbstractStringBuilder", "ensureCapacityInternal", "(I)V"⟩ ⟨"java/lang/AbstractStringBuilder", "ensureCapacityInternal", "(I)V"⟩, .selects "java/lang/StringBuilder" ⟨"java/lang/AbstractStringBuilder", "newCapacity", "(I)I"⟩ ⟨"java/lang/AbstractStringBuilder", "newCapacity", "(I)I"⟩, .selects "java/lang/StringBuilder" ⟨"java/lang/AbstractStringBuilder", "inflate", "()V"⟩ ⟨"java/lang/AbstractStringBuilder", "inflate", "()V"⟩]
def rz_W : List Cond := (lw_tbl ++ rz_more).filter goodWord
theorem rz_mem (i : Nat) {w : Cond} (h : lw_tbl[i]? = some w) (hg : goodWord w = true) : w ∈ rz_W := List.mem_filter.mpr ⟨List.mem_append_left _ (List.mem_of_getElem? h), hg⟩
theorem rz_memM (i : Nat) {w : Cond} (h : rz_more[i]? = some w) (hg : goodWord w = true) : w ∈ rz_W := List.mem_filter.mpr ⟨List.mem_append_right _ (List.mem_of_getElem? h), hg⟩
theorem rz_good (w : Cond) (hw : w ∈ rz_W) : (w.onTables && w.keeps) = true ∨ ∃ ty, w = .arrayClass ty := good_of_word (List.mem_filter.mp hw).2
def rz_T (dA : Nat → ClassId) : List (ClassId × FieldType) := [(dA 0, .int), (dA 1, .boolean), (dA 2, .byte), (dA 3, .long), (dA 4, .object "java/lang/Object"), (dA 5, .object "ReleaseSolver$Plugin"), (dA 6, .array .int)]
def rz_NF : List (String × Nat × String × String × String × String) := [("ReleaseSolver$Search", 78, "ReleaseSolver$Plugin", "falling", "[I", "ReleaseSolver"), ("ReleaseSolver$Plugin", 32, "ReleaseSolver$Release", "version", "LReleaseSolver$Version;", "ReleaseSolver"), ("ReleaseSolver", 154, "ReleaseSolver$Release", "version", "LReleaseSolver$Version;", "ReleaseSolver"), ("ReleaseSolver", 118, "ReleaseSolver$Release", "needs", "Ljava/util/ArrayList;", "ReleaseSolver"), ("ReleaseSolver$Search", 91, "ReleaseSolver$Release", "needs", "Ljava/util/ArrayList;", "ReleaseSolver"), ("ReleaseSolver$Plugin", 56, "ReleaseSolver$Release", "needs", "Ljava/util/ArrayList;", "ReleaseSolver"), ("ReleaseSolver", 138, "ReleaseSolver$Release", "hostRange", "LReleaseSolver$Range;", "ReleaseSolver"), ("ReleaseSolver", 142, "ReleaseSolver$Release", "withdrawn", "Z", "ReleaseSolver"), ("ReleaseSolver$Plugin", 52, "ReleaseSolver$Release", "withdrawn", "Z", "ReleaseSolver"), ("ReleaseSolver$Search", 106, "ReleaseSolver$Need", "plugin", "I", "ReleaseSolver"), ("ReleaseSolver$Search", 109, "ReleaseSolver$Need", "range", "LReleaseSolver$Range;", "ReleaseSolver"), ("ReleaseSolver$Search", 117, "ReleaseSolver$Need", "optional", "Z", "ReleaseSolver"), ("ReleaseSolver$Search", 140, "ReleaseSolver$Ask", "plugin", "I", "ReleaseSolver"), ("ReleaseSolver", 222, "ReleaseSolver$Ask", "plugin", "I", "ReleaseSolver"), ("ReleaseSolver$Search", 141, "ReleaseSolver$Ask", "range", "LReleaseSolver$Range;", "ReleaseSolver"), ("ReleaseSolver", 225, "ReleaseSolver$Ask", "range", "LReleaseSolver$Range;", "ReleaseSolver")]
def rz_NM : List (String × Nat × MethodName × String) := [("ReleaseSolver", 31, ⟨"ReleaseSolver$Search", "<init>", "()V"⟩, "ReleaseSolver"), ("ReleaseSolver$Version", 52, ⟨"ReleaseSolver", "isSeparator", "(I)Z"⟩, "ReleaseSolver"), ("ReleaseSolver$Version", 58, ⟨"ReleaseSolver", "isDigit", "(I)Z"⟩, "ReleaseSolver"), ("ReleaseSolver$Version", 61, ⟨"ReleaseSolver", "isLetter", "(I)Z"⟩, "ReleaseSolver"), ("ReleaseSolver", 59, ⟨"ReleaseSolver$Plugin", "<init>", "()V"⟩, "ReleaseSolver"), ("ReleaseSolver$Search", 70, ⟨"ReleaseSolver", "hasBit", "(II)Z"⟩, "ReleaseSolver")]
def rz_NC : List (String × String) := [("[B", "java/lang/Cloneable"), ("ReleaseSolver$Release", "ReleaseSolver$Release"), ("ReleaseSolver$Need", "ReleaseSolver$Need"), ("ReleaseSolver$Ask", "ReleaseSolver$Ask"), ("ReleaseSolver", "java/lang/Object"), ("ReleaseSolver$Search", "java/lang/Object"), ("ReleaseSolver$Version", "java/lang/Object"), ("java/lang/String", "java/lang/Object"), ("ReleaseSolver$Plugin", "java/lang/Object"), ("ReleaseSolverModel", "java/lang/Object"), ("ReleaseSolver$Release", "java/lang/Object"), ("ReleaseSolver$Range", "java/lang/Object"), ("ReleaseSolver$Need", "java/lang/Object"), ("ReleaseSolver$Ask", "java/lang/Object")]
def rz_NA : List String := ["java/lang/Object", "ReleaseSolver$Plugin"]
/-- statics at the start: texts are of bytes; the empty list's array; a formatter, or null -/
def rz_Z (ad : Nat → Nat) : List (String × String × String × Value) := [("java/lang/String", "COMPACT_STRINGS", "Z", .int (Int32.ofInt 1)), ("java/util/ArrayList", "DEFAULTCAPACITY_EMPTY_ELEMENTDATA", "[Ljava/lang/Object;", .ref (ad 0)), ("jdk/internal/util/Preconditions", "SIOOBE_FORMATTER", "Ljava/util/function/BiFunction;", if ad 1 = 0 then .null else .ref (ad 2))]
def rz_S (ad : Nat → Nat) : List (String × Nat × String × Nat) := [("ReleaseSolver", 38, "1", ad 10), ("java/lang/StringLatin1", 151, "", ad 11), ("java/lang/StringUTF16", 295, "", ad 12), ("ReleaseSolver$Version", 83, "alpha", ad 13), ("ReleaseSolver$Version", 89, "a", ad 14), ("ReleaseSolver$Version", 91, "beta", ad 15), ("ReleaseSolver$Version", 93, "b", ad 16), ("ReleaseSolver$Version", 95, "milestone", ad 17), ("ReleaseSolver$Version", 97, "m", ad 18), ("ReleaseSolver$Version", 99, "rc", ad 19), ("ReleaseSolver$Version", 101, "cr", ad 20), ("ReleaseSolver$Version", 103, "snapshot", ad 21), ("ReleaseSolver$Version", 105, "ga", ad 22), ("ReleaseSolver$Version", 107, "final", ad 23), ("ReleaseSolver$Version", 109, "release", ad 24), ("ReleaseSolver$Version", 111, "sp", ad 25)]
theorem rz_lays (ci : Nat) (q : vw_C) (hq : rz_cl[ci]? = some q) : ∀ w ∈ u_ws q.1 q.2.1 q.2.2, w ∈ rz_W := by
  match ci, hq with
  | 0, hq =>
    cases hq
    have h : ∀ k, k < 4 → u_lay "java/lang/String" k_T0 k ∈ rz_W := by
      intro k hk
      match k, hk with
      | 0, _ => exact (rz_mem 300 (by decide +kernel) rfl)
      | 1, _ => exact (rz_mem 302 (by decide +kernel) rfl)
      | 2, _ => exact (rz_mem 304 (by decide +kernel) rfl)
      | 3, _ => exact (rz_mem 306 (by decide +kernel) rfl)
      | k + 4, hk => exact absurd hk (by omega)
    intro w hw
    obtain ⟨k, hk, rfl⟩ := List.mem_map.mp hw
    exact h k (List.mem_range.mp hk)
  | 1, hq =>
    cases hq
    have h : ∀ k, k < 4 → u_lay "java/lang/StringBuilder" k_T1 k ∈ rz_W := by
      intro k hk
      match k, hk with
      | 0, _ => exact (rz_mem 104 (by decide +kernel) rfl)
      | 1, _ => exact (rz_mem 106 (by decide +kernel) rfl)
      | 2, _ => exact (rz_mem 108 (by decide +kernel) rfl)
      | 3, _ => exact (rz_mem 110 (by decide +kernel) rfl)
      | k + 4, hk => exact absurd hk (by omega)
    intro w hw
    obtain ⟨k, hk, rfl⟩ := List.mem_map.mp hw
    exact h k (List.mem_range.mp hk)
  | 2, hq =>
    cases hq
    have h : ∀ k, k < 3 → u_lay "java/util/ArrayList" k_T2 k ∈ rz_W := by
      intro k hk
      match k, hk with
      | 0, _ => exact (rz_mem 135 (by decide +kernel) rfl)
      | 1, _ => exact (rz_mem 137 (by decide +kernel) rfl)
      | 2, _ => exact (rz_mem 139 (by decide +kernel) rfl)
      | k + 3, hk => exact absurd hk (by omega)
    intro w hw
    obtain ⟨k, hk, rfl⟩ := List.mem_map.mp hw
    exact h k (List.mem_range.mp hk)
  | 3, hq =>
    cases hq
    have h : ∀ k, k < 20 → u_lay "ReleaseSolverModel" k_T3 k ∈ rz_W := by
      intro k hk
      match k, hk with
      | 0, _ => exact (rz_mem 1009 (by decide +kernel) rfl)
      | 1, _ => exact (rz_mem 1011 (by decide +kernel) rfl)
      | 2, _ => exact (rz_mem 1013 (by decide +kernel) rfl)
      | 3, _ => exact (rz_mem 1015 (by decide +kernel) rfl)
      | 4, _ => exact (rz_mem 1017 (by decide +kernel) rfl)
      | 5, _ => exact (rz_mem 1019 (by decide +kernel) rfl)
      | 6, _ => exact (rz_mem 1021 (by decide +kernel) rfl)
      | 7, _ => exact (rz_mem 1023 (by decide +kernel) rfl)
      | 8, _ => exact (rz_mem 1025 (by decide +kernel) rfl)
      | 9, _ => exact (rz_mem 1027 (by decide +kernel) rfl)
      | 10, _ => exact (rz_mem 1029 (by decide +kernel) rfl)
      | 11, _ => exact (rz_mem 1031 (by decide +kernel) rfl)
      | 12, _ => exact (rz_mem 1033 (by decide +kernel) rfl)
      | 13, _ => exact (rz_mem 1035 (by decide +kernel) rfl)
      | 14, _ => exact (rz_mem 1037 (by decide +kernel) rfl)
      | 15, _ => exact (rz_mem 1039 (by decide +kernel) rfl)
      | 16, _ => exact (rz_mem 1041 (by decide +kernel) rfl)
      | 17, _ => exact (rz_mem 1043 (by decide +kernel) rfl)
      | 18, _ => exact (rz_mem 1045 (by decide +kernel) rfl)
      | 19, _ => exact (rz_mem 1047 (by decide +kernel) rfl)
      | k + 20, hk => exact absurd hk (by omega)
    intro w hw
    obtain ⟨k, hk, rfl⟩ := List.mem_map.mp hw
    exact h k (List.mem_range.mp hk)
  | 4, hq =>
    cases hq
    have h : ∀ k, k < 9 → u_lay "ReleaseSolver$Search" k_T4 k ∈ rz_W := by
      intro k hk
      match k, hk with
      | 0, _ => exact (rz_mem 159 (by decide +kernel) rfl)
      | 1, _ => exact (rz_mem 161 (by decide +kernel) rfl)
      | 2, _ => exact (rz_mem 163 (by decide +kernel) rfl)
      | 3, _ => exact (rz_mem 165 (by decide +kernel) rfl)
      | 4, _ => exact (rz_mem 167 (by decide +kernel) rfl)
      | 5, _ => exact (rz_mem 169 (by decide +kernel) rfl)
      | 6, _ => exact (rz_mem 171 (by decide +kernel) rfl)
      | 7, _ => exact (rz_mem 173 (by decide +kernel) rfl)
      | 8, _ => exact (rz_mem 175 (by decide +kernel) rfl)
      | k + 9, hk => exact absurd hk (by omega)
    intro w hw
    obtain ⟨k, hk, rfl⟩ := List.mem_map.mp hw
    exact h k (List.mem_range.mp hk)
  | 5, hq =>
    cases hq
    have h : ∀ k, k < 2 → u_lay "ReleaseSolver$Version" k_T5 k ∈ rz_W := by
      intro k hk
      match k, hk with
      | 0, _ => exact (rz_mem 370 (by decide +kernel) rfl)
      | 1, _ => exact (rz_mem 372 (by decide +kernel) rfl)
      | k + 2, hk => exact absurd hk (by omega)
    intro w hw
    obtain ⟨k, hk, rfl⟩ := List.mem_map.mp hw
    exact h k (List.mem_range.mp hk)
  | 6, hq =>
    cases hq
    have h : ∀ k, k < 2 → u_lay "ReleaseSolver$Plugin" k_T6 k ∈ rz_W := by
      intro k hk
      match k, hk with
      | 0, _ => exact (rz_mem 385 (by decide +kernel) rfl)
      | 1, _ => exact (rz_mem 387 (by decide +kernel) rfl)
      | k + 2, hk => exact absurd hk (by omega)
    intro w hw
    obtain ⟨k, hk, rfl⟩ := List.mem_map.mp hw
    exact h k (List.mem_range.mp hk)
  | 7, hq =>
    cases hq
    have h : ∀ k, k < 8 → u_lay "ReleaseSolver" k_T7 k ∈ rz_W := by
      intro k hk
      match k, hk with
      | 0, _ => exact (rz_mem 399 (by decide +kernel) rfl)
      | 1, _ => exact (rz_mem 401 (by decide +kernel) rfl)
      | 2, _ => exact (rz_mem 403 (by decide +kernel) rfl)
      | 3, _ => exact (rz_mem 405 (by decide +kernel) rfl)
      | 4, _ => exact (rz_mem 407 (by decide +kernel) rfl)
      | 5, _ => exact (rz_mem 409 (by decide +kernel) rfl)
      | 6, _ => exact (rz_mem 411 (by decide +kernel) rfl)
      | 7, _ => exact (rz_mem 413 (by decide +kernel) rfl)
      | k + 8, hk => exact absurd hk (by omega)
    intro w hw
    obtain ⟨k, hk, rfl⟩ := List.mem_map.mp hw
    exact h k (List.mem_range.mp hk)
  | 8, hq =>
    cases hq
    have h : ∀ k, k < 4 → u_lay "ReleaseSolver$Release" k_T8 k ∈ rz_W := by
      intro k hk
      match k, hk with
      | 0, _ => exact (rz_mem 606 (by decide +kernel) rfl)
      | 1, _ => exact (rz_mem 608 (by decide +kernel) rfl)
      | 2, _ => exact (rz_mem 610 (by decide +kernel) rfl)
      | 3, _ => exact (rz_mem 612 (by decide +kernel) rfl)
      | k + 4, hk => exact absurd hk (by omega)
    intro w hw
    obtain ⟨k, hk, rfl⟩ := List.mem_map.mp hw
    exact h k (List.mem_range.mp hk)
  | 9, hq =>
    cases hq
    have h : ∀ k, k < 4 → u_lay "ReleaseSolver$Range" k_T9 k ∈ rz_W := by
      intro k hk
      match k, hk with
      | 0, _ => exact (rz_mem 691 (by decide +kernel) rfl)
      | 1, _ => exact (rz_mem 693 (by decide +kernel) rfl)
      | 2, _ => exact (rz_mem 695 (by decide +kernel) rfl)
      | 3, _ => exact (rz_mem 697 (by decide +kernel) rfl)
      | k + 4, hk => exact absurd hk (by omega)
    intro w hw
    obtain ⟨k, hk, rfl⟩ := List.mem_map.mp hw
    exact h k (List.mem_range.mp hk)
  | 10, hq =>
    cases hq
    have h : ∀ k, k < 3 → u_lay "ReleaseSolver$Need" k_T10 k ∈ rz_W := by
      intro k hk
      match k, hk with
      | 0, _ => exact (rz_mem 775 (by decide +kernel) rfl)
      | 1, _ => exact (rz_mem 777 (by decide +kernel) rfl)
      | 2, _ => exact (rz_mem 779 (by decide +kernel) rfl)
      | k + 3, hk => exact absurd hk (by omega)
    intro w hw
    obtain ⟨k, hk, rfl⟩ := List.mem_map.mp hw
    exact h k (List.mem_range.mp hk)
  | 11, hq =>
    cases hq
    have h : ∀ k, k < 2 → u_lay "ReleaseSolver$Ask" k_T11 k ∈ rz_W := by
      intro k hk
      match k, hk with
      | 0, _ => exact (rz_mem 812 (by decide +kernel) rfl)
      | 1, _ => exact (rz_mem 814 (by decide +kernel) rfl)
      | k + 2, hk => exact absurd hk (by omega)
    intro w hw
    obtain ⟨k, hk, rfl⟩ := List.mem_map.mp hw
    exact h k (List.mem_range.mp hk)
  | n + 12, hq => simp [rz_cl] at hq
theorem rz_tys (ci : Nat) (q : vw_C) (hq : rz_cl[ci]? = some q) : (∃ ty0 : Nat → FieldType, ∀ k, k < q.2.2 → parseFieldDescriptor (q.2.1 k).2.2.1 = some (ty0 k)) ∧ ∀ a, a < q.2.2 → ∀ b, b < q.2.2 → a ≠ b → (q.2.1 a).2.1 ≠ (q.2.1 b).2.1 := by
  match ci, hq with
  | 0, hq =>
    cases hq
    exact ⟨⟨k_y0, by decide +kernel⟩, by decide +kernel⟩
  | 1, hq =>
    cases hq
    exact ⟨⟨k_y1, by decide +kernel⟩, by decide +kernel⟩
  | 2, hq =>
    cases hq
    exact ⟨⟨k_y2, by decide +kernel⟩, by decide +kernel⟩
  | 3, hq =>
    cases hq
    exact ⟨⟨k_y3, by decide +kernel⟩, by decide +kernel⟩
  | 4, hq =>
    cases hq
    exact ⟨⟨k_y4, by decide +kernel⟩, by decide +kernel⟩
  | 5, hq =>
    cases hq
    exact ⟨⟨k_y5, by decide +kernel⟩, by decide +kernel⟩
  | 6, hq =>
    cases hq
    exact ⟨⟨k_y6, by decide +kernel⟩, by decide +kernel⟩
  | 7, hq =>
    cases hq
    exact ⟨⟨k_y7, by decide +kernel⟩, by decide +kernel⟩
  | 8, hq =>
    cases hq
    exact ⟨⟨k_y8, by decide +kernel⟩, by decide +kernel⟩
  | 9, hq =>
    cases hq
    exact ⟨⟨k_y9, by decide +kernel⟩, by decide +kernel⟩
  | 10, hq =>
    cases hq
    exact ⟨⟨k_y10, by decide +kernel⟩, by decide +kernel⟩
  | 11, hq =>
    cases hq
    exact ⟨⟨k_y11, by decide +kernel⟩, by decide +kernel⟩
  | n + 12, hq => simp [rz_cl] at hq
theorem rz_born (ci : Nat) (q : vw_C) (hq : rz_cl[ci]? = some q) : ∃ ty0 : Nat → FieldType, (∀ k, k < q.2.2 → parseFieldDescriptor (q.2.1 k).2.2.1 = some (ty0 k)) ∧ (∀ j, j < q.2.2 → defaultValue (ty0 j) = vp_V (rz_bl ci) j) ∧ Cond.instantiable q.1 q.2.2 ∈ rz_W ∧ Cond.initialized q.1 ∈ rz_W := by
  match ci, hq with
  | 0, hq =>
    cases hq
    exact ⟨k_y0, by decide +kernel, by decide +kernel, (rz_mem 271 (by decide +kernel) rfl), (rz_mem 52 (by decide +kernel) rfl)⟩
  | 1, hq =>
    cases hq
    exact ⟨k_y1, by decide +kernel, by decide +kernel, (rz_mem 82 (by decide +kernel) rfl), (rz_mem 51 (by decide +kernel) rfl)⟩
  | 2, hq =>
    cases hq
    exact ⟨k_y2, by decide +kernel, by decide +kernel, (rz_mem 117 (by decide +kernel) rfl), (rz_mem 56 (by decide +kernel) rfl)⟩
  | 3, hq =>
    cases hq
    exact ⟨k_y3, by decide +kernel, by decide +kernel, (rz_mem 984 (by decide +kernel) rfl), (rz_mem 65 (by decide +kernel) rfl)⟩
  | 4, hq =>
    cases hq
    exact ⟨k_y4, by decide +kernel, by decide +kernel, (rz_mem 143 (by decide +kernel) rfl), (rz_mem 57 (by decide +kernel) rfl)⟩
  | 5, hq =>
    cases hq
    exact ⟨k_y5, by decide +kernel, by decide +kernel, (rz_mem 180 (by decide +kernel) rfl), (rz_mem 58 (by decide +kernel) rfl)⟩
  | 6, hq =>
    cases hq
    exact ⟨k_y6, by decide +kernel, by decide +kernel, (rz_mem 375 (by decide +kernel) rfl), (rz_mem 64 (by decide +kernel) rfl)⟩
  | 7, hq =>
    cases hq
    exact ⟨k_y7, by decide +kernel, by decide +kernel, (rz_mem 74 (by decide +kernel) rfl), (rz_mem 49 (by decide +kernel) rfl)⟩
  | 8, hq =>
    cases hq
    exact ⟨k_y8, by decide +kernel, by decide +kernel, (rz_mem 587 (by decide +kernel) rfl), (rz_mem 68 (by decide +kernel) rfl)⟩
  | 9, hq =>
    cases hq
    exact ⟨k_y9, by decide +kernel, by decide +kernel, (rz_mem 680 (by decide +kernel) rfl), (rz_mem 69 (by decide +kernel) rfl)⟩
  | 10, hq =>
    cases hq
    exact ⟨k_y10, by decide +kernel, by decide +kernel, (rz_mem 764 (by decide +kernel) rfl), (rz_mem 71 (by decide +kernel) rfl)⟩
  | 11, hq =>
    cases hq
    exact ⟨k_y11, by decide +kernel, by decide +kernel, (rz_mem 801 (by decide +kernel) rfl), (rz_mem 72 (by decide +kernel) rfl)⟩
  | n + 12, hq => simp [rz_cl] at hq
abbrev rz_X : Type := ByteArray × String × Nat × Option FieldType × String
abbrev x_Rs_init : rz_X := (prog_1_method_1_code, "ReleaseSolver", 2, none, "<init>")
abbrev y_Rs_init : MethodName := ⟨"ReleaseSolver", "<init>", "()V"⟩
abbrev x_Oj_init : rz_X := (object_method_1_code, "java/lang/Object", 1, none, "<init>")
abbrev y_Oj_init : MethodName := ⟨"java/lang/Object", "<init>", "()V"⟩
abbrev x_Sb_init : rz_X := (prog_18_method_1_code, "java/lang/StringBuilder", 1, none, "<init>")
abbrev y_Sb_init : MethodName := ⟨"java/lang/StringBuilder", "<init>", "()V"⟩
abbrev x_Ab_init : rz_X := (prog_12_method_2_code, "java/lang/AbstractStringBuilder", 2, none, "<init>")
abbrev y_Ab_init : MethodName := ⟨"java/lang/AbstractStringBuilder", "<init>", "(I)V"⟩
abbrev x_S2_newBytesFor : rz_X := (prog_20_method_2_code, "java/lang/StringUTF16", 1, some (.array (.byte)), "newBytesFor")
abbrev y_S2_newBytesFor : MethodName := ⟨"java/lang/StringUTF16", "newBytesFor", "(I)[B"⟩
abbrev x_S2_newBytesLength : rz_X := (prog_20_method_3_code, "java/lang/StringUTF16", 1, some (.int), "newBytesLength")
abbrev y_S2_newBytesLength : MethodName := ⟨"java/lang/StringUTF16", "newBytesLength", "(I)I"⟩
abbrev x_Al_init : rz_X := (prog_24_method_2_code, "java/util/ArrayList", 1, none, "<init>")
abbrev y_Al_init : MethodName := ⟨"java/util/ArrayList", "<init>", "()V"⟩
abbrev x_Ax_init : rz_X := (prog_23_method_1_code, "java/util/AbstractList", 1, none, "<init>")
abbrev y_Ax_init : MethodName := ⟨"java/util/AbstractList", "<init>", "()V"⟩
abbrev x_Ac_init : rz_X := (prog_22_method_1_code, "java/util/AbstractCollection", 1, none, "<init>")
abbrev y_Ac_init : MethodName := ⟨"java/util/AbstractCollection", "<init>", "()V"⟩
abbrev x_Se_init : rz_X := (prog_7_method_1_code, "ReleaseSolver$Search", 1, none, "<init>")
abbrev y_Se_init : MethodName := ⟨"ReleaseSolver$Search", "<init>", "()V"⟩
abbrev x_Ve_init : rz_X := (prog_8_method_1_code, "ReleaseSolver$Version", 4, none, "<init>")
abbrev y_Ve_init : MethodName := ⟨"ReleaseSolver$Version", "<init>", "(Ljava/lang/String;)V"⟩
abbrev x_Ar_fill : rz_X := (prog_25_method_103_code, "java/util/Arrays", 4, none, "fill")
abbrev y_Ar_fill : MethodName := ⟨"java/util/Arrays", "fill", "([II)V"⟩
abbrev x_St_length : rz_X := (prog_17_method_54_code, "java/lang/String", 1, some (.int), "length")
abbrev y_St_length : MethodName := ⟨"java/lang/String", "length", "()I"⟩
abbrev x_St_coder : rz_X := (prog_17_method_152_code, "java/lang/String", 1, some (.byte), "coder")
abbrev y_St_coder : MethodName := ⟨"java/lang/String", "coder", "()B"⟩
abbrev x_Ve_startsItem : rz_X := (prog_8_method_6_code, "ReleaseSolver$Version", 3, some (.boolean), "startsItem")
abbrev y_Ve_startsItem : MethodName := ⟨"ReleaseSolver$Version", "startsItem", "(Ljava/lang/String;I)Z"⟩
abbrev x_St_charAt : rz_X := (prog_17_method_56_code, "java/lang/String", 2, some (.char), "charAt")
abbrev y_St_charAt : MethodName := ⟨"java/lang/String", "charAt", "(I)C"⟩
abbrev x_St_isLatin1 : rz_X := (prog_17_method_154_code, "java/lang/String", 1, some (.boolean), "isLatin1")
abbrev y_St_isLatin1 : MethodName := ⟨"java/lang/String", "isLatin1", "()Z"⟩
abbrev x_S1_charAt : rz_X := (prog_19_method_2_code, "java/lang/StringLatin1", 2, some (.char), "charAt")
abbrev y_S1_charAt : MethodName := ⟨"java/lang/StringLatin1", "charAt", "([BI)C"⟩
abbrev x_St_checkIndex : rz_X := (prog_17_method_155_code, "java/lang/String", 2, none, "checkIndex")
abbrev y_St_checkIndex : MethodName := ⟨"java/lang/String", "checkIndex", "(II)V"⟩
abbrev x_Pr_checkIndex : rz_X := (prog_32_method_11_code, "jdk/internal/util/Preconditions", 3, some (.int), "checkIndex")
abbrev y_Pr_checkIndex : MethodName := ⟨"jdk/internal/util/Preconditions", "checkIndex", "(IILjava/util/function/BiFunction;)I"⟩
abbrev x_S2_charAt : rz_X := (prog_20_method_83_code, "java/lang/StringUTF16", 2, some (.char), "charAt")
abbrev y_S2_charAt : MethodName := ⟨"java/lang/StringUTF16", "charAt", "([BI)C"⟩
abbrev x_S2_checkIndex : rz_X := (prog_20_method_91_code, "java/lang/StringUTF16", 2, none, "checkIndex")
abbrev y_S2_checkIndex : MethodName := ⟨"java/lang/StringUTF16", "checkIndex", "(I[B)V"⟩
abbrev x_S2_length : rz_X := (prog_20_method_6_code, "java/lang/StringUTF16", 1, some (.int), "length")
abbrev y_S2_length : MethodName := ⟨"java/lang/StringUTF16", "length", "([B)I"⟩
abbrev x_S2_getChar : rz_X := (prog_20_method_5_code, "java/lang/StringUTF16", 2, some (.char), "getChar")
abbrev y_S2_getChar : MethodName := ⟨"java/lang/StringUTF16", "getChar", "([BI)C"⟩
abbrev x_Rs_isSeparator : rz_X := (prog_1_method_22_code, "ReleaseSolver", 1, some (.boolean), "isSeparator")
abbrev y_Rs_isSeparator : MethodName := ⟨"ReleaseSolver", "isSeparator", "(I)Z"⟩
abbrev x_Ve_isOneKind : rz_X := (prog_8_method_7_code, "ReleaseSolver$Version", 2, some (.boolean), "isOneKind")
abbrev y_Ve_isOneKind : MethodName := ⟨"ReleaseSolver$Version", "isOneKind", "(CC)Z"⟩
abbrev x_Rs_isDigit : rz_X := (prog_1_method_21_code, "ReleaseSolver", 1, some (.boolean), "isDigit")
abbrev y_Rs_isDigit : MethodName := ⟨"ReleaseSolver", "isDigit", "(I)Z"⟩
abbrev x_Rs_isLetter : rz_X := (prog_1_method_20_code, "ReleaseSolver", 1, some (.boolean), "isLetter")
abbrev y_Rs_isLetter : MethodName := ⟨"ReleaseSolver", "isLetter", "(I)Z"⟩
abbrev x_Ve_readItem : rz_X := (prog_8_method_8_code, "ReleaseSolver$Version", 7, none, "readItem")
abbrev y_Ve_readItem : MethodName := ⟨"ReleaseSolver$Version", "readItem", "(ILjava/lang/String;I)V"⟩
abbrev x_St_substring : rz_X := (prog_17_method_92_code, "java/lang/String", 5, some (.object "java/lang/String"), "substring")
abbrev y_St_substring : MethodName := ⟨"java/lang/String", "substring", "(II)Ljava/lang/String;"⟩
abbrev x_St_checkBoundsBeginEnd : rz_X := (prog_17_method_158_code, "java/lang/String", 3, none, "checkBoundsBeginEnd")
abbrev y_St_checkBoundsBeginEnd : MethodName := ⟨"java/lang/String", "checkBoundsBeginEnd", "(III)V"⟩
abbrev x_Pr_checkFromToIndex : rz_X := (prog_32_method_12_code, "jdk/internal/util/Preconditions", 4, some (.int), "checkFromToIndex")
abbrev y_Pr_checkFromToIndex : MethodName := ⟨"jdk/internal/util/Preconditions", "checkFromToIndex", "(IIILjava/util/function/BiFunction;)I"⟩
abbrev x_S1_newString : rz_X := (prog_19_method_47_code, "java/lang/StringLatin1", 3, some (.object "java/lang/String"), "newString")
abbrev y_S1_newString : MethodName := ⟨"java/lang/StringLatin1", "newString", "([BII)Ljava/lang/String;"⟩
abbrev x_Ar_copyOfRange : rz_X := (prog_25_method_132_code, "java/util/Arrays", 3, some (.array (.byte)), "copyOfRange")
abbrev y_Ar_copyOfRange : MethodName := ⟨"java/util/Arrays", "copyOfRange", "([BII)[B"⟩
abbrev x_Ar_copyOfRangeByte : rz_X := (prog_25_method_133_code, "java/util/Arrays", 5, some (.array (.byte)), "copyOfRangeByte")
abbrev y_Ar_copyOfRangeByte : MethodName := ⟨"java/util/Arrays", "copyOfRangeByte", "([BII)[B"⟩
abbrev x_Ar_checkLength : rz_X := (prog_25_method_131_code, "java/util/Arrays", 2, none, "checkLength")
abbrev y_Ar_checkLength : MethodName := ⟨"java/util/Arrays", "checkLength", "(II)V"⟩
abbrev x_Mt_min : rz_X := (prog_16_method_69_code, "java/lang/Math", 2, some (.int), "min")
abbrev y_Mt_min : MethodName := ⟨"java/lang/Math", "min", "(II)I"⟩
abbrev x_St_init : rz_X := (prog_17_method_151_code, "java/lang/String", 3, none, "<init>")
abbrev y_St_init : MethodName := ⟨"java/lang/String", "<init>", "([BB)V"⟩
abbrev x_S2_newString : rz_X := (prog_20_method_69_code, "java/lang/StringUTF16", 5, some (.object "java/lang/String"), "newString")
abbrev y_S2_newString : MethodName := ⟨"java/lang/StringUTF16", "newString", "([BII)Ljava/lang/String;"⟩
abbrev x_S2_compress : rz_X := (prog_20_method_17_code, "java/lang/StringUTF16", 6, some (.array (.byte)), "compress")
abbrev y_S2_compress : MethodName := ⟨"java/lang/StringUTF16", "compress", "([BII)[B"⟩
abbrev x_S2_compress2 : rz_X := (prog_20_method_22_code, "java/lang/StringUTF16", 7, some (.int), "compress")
abbrev y_S2_compress2 : MethodName := ⟨"java/lang/StringUTF16", "compress", "([BI[BII)I"⟩
abbrev x_S2_checkBoundsOffCount : rz_X := (prog_20_method_94_code, "java/lang/StringUTF16", 3, none, "checkBoundsOffCount")
abbrev y_S2_checkBoundsOffCount : MethodName := ⟨"java/lang/StringUTF16", "checkBoundsOffCount", "(II[B)V"⟩
abbrev x_St_checkBoundsOffCount : rz_X := (prog_17_method_157_code, "java/lang/String", 3, some (.int), "checkBoundsOffCount")
abbrev y_St_checkBoundsOffCount : MethodName := ⟨"java/lang/String", "checkBoundsOffCount", "(III)I"⟩
abbrev x_Pr_checkFromIndexSize : rz_X := (prog_32_method_13_code, "jdk/internal/util/Preconditions", 4, some (.int), "checkFromIndexSize")
abbrev y_Pr_checkFromIndexSize : MethodName := ⟨"jdk/internal/util/Preconditions", "checkFromIndexSize", "(IIILjava/util/function/BiFunction;)I"⟩
abbrev x_S2_coderFromArrayLen : rz_X := (prog_20_method_15_code, "java/lang/StringUTF16", 2, some (.byte), "coderFromArrayLen")
abbrev y_S2_coderFromArrayLen : MethodName := ⟨"java/lang/StringUTF16", "coderFromArrayLen", "([BI)B"⟩
abbrev x_Ve_numberOf : rz_X := (prog_8_method_10_code, "ReleaseSolver$Version", 4, some (.long), "numberOf")
abbrev y_Ve_numberOf : MethodName := ⟨"ReleaseSolver$Version", "numberOf", "(Ljava/lang/String;)J"⟩
abbrev x_Ve_rankOfWord : rz_X := (prog_8_method_9_code, "ReleaseSolver$Version", 2, some (.int), "rankOfWord")
abbrev y_Ve_rankOfWord : MethodName := ⟨"ReleaseSolver$Version", "rankOfWord", "(Ljava/lang/String;Z)I"⟩
abbrev x_St_equals : rz_X := (prog_17_method_66_code, "java/lang/String", 3, some (.boolean), "equals")
abbrev y_St_equals : MethodName := ⟨"java/lang/String", "equals", "(Ljava/lang/Object;)Z"⟩
abbrev x_S1_equals : rz_X := (prog_19_method_13_code, "java/lang/StringLatin1", 3, some (.boolean), "equals")
abbrev y_S1_equals : MethodName := ⟨"java/lang/StringLatin1", "equals", "([B[B)Z"⟩
abbrev x_Ve_dictionaryPlace : rz_X := (prog_8_method_11_code, "ReleaseSolver$Version", 5, some (.long), "dictionaryPlace")
abbrev y_Ve_dictionaryPlace : MethodName := ⟨"ReleaseSolver$Version", "dictionaryPlace", "(Ljava/lang/String;)J"⟩
abbrev x_Pl_init : rz_X := (prog_4_method_1_code, "ReleaseSolver$Plugin", 1, none, "<init>")
abbrev y_Pl_init : MethodName := ⟨"ReleaseSolver$Plugin", "<init>", "()V"⟩
abbrev x_Rs_write : rz_X := (prog_1_method_2_code, "ReleaseSolver", 5, some (.int), "write")
abbrev y_Rs_write : MethodName := ⟨"ReleaseSolver", "write", "(IIII)I"⟩
abbrev x_Rs_isWritable : rz_X := (prog_1_method_19_code, "ReleaseSolver", 1, some (.boolean), "isWritable")
abbrev y_Rs_isWritable : MethodName := ⟨"ReleaseSolver", "isWritable", "(I)Z"⟩
abbrev x_Sb_length : rz_X := (prog_18_method_93_code, "java/lang/StringBuilder", 1, some (.int), "length")
abbrev y_Sb_length : MethodName := ⟨"java/lang/StringBuilder", "length", "()I"⟩
abbrev x_Ab_length : rz_X := (prog_12_method_6_code, "java/lang/AbstractStringBuilder", 1, some (.int), "length")
abbrev y_Ab_length : MethodName := ⟨"java/lang/AbstractStringBuilder", "length", "()I"⟩
abbrev x_Rs_lengthOf : rz_X := (prog_1_method_24_code, "ReleaseSolver", 1, some (.int), "lengthOf")
abbrev y_Rs_lengthOf : MethodName := ⟨"ReleaseSolver", "lengthOf", "(I)I"⟩
abbrev x_Rs_append : rz_X := (prog_1_method_25_code, "ReleaseSolver", 2, none, "append")
abbrev y_Rs_append : MethodName := ⟨"ReleaseSolver", "append", "(I)V"⟩
abbrev x_Sb_append : rz_X := (prog_18_method_14_code, "java/lang/StringBuilder", 2, some (.object "java/lang/StringBuilder"), "append")
abbrev y_Sb_append : MethodName := ⟨"java/lang/StringBuilder", "append", "(C)Ljava/lang/StringBuilder;"⟩
abbrev x_Ab_append : rz_X := (prog_12_method_31_code, "java/lang/AbstractStringBuilder", 2, some (.object "java/lang/AbstractStringBuilder"), "append")
abbrev y_Ab_append : MethodName := ⟨"java/lang/AbstractStringBuilder", "append", "(C)Ljava/lang/AbstractStringBuilder;"⟩
abbrev x_Ab_ensureCapacityInternal : rz_X := (prog_12_method_9_code, "java/lang/AbstractStringBuilder", 3, none, "ensureCapacityInternal")
abbrev y_Ab_ensureCapacityInternal : MethodName := ⟨"java/lang/AbstractStringBuilder", "ensureCapacityInternal", "(I)V"⟩
abbrev x_Ab_newCapacity : rz_X := (prog_12_method_10_code, "java/lang/AbstractStringBuilder", 6, some (.int), "newCapacity")
abbrev y_Ab_newCapacity : MethodName := ⟨"java/lang/AbstractStringBuilder", "newCapacity", "(I)I"⟩
abbrev x_As_newLength : rz_X := (prog_31_method_27_code, "jdk/internal/util/ArraysSupport", 4, some (.int), "newLength")
abbrev y_As_newLength : MethodName := ⟨"jdk/internal/util/ArraysSupport", "newLength", "(III)I"⟩
abbrev x_Mt_max : rz_X := (prog_16_method_65_code, "java/lang/Math", 2, some (.int), "max")
abbrev y_Mt_max : MethodName := ⟨"java/lang/Math", "max", "(II)I"⟩
abbrev x_As_hugeLength : rz_X := (prog_31_method_28_code, "jdk/internal/util/ArraysSupport", 3, some (.int), "hugeLength")
abbrev y_As_hugeLength : MethodName := ⟨"jdk/internal/util/ArraysSupport", "hugeLength", "(II)I"⟩
abbrev x_Ar_copyOf : rz_X := (prog_25_method_121_code, "java/util/Arrays", 3, some (.array (.byte)), "copyOf")
abbrev y_Ar_copyOf : MethodName := ⟨"java/util/Arrays", "copyOf", "([BI)[B"⟩
abbrev x_Ab_isLatin1 : rz_X := (prog_12_method_68_code, "java/lang/AbstractStringBuilder", 1, some (.boolean), "isLatin1")
abbrev y_Ab_isLatin1 : MethodName := ⟨"java/lang/AbstractStringBuilder", "isLatin1", "()Z"⟩
abbrev x_S1_canEncode : rz_X := (prog_19_method_3_code, "java/lang/StringLatin1", 1, some (.boolean), "canEncode")
abbrev y_S1_canEncode : MethodName := ⟨"java/lang/StringLatin1", "canEncode", "(C)Z"⟩
abbrev x_Ab_inflate : rz_X := (prog_12_method_11_code, "java/lang/AbstractStringBuilder", 2, none, "inflate")
abbrev y_Ab_inflate : MethodName := ⟨"java/lang/AbstractStringBuilder", "inflate", "()V"⟩
abbrev x_S1_inflate : rz_X := (prog_19_method_50_code, "java/lang/StringLatin1", 5, none, "inflate")
abbrev y_S1_inflate : MethodName := ⟨"java/lang/StringLatin1", "inflate", "([BI[BII)V"⟩
abbrev x_S2_inflate : rz_X := (prog_20_method_86_code, "java/lang/StringUTF16", 6, none, "inflate")
abbrev y_S2_inflate : MethodName := ⟨"java/lang/StringUTF16", "inflate", "([BI[BII)V"⟩
abbrev x_S2_putChar : rz_X := (prog_20_method_4_code, "java/lang/StringUTF16", 3, none, "putChar")
abbrev y_S2_putChar : MethodName := ⟨"java/lang/StringUTF16", "putChar", "([BII)V"⟩
abbrev x_S2_putCharSB : rz_X := (prog_20_method_71_code, "java/lang/StringUTF16", 3, none, "putCharSB")
abbrev y_S2_putCharSB : MethodName := ⟨"java/lang/StringUTF16", "putCharSB", "([BII)V"⟩
abbrev x_Rs_wipe : rz_X := (prog_1_method_3_code, "ReleaseSolver", 2, some (.int), "wipe")
abbrev y_Rs_wipe : MethodName := ⟨"ReleaseSolver", "wipe", "()I"⟩
abbrev x_Sb_setLength : rz_X := (prog_18_method_89_code, "java/lang/StringBuilder", 2, none, "setLength")
abbrev y_Sb_setLength : MethodName := ⟨"java/lang/StringBuilder", "setLength", "(I)V"⟩
abbrev x_Ab_setLength : rz_X := (prog_12_method_13_code, "java/lang/AbstractStringBuilder", 2, none, "setLength")
abbrev y_Ab_setLength : MethodName := ⟨"java/lang/AbstractStringBuilder", "setLength", "(I)V"⟩
abbrev x_S1_fillNull : rz_X := (prog_19_method_48_code, "java/lang/StringLatin1", 3, none, "fillNull")
abbrev y_S1_fillNull : MethodName := ⟨"java/lang/StringLatin1", "fillNull", "([BII)V"⟩
abbrev x_Ar_fill2 : rz_X := (prog_25_method_110_code, "java/util/Arrays", 5, none, "fill")
abbrev y_Ar_fill2 : MethodName := ⟨"java/util/Arrays", "fill", "([BIIB)V"⟩
abbrev x_Ar_rangeCheck : rz_X := (prog_25_method_30_code, "java/util/Arrays", 3, none, "rangeCheck")
abbrev y_Ar_rangeCheck : MethodName := ⟨"java/util/Arrays", "rangeCheck", "(III)V"⟩
abbrev x_S2_fillNull : rz_X := (prog_20_method_70_code, "java/lang/StringUTF16", 3, none, "fillNull")
abbrev y_S2_fillNull : MethodName := ⟨"java/lang/StringUTF16", "fillNull", "([BII)V"⟩
abbrev x_Rs_release : rz_X := (prog_1_method_4_code, "ReleaseSolver", 3, some (.int), "release")
abbrev y_Rs_release : MethodName := ⟨"ReleaseSolver", "release", "(I)I"⟩
abbrev x_Rs_isPlugin : rz_X := (prog_1_method_27_code, "ReleaseSolver", 1, some (.boolean), "isPlugin")
abbrev y_Rs_isPlugin : MethodName := ⟨"ReleaseSolver", "isPlugin", "(I)Z"⟩
abbrev x_Rs_takeText : rz_X := (prog_1_method_26_code, "ReleaseSolver", 2, some (.object "java/lang/String"), "takeText")
abbrev y_Rs_takeText : MethodName := ⟨"ReleaseSolver", "takeText", "()Ljava/lang/String;"⟩
abbrev x_Sb_toString : rz_X := (prog_18_method_42_code, "java/lang/StringBuilder", 1, some (.object "java/lang/String"), "toString")
abbrev y_Sb_toString : MethodName := ⟨"java/lang/StringBuilder", "toString", "()Ljava/lang/String;"⟩
abbrev x_St_init2 : rz_X := (prog_17_method_53_code, "java/lang/String", 2, none, "<init>")
abbrev y_St_init2 : MethodName := ⟨"java/lang/String", "<init>", "(Ljava/lang/StringBuilder;)V"⟩
abbrev x_St_init3 : rz_X := (prog_17_method_150_code, "java/lang/String", 5, none, "<init>")
abbrev y_St_init3 : MethodName := ⟨"java/lang/String", "<init>", "(Ljava/lang/AbstractStringBuilder;Ljava/lang/Void;)V"⟩
abbrev x_Ab_getValue : rz_X := (prog_12_method_64_code, "java/lang/AbstractStringBuilder", 1, some (.array (.byte)), "getValue")
abbrev y_Ab_getValue : MethodName := ⟨"java/lang/AbstractStringBuilder", "getValue", "()[B"⟩
abbrev x_Ve_read : rz_X := (prog_8_method_2_code, "ReleaseSolver$Version", 1, some (.object "ReleaseSolver$Version"), "read")
abbrev y_Ve_read : MethodName := ⟨"ReleaseSolver$Version", "read", "(Ljava/lang/String;)LReleaseSolver$Version;"⟩
abbrev x_Ve_isVersion : rz_X := (prog_8_method_3_code, "ReleaseSolver$Version", 7, some (.boolean), "isVersion")
abbrev y_Ve_isVersion : MethodName := ⟨"ReleaseSolver$Version", "isVersion", "(Ljava/lang/String;)Z"⟩
abbrev x_St_isEmpty : rz_X := (prog_17_method_55_code, "java/lang/String", 1, some (.boolean), "isEmpty")
abbrev y_St_isEmpty : MethodName := ⟨"java/lang/String", "isEmpty", "()Z"⟩
abbrev x_Pl_hasVersion : rz_X := (prog_4_method_4_code, "ReleaseSolver$Plugin", 3, some (.boolean), "hasVersion")
abbrev y_Pl_hasVersion : MethodName := ⟨"ReleaseSolver$Plugin", "hasVersion", "(LReleaseSolver$Version;)Z"⟩
abbrev x_Al_size : rz_X := (prog_24_method_8_code, "java/util/ArrayList", 1, some (.int), "size")
abbrev y_Al_size : MethodName := ⟨"java/util/ArrayList", "size", "()I"⟩
abbrev x_Al_get : rz_X := (prog_24_method_20_code, "java/util/ArrayList", 2, some (.object "java/lang/Object"), "get")
abbrev y_Al_get : MethodName := ⟨"java/util/ArrayList", "get", "(I)Ljava/lang/Object;"⟩
abbrev x_Ob_checkIndex : rz_X := (prog_28_method_17_code, "java/util/Objects", 2, some (.int), "checkIndex")
abbrev y_Ob_checkIndex : MethodName := ⟨"java/util/Objects", "checkIndex", "(II)I"⟩
abbrev x_Al_elementData : rz_X := (prog_24_method_18_code, "java/util/ArrayList", 2, some (.object "java/lang/Object"), "elementData")
abbrev y_Al_elementData : MethodName := ⟨"java/util/ArrayList", "elementData", "(I)Ljava/lang/Object;"⟩
abbrev x_Ve_comparedTo : rz_X := (prog_8_method_5_code, "ReleaseSolver$Version", 3, some (.int), "comparedTo")
abbrev y_Ve_comparedTo : MethodName := ⟨"ReleaseSolver$Version", "comparedTo", "(LReleaseSolver$Version;)I"⟩
abbrev x_Rl_init : rz_X := (prog_6_method_1_code, "ReleaseSolver$Release", 2, none, "<init>")
abbrev y_Rl_init : MethodName := ⟨"ReleaseSolver$Release", "<init>", "(LReleaseSolver$Version;)V"⟩
abbrev x_Pl_add : rz_X := (prog_4_method_5_code, "ReleaseSolver$Plugin", 5, some (.int), "add")
abbrev y_Pl_add : MethodName := ⟨"ReleaseSolver$Plugin", "add", "(LReleaseSolver$Release;)I"⟩
abbrev x_Al_add : rz_X := (prog_24_method_25_code, "java/util/ArrayList", 2, some (.boolean), "add")
abbrev y_Al_add : MethodName := ⟨"java/util/ArrayList", "add", "(Ljava/lang/Object;)Z"⟩
abbrev x_Al_add2 : rz_X := (prog_24_method_24_code, "java/util/ArrayList", 4, none, "add")
abbrev y_Al_add2 : MethodName := ⟨"java/util/ArrayList", "add", "(Ljava/lang/Object;[Ljava/lang/Object;I)V"⟩
abbrev x_Al_grow : rz_X := (prog_24_method_7_code, "java/util/ArrayList", 1, some (.array (.object "java/lang/Object")), "grow")
abbrev y_Al_grow : MethodName := ⟨"java/util/ArrayList", "grow", "()[Ljava/lang/Object;"⟩
abbrev x_Al_grow2 : rz_X := (prog_24_method_6_code, "java/util/ArrayList", 4, some (.array (.object "java/lang/Object")), "grow")
abbrev y_Al_grow2 : MethodName := ⟨"java/util/ArrayList", "grow", "(I)[Ljava/lang/Object;"⟩
abbrev x_Ar_copyOf2 : rz_X := (prog_25_method_119_code, "java/util/Arrays", 2, some (.array (.object "java/lang/Object")), "copyOf")
abbrev y_Ar_copyOf2 : MethodName := ⟨"java/util/Arrays", "copyOf", "([Ljava/lang/Object;I)[Ljava/lang/Object;"⟩
abbrev x_Ar_copyOf3 : rz_X := (prog_25_method_120_code, "java/util/Arrays", 4, some (.array (.object "java/lang/Object")), "copyOf")
abbrev y_Ar_copyOf3 : MethodName := ⟨"java/util/Arrays", "copyOf", "([Ljava/lang/Object;ILjava/lang/Class;)[Ljava/lang/Object;"⟩
abbrev x_Rs_need : rz_X := (prog_1_method_5_code, "ReleaseSolver", 7, some (.int), "need")
abbrev y_Rs_need : MethodName := ⟨"ReleaseSolver", "need", "(IIIZ)I"⟩
abbrev x_Rs_releaseAt : rz_X := (prog_1_method_28_code, "ReleaseSolver", 3, some (.object "ReleaseSolver$Release"), "releaseAt")
abbrev y_Rs_releaseAt : MethodName := ⟨"ReleaseSolver", "releaseAt", "(II)LReleaseSolver$Release;"⟩
abbrev x_Pl_at : rz_X := (prog_4_method_3_code, "ReleaseSolver$Plugin", 2, some (.object "ReleaseSolver$Release"), "at")
abbrev y_Pl_at : MethodName := ⟨"ReleaseSolver$Plugin", "at", "(I)LReleaseSolver$Release;"⟩
abbrev x_Rg_read : rz_X := (prog_5_method_2_code, "ReleaseSolver$Range", 5, some (.object "ReleaseSolver$Range"), "read")
abbrev y_Rg_read : MethodName := ⟨"ReleaseSolver$Range", "read", "(Ljava/lang/String;)LReleaseSolver$Range;"⟩
abbrev x_Rg_init : rz_X := (prog_5_method_1_code, "ReleaseSolver$Range", 5, none, "<init>")
abbrev y_Rg_init : MethodName := ⟨"ReleaseSolver$Range", "<init>", "(LReleaseSolver$Version;ZLReleaseSolver$Version;Z)V"⟩
abbrev x_St_indexOf : rz_X := (prog_17_method_79_code, "java/lang/String", 2, some (.int), "indexOf")
abbrev y_St_indexOf : MethodName := ⟨"java/lang/String", "indexOf", "(I)I"⟩
abbrev x_St_indexOf2 : rz_X := (prog_17_method_80_code, "java/lang/String", 3, some (.int), "indexOf")
abbrev y_St_indexOf2 : MethodName := ⟨"java/lang/String", "indexOf", "(II)I"⟩
abbrev x_S1_indexOf : rz_X := (prog_19_method_22_code, "java/lang/StringLatin1", 4, some (.int), "indexOf")
abbrev y_S1_indexOf : MethodName := ⟨"java/lang/StringLatin1", "indexOf", "([BIII)I"⟩
abbrev x_S1_canEncode2 : rz_X := (prog_19_method_4_code, "java/lang/StringLatin1", 1, some (.boolean), "canEncode")
abbrev y_S1_canEncode2 : MethodName := ⟨"java/lang/StringLatin1", "canEncode", "(I)Z"⟩
abbrev x_S1_indexOfChar : rz_X := (prog_19_method_23_code, "java/lang/StringLatin1", 6, some (.int), "indexOfChar")
abbrev y_S1_indexOfChar : MethodName := ⟨"java/lang/StringLatin1", "indexOfChar", "([BIII)I"⟩
abbrev x_S2_indexOf : rz_X := (prog_20_method_40_code, "java/lang/StringUTF16", 4, some (.int), "indexOf")
abbrev y_S2_indexOf : MethodName := ⟨"java/lang/StringUTF16", "indexOf", "([BIII)I"⟩
abbrev x_S2_indexOfChar : rz_X := (prog_20_method_47_code, "java/lang/StringUTF16", 4, some (.int), "indexOfChar")
abbrev y_S2_indexOfChar : MethodName := ⟨"java/lang/StringUTF16", "indexOfChar", "([BIII)I"⟩
abbrev x_S2_checkBoundsBeginEnd : rz_X := (prog_20_method_93_code, "java/lang/StringUTF16", 3, none, "checkBoundsBeginEnd")
abbrev y_S2_checkBoundsBeginEnd : MethodName := ⟨"java/lang/StringUTF16", "checkBoundsBeginEnd", "(II[B)V"⟩
abbrev x_S2_indexOfCharUnsafe : rz_X := (prog_20_method_48_code, "java/lang/StringUTF16", 5, some (.int), "indexOfCharUnsafe")
abbrev y_S2_indexOfCharUnsafe : MethodName := ⟨"java/lang/StringUTF16", "indexOfCharUnsafe", "([BIII)I"⟩
abbrev x_S2_indexOfSupplementary : rz_X := (prog_20_method_49_code, "java/lang/StringUTF16", 7, some (.int), "indexOfSupplementary")
abbrev y_S2_indexOfSupplementary : MethodName := ⟨"java/lang/StringUTF16", "indexOfSupplementary", "([BIII)I"⟩
abbrev x_Ch_isValidCodePoint : rz_X := (prog_13_method_11_code, "java/lang/Character", 2, some (.boolean), "isValidCodePoint")
abbrev y_Ch_isValidCodePoint : MethodName := ⟨"java/lang/Character", "isValidCodePoint", "(I)Z"⟩
abbrev x_Ch_highSurrogate : rz_X := (prog_13_method_28_code, "java/lang/Character", 1, some (.char), "highSurrogate")
abbrev y_Ch_highSurrogate : MethodName := ⟨"java/lang/Character", "highSurrogate", "(I)C"⟩
abbrev x_Ch_lowSurrogate : rz_X := (prog_13_method_29_code, "java/lang/Character", 1, some (.char), "lowSurrogate")
abbrev y_Ch_lowSurrogate : MethodName := ⟨"java/lang/Character", "lowSurrogate", "(I)C"⟩
abbrev x_Rg_readBounds : rz_X := (prog_5_method_5_code, "ReleaseSolver$Range", 8, some (.object "ReleaseSolver$Range"), "readBounds")
abbrev y_Rg_readBounds : MethodName := ⟨"ReleaseSolver$Range", "readBounds", "(Ljava/lang/String;ZZ)LReleaseSolver$Range;"⟩
abbrev x_Rg_isBound : rz_X := (prog_5_method_6_code, "ReleaseSolver$Range", 1, some (.boolean), "isBound")
abbrev y_Rg_isBound : MethodName := ⟨"ReleaseSolver$Range", "isBound", "(Ljava/lang/String;)Z"⟩
abbrev x_Rg_readExact : rz_X := (prog_5_method_4_code, "ReleaseSolver$Range", 2, some (.object "ReleaseSolver$Range"), "readExact")
abbrev y_Rg_readExact : MethodName := ⟨"ReleaseSolver$Range", "readExact", "(Ljava/lang/String;)LReleaseSolver$Range;"⟩
abbrev x_Nd_init : rz_X := (prog_3_method_1_code, "ReleaseSolver$Need", 4, none, "<init>")
abbrev y_Nd_init : MethodName := ⟨"ReleaseSolver$Need", "<init>", "(ILReleaseSolver$Range;Z)V"⟩
abbrev x_Rs_needHost : rz_X := (prog_1_method_6_code, "ReleaseSolver", 6, some (.int), "needHost")
abbrev y_Rs_needHost : MethodName := ⟨"ReleaseSolver", "needHost", "(II)I"⟩
abbrev x_Rs_withdraw : rz_X := (prog_1_method_7_code, "ReleaseSolver", 5, some (.int), "withdraw")
abbrev y_Rs_withdraw : MethodName := ⟨"ReleaseSolver", "withdraw", "(IIZ)I"⟩
abbrev x_Rs_host : rz_X := (prog_1_method_8_code, "ReleaseSolver", 2, some (.int), "host")
abbrev y_Rs_host : MethodName := ⟨"ReleaseSolver", "host", "()I"⟩
abbrev x_Rs_ask : rz_X := (prog_1_method_9_code, "ReleaseSolver", 3, some (.int), "ask")
abbrev y_Rs_ask : MethodName := ⟨"ReleaseSolver", "ask", "(I)I"⟩
abbrev x_Ak_init : rz_X := (prog_2_method_1_code, "ReleaseSolver$Ask", 3, none, "<init>")
abbrev y_Ak_init : MethodName := ⟨"ReleaseSolver$Ask", "<init>", "(ILReleaseSolver$Range;)V"⟩
abbrev x_Rs_unask : rz_X := (prog_1_method_10_code, "ReleaseSolver", 2, some (.int), "unask")
abbrev y_Rs_unask : MethodName := ⟨"ReleaseSolver", "unask", "(I)I"⟩
abbrev x_Al_remove : rz_X := (prog_24_method_29_code, "java/util/ArrayList", 4, some (.object "java/lang/Object"), "remove")
abbrev y_Al_remove : MethodName := ⟨"java/util/ArrayList", "remove", "(I)Ljava/lang/Object;"⟩
abbrev x_Al_fastRemove : rz_X := (prog_24_method_39_code, "java/util/ArrayList", 4, none, "fastRemove")
abbrev y_Al_fastRemove : MethodName := ⟨"java/util/ArrayList", "fastRemove", "([Ljava/lang/Object;I)V"⟩
abbrev x_Rs_compare : rz_X := (prog_1_method_11_code, "ReleaseSolver", 7, some (.int), "compare")
abbrev y_Rs_compare : MethodName := ⟨"ReleaseSolver", "compare", "(IIII)I"⟩
abbrev x_Rs_rank : rz_X := (prog_1_method_12_code, "ReleaseSolver", 3, some (.int), "rank")
abbrev y_Rs_rank : MethodName := ⟨"ReleaseSolver", "rank", "(I)I"⟩
abbrev x_Ve_rankOf : rz_X := (prog_8_method_4_code, "ReleaseSolver$Version", 2, some (.int), "rankOf")
abbrev y_Ve_rankOf : MethodName := ⟨"ReleaseSolver$Version", "rankOf", "(I)I"⟩
abbrev x_Rs_within : rz_X := (prog_1_method_13_code, "ReleaseSolver", 5, some (.int), "within")
abbrev y_Rs_within : MethodName := ⟨"ReleaseSolver", "within", "(II)I"⟩
abbrev x_Rg_holds : rz_X := (prog_5_method_3_code, "ReleaseSolver$Range", 2, some (.boolean), "holds")
abbrev y_Rg_holds : MethodName := ⟨"ReleaseSolver$Range", "holds", "(LReleaseSolver$Version;)Z"⟩
abbrev x_Rs_solve : rz_X := (prog_1_method_14_code, "ReleaseSolver", 2, some (.int), "solve")
abbrev y_Rs_solve : MethodName := ⟨"ReleaseSolver", "solve", "()I"⟩
abbrev x_Se_prepare : rz_X := (prog_7_method_2_code, "ReleaseSolver$Search", 6, none, "prepare")
abbrev y_Se_prepare : MethodName := ⟨"ReleaseSolver$Search", "prepare", "([LReleaseSolver$Plugin;LReleaseSolver$Version;Ljava/util/ArrayList;)V"⟩
abbrev x_Se_prepareOrder : rz_X := (prog_7_method_6_code, "ReleaseSolver$Search", 3, none, "prepareOrder")
abbrev y_Se_prepareOrder : MethodName := ⟨"ReleaseSolver$Search", "prepareOrder", "(ILReleaseSolver$Plugin;)V"⟩
abbrev x_Pl_size : rz_X := (prog_4_method_2_code, "ReleaseSolver$Plugin", 1, some (.int), "size")
abbrev y_Pl_size : MethodName := ⟨"ReleaseSolver$Plugin", "size", "()I"⟩
abbrev x_Se_prepareNeeds : rz_X := (prog_7_method_7_code, "ReleaseSolver$Search", 8, none, "prepareNeeds")
abbrev y_Se_prepareNeeds : MethodName := ⟨"ReleaseSolver$Search", "prepareNeeds", "([LReleaseSolver$Plugin;II)V"⟩
abbrev x_Pl_releasesIn : rz_X := (prog_4_method_6_code, "ReleaseSolver$Plugin", 4, some (.int), "releasesIn")
abbrev y_Pl_releasesIn : MethodName := ⟨"ReleaseSolver$Plugin", "releasesIn", "(LReleaseSolver$Range;)I"⟩
abbrev x_Se_row : rz_X := (prog_7_method_5_code, "ReleaseSolver$Search", 2, some (.int), "row")
abbrev y_Se_row : MethodName := ⟨"ReleaseSolver$Search", "row", "(II)I"⟩
abbrev x_Se_keepOnly : rz_X := (prog_7_method_8_code, "ReleaseSolver$Search", 6, none, "keepOnly")
abbrev y_Se_keepOnly : MethodName := ⟨"ReleaseSolver$Search", "keepOnly", "(IIII)V"⟩
abbrev x_Rs_hasBit : rz_X := (prog_1_method_23_code, "ReleaseSolver", 2, some (.boolean), "hasBit")
abbrev y_Rs_hasBit : MethodName := ⟨"ReleaseSolver", "hasBit", "(II)Z"⟩
abbrev x_Se_prepareUsable : rz_X := (prog_7_method_9_code, "ReleaseSolver$Search", 7, none, "prepareUsable")
abbrev y_Se_prepareUsable : MethodName := ⟨"ReleaseSolver$Search", "prepareUsable", "(ILReleaseSolver$Plugin;LReleaseSolver$Version;)V"⟩
abbrev x_Rl_isUsableOn : rz_X := (prog_6_method_2_code, "ReleaseSolver$Release", 2, some (.boolean), "isUsableOn")
abbrev y_Rl_isUsableOn : MethodName := ⟨"ReleaseSolver$Release", "isUsableOn", "(LReleaseSolver$Version;)Z"⟩
abbrev x_Se_prepareAsks : rz_X := (prog_7_method_10_code, "ReleaseSolver$Search", 5, none, "prepareAsks")
abbrev y_Se_prepareAsks : MethodName := ⟨"ReleaseSolver$Search", "prepareAsks", "([LReleaseSolver$Plugin;Ljava/util/ArrayList;)V"⟩
abbrev x_Se_finds : rz_X := (prog_7_method_3_code, "ReleaseSolver$Search", 3, some (.boolean), "finds")
abbrev y_Se_finds : MethodName := ⟨"ReleaseSolver$Search", "finds", "(I)Z"⟩
abbrev x_Se_settle : rz_X := (prog_7_method_11_code, "ReleaseSolver$Search", 3, some (.boolean), "settle")
abbrev y_Se_settle : MethodName := ⟨"ReleaseSolver$Search", "settle", "(I)Z"⟩
abbrev x_Se_tryOption : rz_X := (prog_7_method_12_code, "ReleaseSolver$Search", 7, some (.boolean), "tryOption")
abbrev y_Se_tryOption : MethodName := ⟨"ReleaseSolver$Search", "tryOption", "(II)Z"⟩
abbrev x_Se_allMayBeLedTo : rz_X := (prog_7_method_13_code, "ReleaseSolver$Search", 5, some (.boolean), "allMayBeLedTo")
abbrev y_Se_allMayBeLedTo : MethodName := ⟨"ReleaseSolver$Search", "allMayBeLedTo", "([I)Z"⟩
abbrev x_Se_leadsFrom : rz_X := (prog_7_method_14_code, "ReleaseSolver$Search", 6, some (.int), "leadsFrom")
abbrev y_Se_leadsFrom : MethodName := ⟨"ReleaseSolver$Search", "leadsFrom", "(I[I)I"⟩
abbrev x_Rs_keepSelection : rz_X := (prog_1_method_29_code, "ReleaseSolver", 3, some (.int), "keepSelection")
abbrev y_Rs_keepSelection : MethodName := ⟨"ReleaseSolver", "keepSelection", "()I"⟩
abbrev x_Se_found : rz_X := (prog_7_method_4_code, "ReleaseSolver$Search", 3, some (.int), "found")
abbrev y_Se_found : MethodName := ⟨"ReleaseSolver$Search", "found", "(I)I"⟩
abbrev x_Rs_blameAmong : rz_X := (prog_1_method_30_code, "ReleaseSolver", 5, some (.int), "blameAmong")
abbrev y_Rs_blameAmong : MethodName := ⟨"ReleaseSolver", "blameAmong", "(I)I"⟩
abbrev x_Rs_chosen : rz_X := (prog_1_method_15_code, "ReleaseSolver", 2, some (.int), "chosen")
abbrev y_Rs_chosen : MethodName := ⟨"ReleaseSolver", "chosen", "(I)I"⟩
abbrev x_Rs_blamed : rz_X := (prog_1_method_16_code, "ReleaseSolver", 2, some (.boolean), "blamed")
abbrev y_Rs_blamed : MethodName := ⟨"ReleaseSolver", "blamed", "(I)Z"⟩
abbrev x_Rs_unmet : rz_X := (prog_1_method_17_code, "ReleaseSolver", 3, some (.int), "unmet")
abbrev y_Rs_unmet : MethodName := ⟨"ReleaseSolver", "unmet", "()I"⟩
abbrev x_Rs_isMet : rz_X := (prog_1_method_31_code, "ReleaseSolver", 3, some (.boolean), "isMet")
abbrev y_Rs_isMet : MethodName := ⟨"ReleaseSolver", "isMet", "(LReleaseSolver$Ask;)Z"⟩
abbrev x_Rs_count : rz_X := (prog_1_method_18_code, "ReleaseSolver", 2, some (.int), "count")
abbrev y_Rs_count : MethodName := ⟨"ReleaseSolver", "count", "(I)I"⟩
abbrev x_Rs_countReleases : rz_X := (prog_1_method_32_code, "ReleaseSolver", 6, some (.int), "countReleases")
abbrev y_Rs_countReleases : MethodName := ⟨"ReleaseSolver", "countReleases", "()I"⟩
abbrev x_Rs_countWithdrawn : rz_X := (prog_1_method_33_code, "ReleaseSolver", 6, some (.int), "countWithdrawn")
abbrev y_Rs_countWithdrawn : MethodName := ⟨"ReleaseSolver", "countWithdrawn", "()I"⟩
abbrev x_Pl_withdrawnReleases : rz_X := (prog_4_method_7_code, "ReleaseSolver$Plugin", 3, some (.int), "withdrawnReleases")
abbrev y_Pl_withdrawnReleases : MethodName := ⟨"ReleaseSolver$Plugin", "withdrawnReleases", "()I"⟩
abbrev x_Rs_countNeeds : rz_X := (prog_1_method_34_code, "ReleaseSolver", 6, some (.int), "countNeeds")
abbrev y_Rs_countNeeds : MethodName := ⟨"ReleaseSolver", "countNeeds", "()I"⟩
abbrev x_Pl_needsOfReleases : rz_X := (prog_4_method_8_code, "ReleaseSolver$Plugin", 3, some (.int), "needsOfReleases")
abbrev y_Pl_needsOfReleases : MethodName := ⟨"ReleaseSolver$Plugin", "needsOfReleases", "()I"⟩
abbrev x_Md_init : rz_X := (prog_10_method_1_code, "ReleaseSolverModel", 1, none, "<init>")
abbrev y_Md_init : MethodName := ⟨"ReleaseSolverModel", "<init>", "()V"⟩
abbrev x_Md_write : rz_X := (prog_10_method_8_code, "ReleaseSolverModel", 6, some (.int), "write")
abbrev y_Md_write : MethodName := ⟨"ReleaseSolverModel", "write", "(IIII)I"⟩
abbrev x_Md_may : rz_X := (prog_10_method_5_code, "ReleaseSolverModel", 1, some (.boolean), "may")
abbrev y_Md_may : MethodName := ⟨"ReleaseSolverModel", "may", "(I)Z"⟩
abbrev x_Md_digit : rz_X := (prog_10_method_3_code, "ReleaseSolverModel", 1, some (.boolean), "digit")
abbrev y_Md_digit : MethodName := ⟨"ReleaseSolverModel", "digit", "(I)Z"⟩
abbrev x_Md_in : rz_X := (prog_10_method_2_code, "ReleaseSolverModel", 3, some (.boolean), "in")
abbrev y_Md_in : MethodName := ⟨"ReleaseSolverModel", "in", "(III)Z"⟩
abbrev x_Md_letter : rz_X := (prog_10_method_4_code, "ReleaseSolverModel", 1, some (.boolean), "letter")
abbrev y_Md_letter : MethodName := ⟨"ReleaseSolverModel", "letter", "(I)Z"⟩
abbrev x_Md_put : rz_X := (prog_10_method_7_code, "ReleaseSolverModel", 2, some (.int), "put")
abbrev y_Md_put : MethodName := ⟨"ReleaseSolverModel", "put", "(I)I"⟩
abbrev x_Md_wipe : rz_X := (prog_10_method_9_code, "ReleaseSolverModel", 2, some (.int), "wipe")
abbrev y_Md_wipe : MethodName := ⟨"ReleaseSolverModel", "wipe", "()I"⟩
abbrev x_Md_release : rz_X := (prog_10_method_25_code, "ReleaseSolverModel", 3, some (.int), "release")
abbrev y_Md_release : MethodName := ⟨"ReleaseSolverModel", "release", "(I)I"⟩
abbrev x_Md_version : rz_X := (prog_10_method_11_code, "ReleaseSolverModel", 9, some (.boolean), "version")
abbrev y_Md_version : MethodName := ⟨"ReleaseSolverModel", "version", "(III)Z"⟩
abbrev x_Md_at : rz_X := (prog_10_method_6_code, "ReleaseSolverModel", 3, some (.int), "at")
abbrev y_Md_at : MethodName := ⟨"ReleaseSolverModel", "at", "(II)I"⟩
abbrev x_Md_used : rz_X := (prog_10_method_24_code, "ReleaseSolverModel", 2, some (.int), "used")
abbrev y_Md_used : MethodName := ⟨"ReleaseSolverModel", "used", "(I)I"⟩
abbrev x_Md_ordered : rz_X := (prog_10_method_19_code, "ReleaseSolverModel", 19, some (.int), "ordered")
abbrev y_Md_ordered : MethodName := ⟨"ReleaseSolverModel", "ordered", "(IIII)I"⟩
abbrev x_Md_item : rz_X := (prog_10_method_12_code, "ReleaseSolverModel", 4, some (.boolean), "item")
abbrev y_Md_item : MethodName := ⟨"ReleaseSolverModel", "item", "(III)Z"⟩
abbrev x_Md_rankOf : rz_X := (prog_10_method_16_code, "ReleaseSolverModel", 4, some (.int), "rankOf")
abbrev y_Md_rankOf : MethodName := ⟨"ReleaseSolverModel", "rankOf", "(IZ)I"⟩
abbrev x_Md_wordRank : rz_X := (prog_10_method_15_code, "ReleaseSolverModel", 7, some (.int), "wordRank")
abbrev y_Md_wordRank : MethodName := ⟨"ReleaseSolverModel", "wordRank", "(III)I"⟩
abbrev x_Md_word : rz_X := (prog_10_method_13_code, "ReleaseSolverModel", 7, some (.long), "word")
abbrev y_Md_word : MethodName := ⟨"ReleaseSolverModel", "word", "(III)J"⟩
abbrev x_Md_spelt : rz_X := (prog_10_method_14_code, "ReleaseSolverModel", 7, some (.long), "spelt")
abbrev y_Md_spelt : MethodName := ⟨"ReleaseSolverModel", "spelt", "(IIIII)J"⟩
abbrev x_Md_words : rz_X := (prog_10_method_18_code, "ReleaseSolverModel", 10, some (.int), "words")
abbrev y_Md_words : MethodName := ⟨"ReleaseSolverModel", "words", "(IIIIII)I"⟩
abbrev x_Md_number : rz_X := (prog_10_method_17_code, "ReleaseSolverModel", 7, some (.long), "number")
abbrev y_Md_number : MethodName := ⟨"ReleaseSolverModel", "number", "(III)J"⟩
abbrev x_Md_keep : rz_X := (prog_10_method_10_code, "ReleaseSolverModel", 3, none, "keep")
abbrev y_Md_keep : MethodName := ⟨"ReleaseSolverModel", "keep", "(I)V"⟩
abbrev x_Md_need : rz_X := (prog_10_method_26_code, "ReleaseSolverModel", 7, some (.int), "need")
abbrev y_Md_need : MethodName := ⟨"ReleaseSolverModel", "need", "(IIIZ)I"⟩
abbrev x_Md_none : rz_X := (prog_10_method_23_code, "ReleaseSolverModel", 3, some (.boolean), "none")
abbrev y_Md_none : MethodName := ⟨"ReleaseSolverModel", "none", "(II)Z"⟩
abbrev x_Md_range : rz_X := (prog_10_method_21_code, "ReleaseSolverModel", 6, some (.boolean), "range")
abbrev y_Md_range : MethodName := ⟨"ReleaseSolverModel", "range", "(I)Z"⟩
abbrev x_Md_comma : rz_X := (prog_10_method_20_code, "ReleaseSolverModel", 3, some (.int), "comma")
abbrev y_Md_comma : MethodName := ⟨"ReleaseSolverModel", "comma", "(I)I"⟩
abbrev x_Md_needHost : rz_X := (prog_10_method_27_code, "ReleaseSolverModel", 4, some (.int), "needHost")
abbrev y_Md_needHost : MethodName := ⟨"ReleaseSolverModel", "needHost", "(II)I"⟩
abbrev x_Md_withdraw : rz_X := (prog_10_method_28_code, "ReleaseSolverModel", 4, some (.int), "withdraw")
abbrev y_Md_withdraw : MethodName := ⟨"ReleaseSolverModel", "withdraw", "(IIZ)I"⟩
abbrev x_Md_host : rz_X := (prog_10_method_29_code, "ReleaseSolverModel", 1, some (.int), "host")
abbrev y_Md_host : MethodName := ⟨"ReleaseSolverModel", "host", "()I"⟩
abbrev x_Md_ask : rz_X := (prog_10_method_30_code, "ReleaseSolverModel", 2, some (.int), "ask")
abbrev y_Md_ask : MethodName := ⟨"ReleaseSolverModel", "ask", "(I)I"⟩
abbrev x_Md_unask : rz_X := (prog_10_method_31_code, "ReleaseSolverModel", 4, some (.int), "unask")
abbrev y_Md_unask : MethodName := ⟨"ReleaseSolverModel", "unask", "(I)I"⟩
abbrev x_Md_compare : rz_X := (prog_10_method_32_code, "ReleaseSolverModel", 6, some (.int), "compare")
abbrev y_Md_compare : MethodName := ⟨"ReleaseSolverModel", "compare", "(IIII)I"⟩
abbrev x_Md_compareTexts : rz_X := (prog_10_method_33_code, "ReleaseSolverModel", 3, some (.int), "compareTexts")
abbrev y_Md_compareTexts : MethodName := ⟨"ReleaseSolverModel", "compareTexts", "(II)I"⟩
abbrev x_Md_rank : rz_X := (prog_10_method_34_code, "ReleaseSolverModel", 5, some (.int), "rank")
abbrev y_Md_rank : MethodName := ⟨"ReleaseSolverModel", "rank", "(I)I"⟩
abbrev x_Md_within : rz_X := (prog_10_method_35_code, "ReleaseSolverModel", 3, some (.int), "within")
abbrev y_Md_within : MethodName := ⟨"ReleaseSolverModel", "within", "(II)I"⟩
abbrev x_Md_inside : rz_X := (prog_10_method_22_code, "ReleaseSolverModel", 8, some (.boolean), "inside")
abbrev y_Md_inside : MethodName := ⟨"ReleaseSolverModel", "inside", "(II)Z"⟩
abbrev x_Md_solve : rz_X := (prog_10_method_44_code, "ReleaseSolverModel", 4, some (.int), "solve")
abbrev y_Md_solve : MethodName := ⟨"ReleaseSolverModel", "solve", "()I"⟩
abbrev x_Md_search : rz_X := (prog_10_method_42_code, "ReleaseSolverModel", 6, some (.boolean), "search")
abbrev y_Md_search : MethodName := ⟨"ReleaseSolverModel", "search", "()Z"⟩
abbrev x_Md_ranked : rz_X := (prog_10_method_36_code, "ReleaseSolverModel", 6, some (.int), "ranked")
abbrev y_Md_ranked : MethodName := ⟨"ReleaseSolverModel", "ranked", "(II)I"⟩
abbrev x_Md_good : rz_X := (prog_10_method_41_code, "ReleaseSolverModel", 2, some (.boolean), "good")
abbrev y_Md_good : MethodName := ⟨"ReleaseSolverModel", "good", "()Z"⟩
abbrev x_Md_meets : rz_X := (prog_10_method_38_code, "ReleaseSolverModel", 3, some (.boolean), "meets")
abbrev y_Md_meets : MethodName := ⟨"ReleaseSolverModel", "meets", "(II)Z"⟩
abbrev x_Md_slot : rz_X := (prog_10_method_37_code, "ReleaseSolverModel", 2, some (.int), "slot")
abbrev y_Md_slot : MethodName := ⟨"ReleaseSolverModel", "slot", "(I)I"⟩
abbrev x_Md_releaseGood : rz_X := (prog_10_method_39_code, "ReleaseSolverModel", 5, some (.boolean), "releaseGood")
abbrev y_Md_releaseGood : MethodName := ⟨"ReleaseSolverModel", "releaseGood", "(I)Z"⟩
abbrev x_Md_allLed : rz_X := (prog_10_method_40_code, "ReleaseSolverModel", 4, some (.boolean), "allLed")
abbrev y_Md_allLed : MethodName := ⟨"ReleaseSolverModel", "allLed", "()Z"⟩
abbrev x_Md_findBlame : rz_X := (prog_10_method_43_code, "ReleaseSolverModel", 2, none, "findBlame")
abbrev y_Md_findBlame : MethodName := ⟨"ReleaseSolverModel", "findBlame", "()V"⟩
abbrev x_Md_chosen : rz_X := (prog_10_method_45_code, "ReleaseSolverModel", 2, some (.int), "chosen")
abbrev y_Md_chosen : MethodName := ⟨"ReleaseSolverModel", "chosen", "(I)I"⟩
abbrev x_Md_blamed : rz_X := (prog_10_method_46_code, "ReleaseSolverModel", 2, some (.boolean), "blamed")
abbrev y_Md_blamed : MethodName := ⟨"ReleaseSolverModel", "blamed", "(I)Z"⟩
abbrev x_Md_unmet : rz_X := (prog_10_method_47_code, "ReleaseSolverModel", 3, some (.int), "unmet")
abbrev y_Md_unmet : MethodName := ⟨"ReleaseSolverModel", "unmet", "()I"⟩
abbrev x_Md_count : rz_X := (prog_10_method_48_code, "ReleaseSolverModel", 7, some (.int), "count")
abbrev y_Md_count : MethodName := ⟨"ReleaseSolverModel", "count", "(I)I"⟩
