/-! ===== names, fields, types of fields, methods: printed by program (wip/whole/emit_names.py) ===== -/
def zT_0 : u_T := fun k => match k with
  | 0 => ("DaughterTongues$Change", "from", "I", false)
  | 1 => ("DaughterTongues$Change", "ahead", "I", false)
  | 2 => ("DaughterTongues$Change", "behind", "I", false)
  | 3 => ("DaughterTongues$Change", "barAhead", "I", false)
  | 4 => ("DaughterTongues$Change", "barBehind", "I", false)
  | _ => ("DaughterTongues$Change", "to", "I", false)
def zt_0 : Nat → FieldType := fun k => match k with
  | 0 => .int
  | 1 => .int
  | 2 => .int
  | 3 => .int
  | 4 => .int
  | _ => .int
theorem znm_0 : ∀ a, a < 6 → ∀ b, b < 6 → a ≠ b → (zT_0 a).2.1 ≠ (zT_0 b).2.1 := by decide +kernel
theorem zty_0 : ∀ k, k < 6 → parseFieldDescriptor (zT_0 k).2.2.1 = some (zt_0 k) := by decide +kernel
def zT_1 : u_T := fun k => match k with
  | 0 => ("DaughterTongues$Family", "tongues", "[LDaughterTongues$Tongue;", true)
  | 1 => ("DaughterTongues$Family", "wanted", "[I", true)
  | 2 => ("DaughterTongues$Family", "count", "I", false)
  | 3 => ("DaughterTongues$Family", "stems", "[I", false)
  | 4 => ("DaughterTongues$Family", "fits", "[I", false)
  | 5 => ("DaughterTongues$Family", "wantedCount", "I", false)
  | 6 => ("DaughterTongues$Family", "mutedForms", "[I", true)
  | 7 => ("DaughterTongues$Family", "mutedWritten", "[I", true)
  | _ => ("DaughterTongues$Family", "allWanted", "[I", true)
def zt_1 : Nat → FieldType := fun k => match k with
  | 0 => (.array (.object "DaughterTongues$Tongue"))
  | 1 => (.array .int)
  | 2 => .int
  | 3 => (.array .int)
  | 4 => (.array .int)
  | 5 => .int
  | 6 => (.array .int)
  | 7 => (.array .int)
  | _ => (.array .int)
theorem znm_1 : ∀ a, a < 9 → ∀ b, b < 9 → a ≠ b → (zT_1 a).2.1 ≠ (zT_1 b).2.1 := by decide +kernel
theorem zty_1 : ∀ k, k < 9 → parseFieldDescriptor (zT_1 k).2.2.1 = some (zt_1 k) := by decide +kernel
def zT_2 : u_T := fun k => match k with
  | 0 => ("DaughterTongues$Finds", "matches", "I", false)
  | 1 => ("DaughterTongues$Finds", "count", "I", false)
  | 2 => ("DaughterTongues$Finds", "matchOf", "[I", true)
  | 3 => ("DaughterTongues$Finds", "tongueOf", "[I", true)
  | 4 => ("DaughterTongues$Finds", "rowOf", "[I", true)
  | _ => ("DaughterTongues$Finds", "yearOf", "[I", true)
def zt_2 : Nat → FieldType := fun k => match k with
  | 0 => .int
  | 1 => .int
  | 2 => (.array .int)
  | 3 => (.array .int)
  | 4 => (.array .int)
  | _ => (.array .int)
theorem znm_2 : ∀ a, a < 6 → ∀ b, b < 6 → a ≠ b → (zT_2 a).2.1 ≠ (zT_2 b).2.1 := by decide +kernel
theorem zty_2 : ∀ k, k < 6 → parseFieldDescriptor (zT_2 k).2.2.1 = some (zt_2 k) := by decide +kernel
def zT_3 : u_T := fun k => match k with
  | 0 => ("DaughterTongues$Land", "waves", "I", false)
  | 1 => ("DaughterTongues$Land", "listed", "I", false)
  | 2 => ("DaughterTongues$Land", "arrivals", "[I", true)
  | 3 => ("DaughterTongues$Land", "isStale", "Z", false)
  | 4 => ("DaughterTongues$Land", "roads", "[I", true)
  | 5 => ("DaughterTongues$Land", "shutFrom", "[I", true)
  | 6 => ("DaughterTongues$Land", "changeOf", "[LDaughterTongues$Change;", true)
  | 7 => ("DaughterTongues$Land", "placeOf", "[I", true)
  | 8 => ("DaughterTongues$Land", "yearOf", "[I", true)
  | 9 => ("DaughterTongues$Land", "words", "[I", true)
  | _ => ("DaughterTongues$Land", "spokenWords", "[I", true)
def zt_3 : Nat → FieldType := fun k => match k with
  | 0 => .int
  | 1 => .int
  | 2 => (.array .int)
  | 3 => .boolean
  | 4 => (.array .int)
  | 5 => (.array .int)
  | 6 => (.array (.object "DaughterTongues$Change"))
  | 7 => (.array .int)
  | 8 => (.array .int)
  | 9 => (.array .int)
  | _ => (.array .int)
theorem znm_3 : ∀ a, a < 11 → ∀ b, b < 11 → a ≠ b → (zT_3 a).2.1 ≠ (zT_3 b).2.1 := by decide +kernel
theorem zty_3 : ∀ k, k < 11 → parseFieldDescriptor (zT_3 k).2.2.1 = some (zt_3 k) := by decide +kernel
def zT_4 : u_T := fun k => match k with
  | 0 => ("DaughterTongues$Law", "number", "I", true)
  | 1 => ("DaughterTongues$Law", "facts", "[I", true)
  | _ => ("DaughterTongues$Law", "change", "LDaughterTongues$Change;", true)
def zt_4 : Nat → FieldType := fun k => match k with
  | 0 => .int
  | 1 => (.array .int)
  | _ => (.object "DaughterTongues$Change")
theorem znm_4 : ∀ a, a < 3 → ∀ b, b < 3 → a ≠ b → (zT_4 a).2.1 ≠ (zT_4 b).2.1 := by decide +kernel
theorem zty_4 : ∀ k, k < 3 → parseFieldDescriptor (zT_4 k).2.2.1 = some (zt_4 k) := by decide +kernel
def zT_5 : u_T := fun k => match k with
  | 0 => ("DaughterTongues$Pairs", "count", "I", false)
  | 1 => ("DaughterTongues$Pairs", "laws", "I", false)
  | 2 => ("DaughterTongues$Pairs", "isStale", "Z", false)
  | 3 => ("DaughterTongues$Pairs", "answer", "[I", true)
  | 4 => ("DaughterTongues$Pairs", "firsts", "[I", true)
  | 5 => ("DaughterTongues$Pairs", "others", "[I", true)
  | 6 => ("DaughterTongues$Pairs", "middles", "[I", true)
  | _ => ("DaughterTongues$Pairs", "change", "LDaughterTongues$Change;", true)
def zt_5 : Nat → FieldType := fun k => match k with
  | 0 => .int
  | 1 => .int
  | 2 => .boolean
  | 3 => (.array .int)
  | 4 => (.array .int)
  | 5 => (.array .int)
  | 6 => (.array .int)
  | _ => (.object "DaughterTongues$Change")
theorem znm_5 : ∀ a, a < 8 → ∀ b, b < 8 → a ≠ b → (zT_5 a).2.1 ≠ (zT_5 b).2.1 := by decide +kernel
theorem zty_5 : ∀ k, k < 8 → parseFieldDescriptor (zT_5 k).2.2.1 = some (zt_5 k) := by decide +kernel
def zT_6 : u_T := fun k => match k with
  | 0 => ("DaughterTongues$Sheet", "bits", "I", false)
  | 1 => ("DaughterTongues$Sheet", "size", "I", false)
  | _ => ("DaughterTongues$Sheet", "numbers", "[I", true)
def zt_6 : Nat → FieldType := fun k => match k with
  | 0 => .int
  | 1 => .int
  | _ => (.array .int)
theorem znm_6 : ∀ a, a < 3 → ∀ b, b < 3 → a ≠ b → (zT_6 a).2.1 ≠ (zT_6 b).2.1 := by decide +kernel
theorem zty_6 : ∀ k, k < 3 → parseFieldDescriptor (zT_6 k).2.2.1 = some (zt_6 k) := by decide +kernel
def zT_7 : u_T := fun k => match k with
  | 0 => ("DaughterTongues$Tape", "bytes", "[C", true)
  | 1 => ("DaughterTongues$Tape", "facts", "[I", true)
  | 2 => ("DaughterTongues$Tape", "length", "I", false)
  | _ => ("DaughterTongues$Tape", "at", "I", false)
def zt_7 : Nat → FieldType := fun k => match k with
  | 0 => (.array .char)
  | 1 => (.array .int)
  | 2 => .int
  | _ => .int
theorem znm_7 : ∀ a, a < 4 → ∀ b, b < 4 → a ≠ b → (zT_7 a).2.1 ≠ (zT_7 b).2.1 := by decide +kernel
theorem zty_7 : ∀ k, k < 4 → parseFieldDescriptor (zT_7 k).2.2.1 = some (zt_7 k) := by decide +kernel
def zT_8 : u_T := fun k => match k with
  | 0 => ("DaughterTongues$Tongue", "above", "I", true)
  | 1 => ("DaughterTongues$Tongue", "chain", "I", true)
  | 2 => ("DaughterTongues$Tongue", "own", "[LDaughterTongues$Law;", true)
  | 3 => ("DaughterTongues$Tongue", "signs", "[I", true)
  | 4 => ("DaughterTongues$Tongue", "count", "I", false)
  | 5 => ("DaughterTongues$Tongue", "forms", "[J", false)
  | _ => ("DaughterTongues$Tongue", "isStale", "Z", false)
def zt_8 : Nat → FieldType := fun k => match k with
  | 0 => .int
  | 1 => .int
  | 2 => (.array (.object "DaughterTongues$Law"))
  | 3 => (.array .int)
  | 4 => .int
  | 5 => (.array .long)
  | _ => .boolean
theorem znm_8 : ∀ a, a < 7 → ∀ b, b < 7 → a ≠ b → (zT_8 a).2.1 ≠ (zT_8 b).2.1 := by decide +kernel
theorem zty_8 : ∀ k, k < 7 → parseFieldDescriptor (zT_8 k).2.2.1 = some (zt_8 k) := by decide +kernel
def zT_9 : u_T := fun k => match k with
  | 0 => ("DaughterTongues", "tape", "LDaughterTongues$Tape;", true)
  | 1 => ("DaughterTongues", "laws", "[LDaughterTongues$Law;", true)
  | 2 => ("DaughterTongues", "family", "LDaughterTongues$Family;", true)
  | 3 => ("DaughterTongues", "finds", "LDaughterTongues$Finds;", true)
  | 4 => ("DaughterTongues", "pairs", "LDaughterTongues$Pairs;", true)
  | 5 => ("DaughterTongues", "land", "LDaughterTongues$Land;", true)
  | 6 => ("DaughterTongues", "sheets", "[LDaughterTongues$Sheet;", true)
  | 7 => ("DaughterTongues", "lawCount", "I", false)
  | 8 => ("DaughterTongues", "vowels", "I", false)
  | _ => ("DaughterTongues", "findings", "I", false)
def zt_9 : Nat → FieldType := fun k => match k with
  | 0 => (.object "DaughterTongues$Tape")
  | 1 => (.array (.object "DaughterTongues$Law"))
  | 2 => (.object "DaughterTongues$Family")
  | 3 => (.object "DaughterTongues$Finds")
  | 4 => (.object "DaughterTongues$Pairs")
  | 5 => (.object "DaughterTongues$Land")
  | 6 => (.array (.object "DaughterTongues$Sheet"))
  | 7 => .int
  | 8 => .int
  | _ => .int
theorem znm_9 : ∀ a, a < 10 → ∀ b, b < 10 → a ≠ b → (zT_9 a).2.1 ≠ (zT_9 b).2.1 := by decide +kernel
theorem zty_9 : ∀ k, k < 10 → parseFieldDescriptor (zT_9 k).2.2.1 = some (zt_9 k) := by decide +kernel
def zT_10 : u_T := fun k => match k with
  | 0 => ("DaughterTonguesModel", "vowels", "I", false)
  | 1 => ("DaughterTonguesModel", "laws", "I", false)
  | 2 => ("DaughterTonguesModel", "from", "[I", true)
  | 3 => ("DaughterTonguesModel", "to", "[I", true)
  | 4 => ("DaughterTonguesModel", "hasPlace", "[Z", true)
  | 5 => ("DaughterTonguesModel", "aheadMark", "[I", true)
  | 6 => ("DaughterTonguesModel", "behindMark", "[I", true)
  | 7 => ("DaughterTonguesModel", "tape", "[I", true)
  | 8 => ("DaughterTonguesModel", "taped", "I", false)
  | 9 => ("DaughterTonguesModel", "tongues", "I", false)
  | 10 => ("DaughterTonguesModel", "above", "[I", true)
  | 11 => ("DaughterTonguesModel", "owns", "[I", true)
  | 12 => ("DaughterTonguesModel", "ownLaw", "[I", true)
  | 13 => ("DaughterTonguesModel", "signs", "[I", true)
  | 14 => ("DaughterTonguesModel", "matches", "I", false)
  | 15 => ("DaughterTonguesModel", "finds", "I", false)
  | 16 => ("DaughterTonguesModel", "findMatch", "[I", true)
  | 17 => ("DaughterTonguesModel", "findTongue", "[I", true)
  | 18 => ("DaughterTonguesModel", "findNumber", "[I", true)
  | 19 => ("DaughterTonguesModel", "findYear", "[I", true)
  | 20 => ("DaughterTonguesModel", "pairs", "I", false)
  | 21 => ("DaughterTonguesModel", "pairFrom", "[I", true)
  | 22 => ("DaughterTonguesModel", "pairTo", "[I", true)
  | 23 => ("DaughterTonguesModel", "isSought", "Z", false)
  | 24 => ("DaughterTonguesModel", "roads", "[I", true)
  | 25 => ("DaughterTonguesModel", "shuts", "[I", true)
  | 26 => ("DaughterTonguesModel", "waves", "I", false)
  | 27 => ("DaughterTonguesModel", "waveLaw", "[I", true)
  | 28 => ("DaughterTonguesModel", "wavePlace", "[I", true)
  | 29 => ("DaughterTonguesModel", "waveYear", "[I", true)
  | 30 => ("DaughterTonguesModel", "listed", "I", false)
  | 31 => ("DaughterTonguesModel", "list", "[I", true)
  | 32 => ("DaughterTonguesModel", "bits", "[I", true)
  | 33 => ("DaughterTonguesModel", "sizes", "[I", true)
  | 34 => ("DaughterTonguesModel", "sheets", "[I", true)
  | 35 => ("DaughterTonguesModel", "findings", "I", false)
  | 36 => ("DaughterTonguesModel", "word", "[I", true)
  | 37 => ("DaughterTonguesModel", "size", "I", false)
  | 38 => ("DaughterTonguesModel", "then", "[I", true)
  | 39 => ("DaughterTonguesModel", "at", "I", false)
  | 40 => ("DaughterTonguesModel", "off", "I", false)
  | 41 => ("DaughterTonguesModel", "knows", "[I", true)
  | 42 => ("DaughterTonguesModel", "forms", "[I", true)
  | 43 => ("DaughterTonguesModel", "writes", "[I", true)
  | 44 => ("DaughterTonguesModel", "fewestMany", "I", false)
  | 45 => ("DaughterTonguesModel", "fewestLaw", "[I", true)
  | 46 => ("DaughterTonguesModel", "middle", "[I", true)
  | 47 => ("DaughterTonguesModel", "comesIn", "[I", true)
  | _ => ("DaughterTonguesModel", "carried", "[I", true)
def zt_10 : Nat → FieldType := fun k => match k with
  | 0 => .int
  | 1 => .int
  | 2 => (.array .int)
  | 3 => (.array .int)
  | 4 => (.array .boolean)
  | 5 => (.array .int)
  | 6 => (.array .int)
  | 7 => (.array .int)
  | 8 => .int
  | 9 => .int
  | 10 => (.array .int)
  | 11 => (.array .int)
  | 12 => (.array .int)
  | 13 => (.array .int)
  | 14 => .int
  | 15 => .int
  | 16 => (.array .int)
  | 17 => (.array .int)
  | 18 => (.array .int)
  | 19 => (.array .int)
  | 20 => .int
  | 21 => (.array .int)
  | 22 => (.array .int)
  | 23 => .boolean
  | 24 => (.array .int)
  | 25 => (.array .int)
  | 26 => .int
  | 27 => (.array .int)
  | 28 => (.array .int)
  | 29 => (.array .int)
  | 30 => .int
  | 31 => (.array .int)
  | 32 => (.array .int)
  | 33 => (.array .int)
  | 34 => (.array .int)
  | 35 => .int
  | 36 => (.array .int)
  | 37 => .int
  | 38 => (.array .int)
  | 39 => .int
  | 40 => .int
  | 41 => (.array .int)
  | 42 => (.array .int)
  | 43 => (.array .int)
  | 44 => .int
  | 45 => (.array .int)
  | 46 => (.array .int)
  | 47 => (.array .int)
  | _ => (.array .int)
theorem znm_10 : ∀ a, a < 49 → ∀ b, b < 49 → a ≠ b → (zT_10 a).2.1 ≠ (zT_10 b).2.1 := by decide +kernel
theorem zty_10 : ∀ k, k < 49 → parseFieldDescriptor (zT_10 k).2.2.1 = some (zt_10 k) := by decide +kernel
abbrev z_cls : List vw_C := [("DaughterTongues$Change", zT_0, 6), ("DaughterTongues$Family", zT_1, 9), ("DaughterTongues$Finds", zT_2, 6), ("DaughterTongues$Land", zT_3, 11), ("DaughterTongues$Law", zT_4, 3), ("DaughterTongues$Pairs", zT_5, 8), ("DaughterTongues$Sheet", zT_6, 3), ("DaughterTongues$Tape", zT_7, 4), ("DaughterTongues$Tongue", zT_8, 7), ("DaughterTongues", zT_9, 10), ("DaughterTonguesModel", zT_10, 49)]
/-- the pool that a field refers to; 0: an int, 1: a truth value -/
def z_fts : List (List Nat) := [[0, 0, 0, 0, 0, 0], [8115, 8121, 0, 9330131, 9330141, 0, 8151, 8161, 80171], [0, 0, 60181, 60191, 60201, 60211], [0, 0, 64221, 1, 64231, 8241, 8255, 8261, 8271, 12281, 96291], [0, 9301, 6000], [0, 0, 1, 6311, 6321, 6331, 6341, 6000], [0, 0, 12351], [40362, 9371, 0, 0], [0, 0, 6385, 6391, 0, 9330404, 1], [4070, 24415, 9010, 6020, 8050, 11030, 4425, 0, 0, 0], [0, 0, 25431, 25441, 50453, 50461, 50471, 40481, 0, 0, 8491, 8501, 48511, 48521, 0, 0, 60531, 60541, 60551, 60561, 0, 6571, 6581, 1, 64591, 8601, 0, 8611, 8621, 8631, 0, 12641, 4651, 4661, 48671, 0, 8681, 0, 16691, 0, 0, 80701, 8711, 8721, 0, 2731, 6741, 64751, 12761]]
def z_ft (p k : Nat) : Nat := (z_fts.getD (p / 10 % 100) []).getD k 0
/-- the pool of the elements of a row of references -/
def z_ep (p : Nat) : Nat := if p = 4425 then 3060 else if p = 6385 then 3040 else if p = 8115 then 7080 else if p = 8255 then 6000 else 3040
/-- all pools that there are -/
def z_pools : List Nat := [6000, 9010, 6020, 11030, 3040, 8050, 3060, 4070, 7080, 10090, 49100, 8115, 8121, 9330131, 9330141, 8151, 8161, 80171, 60181, 60191, 60201, 60211, 64221, 64231, 8241, 8255, 8261, 8271, 12281, 96291, 9301, 6311, 6321, 6331, 6341, 12351, 40362, 9371, 6385, 6391, 9330404, 24415, 4425, 25431, 25441, 50453, 50461, 50471, 40481, 8491, 8501, 48511, 48521, 60531, 60541, 60551, 60561, 6571, 6581, 64591, 8601, 8611, 8621, 8631, 12641, 4651, 4661, 48671, 8681, 16691, 80701, 8711, 8721, 2731, 6741, 64751, 12761]
def z_mns : List MethodName := [⟨"DaughterTongues$Rows", "rowOf", "(I)I"⟩,
  ⟨"DaughterTongues$Rows", "numberOf", "(I)I"⟩,
  ⟨"DaughterTongues$Rows", "lengthOf", "(I)I"⟩,
  ⟨"DaughterTongues$Rows", "fieldsIn", "(II)I"⟩,
  ⟨"DaughterTongues$Rows", "bitsOf", "(I)I"⟩,
  ⟨"DaughterTongues$Rows", "signsOf", "(I[I)I"⟩,
  ⟨"DaughterTongues$Rows", "digitsOf", "(II)I"⟩,
  ⟨"DaughterTongues$Change", "<init>", "()V"⟩,
  ⟨"DaughterTongues$Change", "setSimple", "(IIII)V"⟩,
  ⟨"DaughterTongues$Change", "set", "([II)V"⟩,
  ⟨"DaughterTongues$Change", "fieldsOf", "(I)I"⟩,
  ⟨"DaughterTongues$Change", "over", "(I)I"⟩,
  ⟨"DaughterTongues$Family", "<init>", "()V"⟩,
  ⟨"DaughterTongues$Family", "addUnder", "(I)I"⟩,
  ⟨"DaughterTongues$Family", "ageAll", "()V"⟩,
  ⟨"DaughterTongues$Family", "ageBelow", "(I)V"⟩,
  ⟨"DaughterTongues$Family", "rowIn", "(II)I"⟩,
  ⟨"DaughterTongues$Family", "prepareStems", "()V"⟩,
  ⟨"DaughterTongues$Family", "freshened", "(I)LDaughterTongues$Tongue;"⟩,
  ⟨"DaughterTongues$Family", "leastSwayed", "(II)I"⟩,
  ⟨"DaughterTongues$Family", "wantIn", "(II)V"⟩,
  ⟨"DaughterTongues$Family", "weigh", "()V"⟩,
  ⟨"DaughterTongues$Family", "countFitting", "()I"⟩,
  ⟨"DaughterTongues$Family", "fittingAt", "(I)I"⟩,
  ⟨"DaughterTongues$Family", "soundsAt", "(I)I"⟩,
  ⟨"DaughterTongues$Family", "bestFitting", "()I"⟩,
  ⟨"DaughterTongues$Family", "unfitFor", "(I)I"⟩,
  ⟨"DaughterTongues$Family", "lenderOf", "(II)I"⟩,
  ⟨"DaughterTongues$Family", "countLeaning", "(ILDaughterTongues$Finds;I)I"⟩,
  ⟨"DaughterTongues$Family", "touchedBy", "(I)I"⟩,
  ⟨"DaughterTongues$Family", "gatherTouched", "(LDaughterTongues$Finds;II)I"⟩,
  ⟨"DaughterTongues$Family", "mute", "(III)Z"⟩,
  ⟨"DaughterTongues$Family", "swayedIn", "(III)I"⟩,
  ⟨"DaughterTongues$Finds", "<init>", "()V"⟩,
  ⟨"DaughterTongues$Finds", "latestYear", "()I"⟩,
  ⟨"DaughterTongues$Finds", "enter", "(IIII)I"⟩,
  ⟨"DaughterTongues$Finds", "gather", "(II[I)V"⟩,
  ⟨"DaughterTongues$Land", "<init>", "()V"⟩,
  ⟨"DaughterTongues$Land", "build", "(III)I"⟩,
  ⟨"DaughterTongues$Land", "close", "(II)I"⟩,
  ⟨"DaughterTongues$Land", "start", "(LDaughterTongues$Change;II)I"⟩,
  ⟨"DaughterTongues$Land", "enlist", "(I)V"⟩,
  ⟨"DaughterTongues$Land", "spread", "()V"⟩,
  ⟨"DaughterTongues$Land", "travel", "(I)Z"⟩,
  ⟨"DaughterTongues$Land", "arrive", "(III)Z"⟩,
  ⟨"DaughterTongues$Land", "spoken", "(III)I"⟩,
  ⟨"DaughterTongues$Land", "nextWave", "(III)I"⟩,
  ⟨"DaughterTongues$Land", "countSpeeches", "(I)I"⟩,
  ⟨"DaughterTongues$Land", "firstParting", "(II)I"⟩,
  ⟨"DaughterTongues$Land", "nextYear", "(III)I"⟩,
  ⟨"DaughterTongues$Land", "speakList", "(II)V"⟩,
  ⟨"DaughterTongues$Land", "speakAlike", "(II)Z"⟩,
  ⟨"DaughterTongues$Law", "<init>", "(I[II)V"⟩,
  ⟨"DaughterTongues$Law", "tune", "(I)V"⟩,
  ⟨"DaughterTongues$Pairs", "<init>", "()V"⟩,
  ⟨"DaughterTongues$Pairs", "join", "(II)I"⟩,
  ⟨"DaughterTongues$Pairs", "middleOf", "(II)I"⟩,
  ⟨"DaughterTongues$Pairs", "search", "(I)V"⟩,
  ⟨"DaughterTongues$Pairs", "opens", "(I)Z"⟩,
  ⟨"DaughterTongues$Pairs", "closes", "([III)Z"⟩,
  ⟨"DaughterTongues$Pairs", "firstUnlike", "([I)I"⟩,
  ⟨"DaughterTongues$Pairs", "partingBits", "(II)I"⟩,
  ⟨"java/lang/StringLatin1", "indexOfChar", "([BIII)I"⟩,
  ⟨"DaughterTongues$Pairs", "keep", "(IIII)V"⟩,
  ⟨"DaughterTongues$Sheet", "<init>", "()V"⟩,
  ⟨"DaughterTongues$Sheet", "renew", "(II)I"⟩,
  ⟨"DaughterTongues$Sheet", "put", "(II)I"⟩,
  ⟨"DaughterTongues$Sheet", "hasSpan", "(II)Z"⟩,
  ⟨"DaughterTongues$Tape", "<init>", "()V"⟩,
  ⟨"DaughterTongues$Tape", "append", "(JI)V"⟩,
  ⟨"DaughterTongues$Tape", "parse", "()I"⟩,
  ⟨"DaughterTongues$Tape", "kindOf", "(III)I"⟩,
  ⟨"DaughterTongues$Tape", "passPlace", "(Ljava/lang/String;II)Z"⟩,
  ⟨"DaughterTongues$Tape", "pass", "(Ljava/lang/String;)I"⟩,
  ⟨"DaughterTongues$Tongue", "<init>", "(II)V"⟩,
  ⟨"DaughterTongues$Tongue", "exchange", "(I)V"⟩,
  ⟨"DaughterTongues$Tongue", "owns", "(I)Z"⟩,
  ⟨"DaughterTongues$Tongue", "grown", "(III)I"⟩,
  ⟨"DaughterTongues$Tongue", "refresh", "([ILDaughterTongues$Tongue;)V"⟩,
  ⟨"DaughterTongues$Tongue", "formAt", "(I)I"⟩,
  ⟨"DaughterTongues$Tongue", "writtenAt", "(I)I"⟩,
  ⟨"DaughterTongues", "<init>", "()V"⟩,
  ⟨"DaughterTongues", "vowel", "(IZ)I"⟩,
  ⟨"DaughterTongues", "feed", "(JI)I"⟩,
  ⟨"DaughterTongues", "law", "()I"⟩,
  ⟨"DaughterTongues", "as", "(II)I"⟩,
  ⟨"DaughterTongues", "about", "(II)I"⟩,
  ⟨"DaughterTongues", "run", "(II)I"⟩,
  ⟨"DaughterTongues", "holds", "(II)I"⟩,
  ⟨"DaughterTongues", "tongue", "(I)I"⟩,
  ⟨"DaughterTongues", "take", "(II)I"⟩,
  ⟨"DaughterTongues", "leave", "(I)I"⟩,
  ⟨"DaughterTongues", "swap", "(II)I"⟩,
  ⟨"DaughterTongues", "own", "(II)I"⟩,
  ⟨"DaughterTongues", "form", "(II)I"⟩,
  ⟨"DaughterTongues", "order", "(II)I"⟩,
  ⟨"DaughterTongues", "script", "(III)I"⟩,
  ⟨"DaughterTongues", "written", "(II)I"⟩,
  ⟨"DaughterTongues", "back", "(II)I"⟩,
  ⟨"DaughterTongues", "stem", "(III)I"⟩,
  ⟨"DaughterTongues", "match", "()I"⟩,
  ⟨"DaughterTongues", "find", "(IIII)I"⟩,
  ⟨"DaughterTongues", "known", "(III)I"⟩,
  ⟨"DaughterTongues", "mothers", "(II)I"⟩,
  ⟨"DaughterTongues", "mother", "(III)I"⟩,
  ⟨"DaughterTongues", "doubt", "(III)I"⟩,
  ⟨"DaughterTongues", "best", "(II)I"⟩,
  ⟨"DaughterTongues", "breakers", "(II)I"⟩,
  ⟨"DaughterTongues", "lent", "(III)I"⟩,
  ⟨"DaughterTongues", "leans", "(II)I"⟩,
  ⟨"DaughterTongues", "pair", "(II)I"⟩,
  ⟨"DaughterTongues", "unpair", "()I"⟩,
  ⟨"DaughterTongues", "fewest", "()I"⟩,
  ⟨"DaughterTongues", "simple", "(II)I"⟩,
  ⟨"DaughterTongues", "proof", "(I)I"⟩,
  ⟨"DaughterTongues", "road", "(III)I"⟩,
  ⟨"DaughterTongues", "shut", "(II)I"⟩,
  ⟨"DaughterTongues", "wave", "(III)I"⟩,
  ⟨"DaughterTongues", "comes", "(II)I"⟩,
  ⟨"DaughterTongues", "speech", "(III)I"⟩,
  ⟨"DaughterTongues", "list", "(I)I"⟩,
  ⟨"DaughterTongues", "speeches", "(I)I"⟩,
  ⟨"DaughterTongues", "parted", "(II)I"⟩,
  ⟨"DaughterTongues", "sheet", "(III)I"⟩,
  ⟨"DaughterTongues", "write", "(III)I"⟩,
  ⟨"DaughterTongues", "copy", "(IIIII)I"⟩,
  ⟨"DaughterTongues", "read", "(I)I"⟩,
  ⟨"DaughterTongues", "told", "(I)I"⟩,
  ⟨"DaughterTongues", "finding", "(I)I"⟩,
  ⟨"DaughterTongues", "heedVowels", "()V"⟩,
  ⟨"DaughterTongues", "noLaw", "(I)Z"⟩,
  ⟨"DaughterTongues", "noTongue", "(I)Z"⟩,
  ⟨"DaughterTongues", "noNeighbours", "(II)Z"⟩,
  ⟨"DaughterTongues", "noMatch", "(II)Z"⟩,
  ⟨"DaughterTongues", "noYear", "(I)Z"⟩,
  ⟨"DaughterTongues", "noPlace", "(I)Z"⟩,
  ⟨"DaughterTongues", "noSheet", "(I)Z"⟩,
  ⟨"DaughterTonguesModel", "<init>", "()V"⟩,
  ⟨"DaughterTonguesModel", "finding", "(I)I"⟩,
  ⟨"DaughterTonguesModel", "within", "(III)Z"⟩,
  ⟨"DaughterTonguesModel", "isSound", "(I)Z"⟩,
  ⟨"DaughterTonguesModel", "isYear", "(I)Z"⟩,
  ⟨"DaughterTonguesModel", "isLaw", "(I)Z"⟩,
  ⟨"DaughterTonguesModel", "isTongue", "(I)Z"⟩,
  ⟨"DaughterTonguesModel", "isMatch", "(I)Z"⟩,
  ⟨"DaughterTonguesModel", "isPlace", "(I)Z"⟩,
  ⟨"DaughterTonguesModel", "isWord", "(I)Z"⟩,
  ⟨"DaughterTonguesModel", "load", "(I)V"⟩,
  ⟨"DaughterTonguesModel", "number", "()I"⟩,
  ⟨"DaughterTonguesModel", "isVowel", "(I)Z"⟩,
  ⟨"DaughterTonguesModel", "fitsSound", "(II)Z"⟩,
  ⟨"DaughterTonguesModel", "fitsAt", "(II)Z"⟩,
  ⟨"DaughterTonguesModel", "placeFits", "(II)Z"⟩,
  ⟨"DaughterTonguesModel", "holdsAt", "(II)Z"⟩,
  ⟨"DaughterTonguesModel", "runLaw", "(I)V"⟩,
  ⟨"DaughterTonguesModel", "vowel", "(IZ)I"⟩,
  ⟨"DaughterTonguesModel", "feed", "(JI)I"⟩,
  ⟨"DaughterTonguesModel", "here", "()I"⟩,
  ⟨"DaughterTonguesModel", "soundHere", "()I"⟩,
  ⟨"DaughterTonguesModel", "markHere", "(Z)I"⟩,
  ⟨"DaughterTonguesModel", "readsPlace", "(I)Z"⟩,
  ⟨"DaughterTonguesModel", "readsTo", "()Z"⟩,
  ⟨"DaughterTonguesModel", "reads", "()Z"⟩,
  ⟨"DaughterTonguesModel", "copyLaw", "(I)V"⟩,
  ⟨"DaughterTonguesModel", "law", "()I"⟩,
  ⟨"DaughterTonguesModel", "kindOf", "(I)I"⟩,
  ⟨"DaughterTonguesModel", "as", "(II)I"⟩,
  ⟨"DaughterTonguesModel", "about", "(II)I"⟩,
  ⟨"DaughterTonguesModel", "run", "(II)I"⟩,
  ⟨"DaughterTonguesModel", "holds", "(II)I"⟩,
  ⟨"DaughterTonguesModel", "tongue", "(I)I"⟩,
  ⟨"DaughterTonguesModel", "take", "(II)I"⟩,
  ⟨"DaughterTonguesModel", "leave", "(I)I"⟩,
  ⟨"DaughterTonguesModel", "hasBoth", "(II)Z"⟩,
  ⟨"DaughterTonguesModel", "swaps", "(II)V"⟩,
  ⟨"DaughterTonguesModel", "swap", "(II)I"⟩,
  ⟨"DaughterTonguesModel", "own", "(II)I"⟩,
  ⟨"DaughterTonguesModel", "runOwn", "(II)V"⟩,
  ⟨"DaughterTonguesModel", "goesTo", "(I)V"⟩,
  ⟨"DaughterTonguesModel", "formOf", "(II)I"⟩,
  ⟨"DaughterTonguesModel", "form", "(II)I"⟩,
  ⟨"DaughterTonguesModel", "nextStem", "(I)I"⟩,
  ⟨"DaughterTonguesModel", "order", "(II)I"⟩,
  ⟨"DaughterTonguesModel", "script", "(III)I"⟩,
  ⟨"DaughterTonguesModel", "writtenIn", "(I)I"⟩,
  ⟨"DaughterTonguesModel", "writtenOf", "(II)I"⟩,
  ⟨"DaughterTonguesModel", "written", "(II)I"⟩,
  ⟨"DaughterTonguesModel", "back", "(II)I"⟩,
  ⟨"DaughterTonguesModel", "stem", "(III)I"⟩,
  ⟨"DaughterTonguesModel", "match", "()I"⟩,
  ⟨"DaughterTonguesModel", "find", "(IIII)I"⟩,
  ⟨"DaughterTonguesModel", "knownOf", "(III)I"⟩,
  ⟨"DaughterTonguesModel", "known", "(III)I"⟩,
  ⟨"DaughterTonguesModel", "learns", "(I)V"⟩,
  ⟨"DaughterTonguesModel", "spreads", "(I)V"⟩,
  ⟨"DaughterTonguesModel", "isMother", "(I)Z"⟩,
  ⟨"DaughterTonguesModel", "agrees", "(I)I"⟩,
  ⟨"DaughterTonguesModel", "mothers", "(II)I"⟩,
  ⟨"DaughterTonguesModel", "mother", "(III)I"⟩,
  ⟨"DaughterTonguesModel", "doubt", "(III)I"⟩,
  ⟨"DaughterTonguesModel", "bestOf", "(I)I"⟩,
  ⟨"DaughterTonguesModel", "best", "(II)I"⟩,
  ⟨"DaughterTonguesModel", "breakersOf", "(I)I"⟩,
  ⟨"DaughterTonguesModel", "breakers", "(II)I"⟩,
  ⟨"DaughterTonguesModel", "lent", "(III)I"⟩,
  ⟨"DaughterTonguesModel", "leans", "(II)I"⟩,
  ⟨"DaughterTonguesModel", "pair", "(II)I"⟩,
  ⟨"DaughterTonguesModel", "unpair", "()I"⟩,
  ⟨"DaughterTonguesModel", "fromOf", "(I)I"⟩,
  ⟨"DaughterTonguesModel", "toOf", "(I)I"⟩,
  ⟨"DaughterTonguesModel", "trySimple", "(I)V"⟩,
  ⟨"DaughterTonguesModel", "triedOver", "(I)I"⟩,
  ⟨"DaughterTonguesModel", "makesAll", "(I)Z"⟩,
  ⟨"DaughterTonguesModel", "firstThatMakes", "()I"⟩,
  ⟨"DaughterTonguesModel", "areMade", "()Z"⟩,
  ⟨"DaughterTonguesModel", "runFirst", "(I)V"⟩,
  ⟨"DaughterTonguesModel", "seek", "()V"⟩,
  ⟨"DaughterTonguesModel", "fewest", "()I"⟩,
  ⟨"DaughterTonguesModel", "simple", "(II)I"⟩,
  ⟨"DaughterTonguesModel", "proof", "(I)I"⟩,
  ⟨"DaughterTonguesModel", "road", "(III)I"⟩,
  ⟨"DaughterTonguesModel", "shut", "(II)I"⟩,
  ⟨"DaughterTonguesModel", "wave", "(III)I"⟩,
  ⟨"DaughterTonguesModel", "isOpen", "(II)Z"⟩,
  ⟨"DaughterTonguesModel", "findWave", "(I)V"⟩,
  ⟨"DaughterTonguesModel", "findWaves", "()V"⟩,
  ⟨"DaughterTonguesModel", "comes", "(II)I"⟩,
  ⟨"DaughterTonguesModel", "speechOf", "(III)I"⟩,
  ⟨"DaughterTonguesModel", "speech", "(III)I"⟩,
  ⟨"DaughterTonguesModel", "list", "(I)I"⟩,
  ⟨"DaughterTonguesModel", "speakAlike", "(III)Z"⟩,
  ⟨"DaughterTonguesModel", "speeches", "(I)I"⟩,
  ⟨"DaughterTonguesModel", "parted", "(II)I"⟩,
  ⟨"DaughterTonguesModel", "isSheet", "(I)Z"⟩,
  ⟨"DaughterTonguesModel", "sheet", "(III)I"⟩,
  ⟨"DaughterTonguesModel", "write", "(III)I"⟩,
  ⟨"DaughterTonguesModel", "copy", "(IIIII)I"⟩,
  ⟨"DaughterTonguesModel", "read", "(I)I"⟩,
  ⟨"DaughterTonguesModel", "told", "(I)I"⟩,
  ⟨"java/util/Arrays", "fill", "([II)V"⟩,
  ⟨"java/lang/Integer", "bitCount", "(I)I"⟩,
  ⟨"java/lang/Math", "min", "(II)I"⟩,
  ⟨"java/lang/Math", "max", "(II)I"⟩,
  ⟨"java/lang/String", "indexOf", "(I)I"⟩,
  ⟨"java/lang/String", "indexOf", "(II)I"⟩,
  ⟨"java/lang/String", "isLatin1", "()Z"⟩,
  ⟨"java/lang/String", "length", "()I"⟩,
  ⟨"java/lang/String", "coder", "()B"⟩,
  ⟨"java/lang/StringLatin1", "indexOf", "([BIII)I"⟩,
  ⟨"java/lang/StringLatin1", "canEncode", "(I)Z"⟩,
  ⟨"DaughterTonguesLaw", "law", "([I)Z"⟩]
def z_mn (y : Nat) : MethodName := z_mns.getD y ⟨"", "", ""⟩
def z_bys : List ByteArray := [prog_8_method_2_code, prog_8_method_3_code, prog_8_method_4_code, prog_8_method_5_code, prog_8_method_6_code, prog_8_method_7_code, prog_8_method_8_code, prog_2_method_1_code, prog_2_method_2_code, prog_2_method_3_code, prog_2_method_4_code, prog_2_method_5_code, prog_3_method_1_code, prog_3_method_2_code, prog_3_method_3_code, prog_3_method_4_code, prog_3_method_5_code, prog_3_method_6_code, prog_3_method_7_code, prog_3_method_8_code, prog_3_method_9_code, prog_3_method_10_code, prog_3_method_11_code, prog_3_method_12_code, prog_3_method_13_code, prog_3_method_14_code, prog_3_method_15_code, prog_3_method_16_code, prog_3_method_17_code, prog_3_method_18_code, prog_3_method_19_code, prog_3_method_20_code, prog_3_method_21_code, prog_4_method_1_code, prog_4_method_2_code, prog_4_method_3_code, prog_4_method_4_code, prog_5_method_1_code, prog_5_method_2_code, prog_5_method_3_code, prog_5_method_4_code, prog_5_method_5_code, prog_5_method_6_code, prog_5_method_7_code, prog_5_method_8_code, prog_5_method_9_code, prog_5_method_10_code, prog_5_method_11_code, prog_5_method_12_code, prog_5_method_13_code, prog_5_method_14_code, prog_5_method_15_code, prog_6_method_1_code, prog_6_method_2_code, prog_7_method_1_code, prog_7_method_2_code, prog_7_method_3_code, prog_7_method_4_code, prog_7_method_5_code, prog_7_method_6_code, prog_7_method_7_code, prog_7_method_8_code, prog_19_method_23_code, prog_7_method_9_code, prog_9_method_1_code, prog_9_method_2_code, prog_9_method_3_code, prog_9_method_4_code, prog_10_method_1_code, prog_10_method_2_code, prog_10_method_3_code, prog_10_method_4_code, prog_10_method_5_code, prog_10_method_6_code, prog_11_method_1_code, prog_11_method_2_code, prog_11_method_3_code, prog_11_method_4_code, prog_11_method_5_code, prog_11_method_6_code, prog_11_method_7_code, prog_1_method_1_code, prog_1_method_2_code, prog_1_method_3_code, prog_1_method_4_code, prog_1_method_5_code, prog_1_method_6_code, prog_1_method_7_code, prog_1_method_8_code, prog_1_method_9_code, prog_1_method_10_code, prog_1_method_11_code, prog_1_method_12_code, prog_1_method_13_code, prog_1_method_14_code, prog_1_method_15_code, prog_1_method_16_code, prog_1_method_17_code, prog_1_method_18_code, prog_1_method_19_code, prog_1_method_20_code, prog_1_method_21_code, prog_1_method_22_code, prog_1_method_23_code, prog_1_method_24_code, prog_1_method_25_code, prog_1_method_26_code, prog_1_method_27_code, prog_1_method_28_code, prog_1_method_29_code, prog_1_method_30_code, prog_1_method_31_code, prog_1_method_32_code, prog_1_method_33_code, prog_1_method_34_code, prog_1_method_35_code, prog_1_method_36_code, prog_1_method_37_code, prog_1_method_38_code, prog_1_method_39_code, prog_1_method_40_code, prog_1_method_41_code, prog_1_method_42_code, prog_1_method_43_code, prog_1_method_44_code, prog_1_method_45_code, prog_1_method_46_code, prog_1_method_47_code, prog_1_method_48_code, prog_1_method_49_code, prog_1_method_50_code, prog_1_method_51_code, prog_1_method_52_code, prog_1_method_53_code, prog_1_method_54_code, prog_1_method_55_code, prog_1_method_56_code, prog_13_method_1_code, prog_13_method_2_code, prog_13_method_3_code, prog_13_method_4_code, prog_13_method_5_code, prog_13_method_6_code, prog_13_method_7_code, prog_13_method_8_code, prog_13_method_9_code, prog_13_method_10_code, prog_13_method_11_code, prog_13_method_12_code, prog_13_method_13_code, prog_13_method_14_code, prog_13_method_15_code, prog_13_method_16_code, prog_13_method_17_code, prog_13_method_18_code, prog_13_method_19_code, prog_13_method_20_code, prog_13_method_21_code, prog_13_method_22_code, prog_13_method_23_code, prog_13_method_24_code, prog_13_method_25_code, prog_13_method_26_code, prog_13_method_27_code, prog_13_method_28_code, prog_13_method_29_code, prog_13_method_30_code, prog_13_method_31_code, prog_13_method_32_code, prog_13_method_33_code, prog_13_method_34_code, prog_13_method_35_code, prog_13_method_36_code, prog_13_method_37_code, prog_13_method_38_code, prog_13_method_39_code, prog_13_method_40_code, prog_13_method_41_code, prog_13_method_42_code, prog_13_method_43_code, prog_13_method_44_code, prog_13_method_45_code, prog_13_method_46_code, prog_13_method_47_code, prog_13_method_48_code, prog_13_method_49_code, prog_13_method_50_code, prog_13_method_51_code, prog_13_method_52_code, prog_13_method_53_code, prog_13_method_54_code, prog_13_method_55_code, prog_13_method_56_code, prog_13_method_57_code, prog_13_method_58_code, prog_13_method_59_code, prog_13_method_60_code, prog_13_method_61_code, prog_13_method_62_code, prog_13_method_63_code, prog_13_method_64_code, prog_13_method_65_code, prog_13_method_66_code, prog_13_method_67_code, prog_13_method_68_code, prog_13_method_69_code, prog_13_method_70_code, prog_13_method_71_code, prog_13_method_72_code, prog_13_method_73_code, prog_13_method_74_code, prog_13_method_75_code, prog_13_method_76_code, prog_13_method_77_code, prog_13_method_78_code, prog_13_method_79_code, prog_13_method_80_code, prog_13_method_81_code, prog_13_method_82_code, prog_13_method_83_code, prog_13_method_84_code, prog_13_method_85_code, prog_13_method_86_code, prog_13_method_87_code, prog_13_method_88_code, prog_13_method_89_code, prog_13_method_90_code, prog_13_method_91_code, prog_13_method_92_code, prog_13_method_93_code, prog_13_method_94_code, prog_13_method_95_code, prog_13_method_96_code, prog_13_method_97_code, prog_13_method_98_code, prog_13_method_99_code, prog_13_method_100_code, prog_13_method_101_code, prog_13_method_102_code, prog_22_method_103_code, prog_16_method_49_code, prog_17_method_69_code, prog_17_method_65_code, prog_18_method_79_code, prog_18_method_80_code, prog_18_method_154_code, prog_18_method_54_code, prog_18_method_152_code, prog_19_method_22_code, prog_19_method_4_code, code]
def z_by (y : Nat) : ByteArray := z_bys.getD y ⟨#[]⟩
def z_rts : List (Option FieldType) := [(some .int), (some .int), (some .int), (some .int), (some .int), (some .int), (some .int), none, none, none, (some .int), (some .int), none, (some .int), none, none, (some .int), none, (some (.object "DaughterTongues$Tongue")), (some .int), none, none, (some .int), (some .int), (some .int), (some .int), (some .int), (some .int), (some .int), (some .int), (some .int), (some .boolean), (some .int), none, (some .int), (some .int), none, none, (some .int), (some .int), (some .int), none, none, (some .boolean), (some .boolean), (some .int), (some .int), (some .int), (some .int), (some .int), none, (some .boolean), none, none, none, (some .int), (some .int), none, (some .boolean), (some .boolean), (some .int), (some .int), (some .int), none, none, (some .int), (some .int), (some .boolean), none, none, (some .int), (some .int), (some .boolean), (some .int), none, none, (some .boolean), (some .int), none, (some .int), (some .int), none, (some .int), (some .int), (some .int), (some .int), (some .int), (some .int), (some .int), (some .int), (some .int), (some .int), (some .int), (some .int), (some .int), (some .int), (some .int), (some .int), (some .int), (some .int), (some .int), (some .int), (some .int), (some .int), (some .int), (some .int), (some .int), (some .int), (some .int), (some .int), (some .int), (some .int), (some .int), (some .int), (some .int), (some .int), (some .int), (some .int), (some .int), (some .int), (some .int), (some .int), (some .int), (some .int), (some .int), (some .int), (some .int), (some .int), (some .int), none, (some .boolean), (some .boolean), (some .boolean), (some .boolean), (some .boolean), (some .boolean), (some .boolean), none, (some .int), (some .boolean), (some .boolean), (some .boolean), (some .boolean), (some .boolean), (some .boolean), (some .boolean), (some .boolean), none, (some .int), (some .boolean), (some .boolean), (some .boolean), (some .boolean), (some .boolean), none, (some .int), (some .int), (some .int), (some .int), (some .int), (some .boolean), (some .boolean), (some .boolean), none, (some .int), (some .int), (some .int), (some .int), (some .int), (some .int), (some .int), (some .int), (some .int), (some .boolean), none, (some .int), (some .int), none, none, (some .int), (some .int), (some .int), (some .int), (some .int), (some .int), (some .int), (some .int), (some .int), (some .int), (some .int), (some .int), (some .int), (some .int), none, none, (some .boolean), (some .int), (some .int), (some .int), (some .int), (some .int), (some .int), (some .int), (some .int), (some .int), (some .int), (some .int), (some .int), (some .int), (some .int), none, (some .int), (some .boolean), (some .int), (some .boolean), none, none, (some .int), (some .int), (some .int), (some .int), (some .int), (some .int), (some .boolean), none, none, (some .int), (some .int), (some .int), (some .int), (some .boolean), (some .int), (some .int), (some .boolean), (some .int), (some .int), (some .int), (some .int), (some .int), none, (some .int), (some .int), (some .int), (some .int), (some .int), (some .boolean), (some .int), (some .byte), (some .int), (some .boolean), (some .boolean)]
def z_rt (y : Nat) : Option FieldType := z_rts.getD y none
