def RJ4 : String := "java/lang/StringBuilder"
def TJ4 : u_T := fun k => match k with
  | 0 => ("java/lang/AbstractStringBuilder", "value", "[B", false)
  | 1 => ("java/lang/AbstractStringBuilder", "coder", "B", false)
  | 2 => ("java/lang/AbstractStringBuilder", "maybeLatin1", "Z", false)
  | _ => ("java/lang/AbstractStringBuilder", "count", "I", false)
def tyJ4 : Nat → FieldType := fun k => match k with
  | 0 => .array .byte
  | 1 => .byte
  | 2 => .boolean
  | _ => .int
theorem nmJ4 : ∀ a, a < 4 → ∀ b, b < 4 → a ≠ b → (TJ4 a).2.1 ≠ (TJ4 b).2.1 := by decide +kernel
theorem tyJ4_ok : ∀ k, k < 4 → parseFieldDescriptor (TJ4 k).2.2.1 = some (tyJ4 k) := by decide +kernel
theorem inJ4 : ∀ w ∈ u_ws RJ4 TJ4 4, w ∈ gtbl := fun w h => in_g (by
  have e : u_ws RJ4 TJ4 4 = ([599, 601, 603, 605] : List Nat).filterMap (fun i => lw_tbl[i]?) := by decide +kernel
  rw [e] at h
  obtain ⟨i, -, hi⟩ := List.mem_filterMap.mp h
  exact List.mem_of_getElem? hi) (List.all_eq_true.mp (by decide +kernel : (u_ws RJ4 TJ4 4).all goodWord = true) w h)
def RX0 : String := "DrownedRooms$Boat"
def TX0 : u_T := fun k => match k with
  | 0 => ("DrownedRooms$Boat", "tried", "[I", true)
  | 1 => ("DrownedRooms$Boat", "found", "[I", true)
  | 2 => ("DrownedRooms$Boat", "houses", "I", false)
  | _ => ("DrownedRooms$Boat", "fewest", "I", false)
def tyX0 : Nat → FieldType := fun k => match k with
  | 0 => .array .int
  | 1 => .array .int
  | 2 => .int
  | _ => .int
theorem nmX0 : ∀ a, a < 4 → ∀ b, b < 4 → a ≠ b → (TX0 a).2.1 ≠ (TX0 b).2.1 := by decide +kernel
theorem tyX0_ok : ∀ k, k < 4 → parseFieldDescriptor (TX0 k).2.2.1 = some (tyX0 k) := by decide +kernel
theorem inX0 : ∀ w ∈ u_ws RX0 TX0 4, w ∈ gtbl := fun w h => in_g (by
  have e : u_ws RX0 TX0 4 = ([522, 524, 526, 528] : List Nat).filterMap (fun i => lw_tbl[i]?) := by decide +kernel
  rw [e] at h
  obtain ⟨i, -, hi⟩ := List.mem_filterMap.mp h
  exact List.mem_of_getElem? hi) (List.all_eq_true.mp (by decide +kernel : (u_ws RX0 TX0 4).all goodWord = true) w h)
def RX1 : String := "DrownedRooms$Book"
def TX1 : u_T := fun k => match k with
  | 0 => ("DrownedRooms$Book", "act", "[I", true)
  | 1 => ("DrownedRooms$Book", "guest", "[I", true)
  | 2 => ("DrownedRooms$Book", "room", "[I", true)
  | 3 => ("DrownedRooms$Book", "number", "[I", true)
  | 4 => ("DrownedRooms$Book", "lines", "I", false)
  | 5 => ("DrownedRooms$Book", "isJudged", "Z", false)
  | 6 => ("DrownedRooms$Book", "whyWrong", "I", false)
  | 7 => ("DrownedRooms$Book", "right", "I", false)
  | 8 => ("DrownedRooms$Book", "dayThen", "I", false)
  | _ => ("DrownedRooms$Book", "levelThen", "I", false)
def tyX1 : Nat → FieldType := fun k => match k with
  | 0 => .array .int
  | 1 => .array .int
  | 2 => .array .int
  | 3 => .array .int
  | 4 => .int
  | 5 => .boolean
  | 6 => .int
  | 7 => .int
  | 8 => .int
  | _ => .int
theorem nmX1 : ∀ a, a < 10 → ∀ b, b < 10 → a ≠ b → (TX1 a).2.1 ≠ (TX1 b).2.1 := by decide +kernel
theorem tyX1_ok : ∀ k, k < 10 → parseFieldDescriptor (TX1 k).2.2.1 = some (tyX1 k) := by decide +kernel
theorem inX1 : ∀ w ∈ u_ws RX1 TX1 10, w ∈ gtbl := fun w h => in_g (by
  have e : u_ws RX1 TX1 10 = ([441, 443, 445, 447, 449, 451, 453, 455, 457, 459] : List Nat).filterMap (fun i => lw_tbl[i]?) := by decide +kernel
  rw [e] at h
  obtain ⟨i, -, hi⟩ := List.mem_filterMap.mp h
  exact List.mem_of_getElem? hi) (List.all_eq_true.mp (by decide +kernel : (u_ws RX1 TX1 10).all goodWord = true) w h)
def RX2 : String := "DrownedRooms$History"
def TX2 : u_T := fun k => match k with
  | 0 => ("DrownedRooms$History", "ring", "[LDrownedRooms$Lake;", true)
  | 1 => ("DrownedRooms$History", "next", "I", false)
  | _ => ("DrownedRooms$History", "kept", "I", false)
def tyX2 : Nat → FieldType := fun k => match k with
  | 0 => .array (.object "DrownedRooms$Lake")
  | 1 => .int
  | _ => .int
theorem nmX2 : ∀ a, a < 3 → ∀ b, b < 3 → a ≠ b → (TX2 a).2.1 ≠ (TX2 b).2.1 := by decide +kernel
theorem tyX2_ok : ∀ k, k < 3 → parseFieldDescriptor (TX2 k).2.2.1 = some (tyX2 k) := by decide +kernel
theorem inX2 : ∀ w ∈ u_ws RX2 TX2 3, w ∈ gtbl := fun w h => in_g (by
  have e : u_ws RX2 TX2 3 = ([392, 394, 396] : List Nat).filterMap (fun i => lw_tbl[i]?) := by decide +kernel
  rw [e] at h
  obtain ⟨i, -, hi⟩ := List.mem_filterMap.mp h
  exact List.mem_of_getElem? hi) (List.all_eq_true.mp (by decide +kernel : (u_ws RX2 TX2 3).all goodWord = true) w h)
def RX3 : String := "DrownedRooms$Image"
def TX3 : u_T := fun k => match k with
  | 0 => ("DrownedRooms$Image", "valley", "LDrownedRooms$Valley;", true)
  | 1 => ("DrownedRooms$Image", "lake", "LDrownedRooms$Lake;", true)
  | 2 => ("DrownedRooms$Image", "sentence", "LDrownedRooms$Sentence;", true)
  | _ => ("DrownedRooms$Image", "isKept", "Z", false)
def tyX3 : Nat → FieldType := fun k => match k with
  | 0 => .object "DrownedRooms$Valley"
  | 1 => .object "DrownedRooms$Lake"
  | 2 => .object "DrownedRooms$Sentence"
  | _ => .boolean
theorem nmX3 : ∀ a, a < 4 → ∀ b, b < 4 → a ≠ b → (TX3 a).2.1 ≠ (TX3 b).2.1 := by decide +kernel
theorem tyX3_ok : ∀ k, k < 4 → parseFieldDescriptor (TX3 k).2.2.1 = some (tyX3 k) := by decide +kernel
theorem inX3 : ∀ w ∈ u_ws RX3 TX3 4, w ∈ gtbl := fun w h => in_g (by
  have e : u_ws RX3 TX3 4 = ([568, 570, 572, 574] : List Nat).filterMap (fun i => lw_tbl[i]?) := by decide +kernel
  rw [e] at h
  obtain ⟨i, -, hi⟩ := List.mem_filterMap.mp h
  exact List.mem_of_getElem? hi) (List.all_eq_true.mp (by decide +kernel : (u_ws RX3 TX3 4).all goodWord = true) w h)
def RX4 : String := "DrownedRooms$Lake"
def TX4 : u_T := fun k => match k with
  | 0 => ("DrownedRooms$Lake", "valley", "LDrownedRooms$Valley;", true)
  | 1 => ("DrownedRooms$Lake", "day", "I", false)
  | 2 => ("DrownedRooms$Lake", "level", "I", false)
  | 3 => ("DrownedRooms$Lake", "wheelAt", "I", false)
  | 4 => ("DrownedRooms$Lake", "mills", "I", false)
  | 5 => ("DrownedRooms$Lake", "roomOf", "[I", true)
  | 6 => ("DrownedRooms$Lake", "nights", "[I", true)
  | 7 => ("DrownedRooms$Lake", "purse", "[I", true)
  | 8 => ("DrownedRooms$Lake", "wetNights", "[I", true)
  | 9 => ("DrownedRooms$Lake", "brought", "[I", true)
  | _ => ("DrownedRooms$Lake", "seed", "I", false)
def tyX4 : Nat → FieldType := fun k => match k with
  | 0 => .object "DrownedRooms$Valley"
  | 1 => .int
  | 2 => .int
  | 3 => .int
  | 4 => .int
  | 5 => .array .int
  | 6 => .array .int
  | 7 => .array .int
  | 8 => .array .int
  | 9 => .array .int
  | _ => .int
theorem nmX4 : ∀ a, a < 11 → ∀ b, b < 11 → a ≠ b → (TX4 a).2.1 ≠ (TX4 b).2.1 := by decide +kernel
theorem tyX4_ok : ∀ k, k < 11 → parseFieldDescriptor (TX4 k).2.2.1 = some (tyX4 k) := by decide +kernel
theorem inX4 : ∀ w ∈ u_ws RX4 TX4 11, w ∈ gtbl := fun w h => in_g (by
  have e : u_ws RX4 TX4 11 = ([357, 359, 361, 363, 365, 367, 369, 371, 373, 375, 377] : List Nat).filterMap (fun i => lw_tbl[i]?) := by decide +kernel
  rw [e] at h
  obtain ⟨i, -, hi⟩ := List.mem_filterMap.mp h
  exact List.mem_of_getElem? hi) (List.all_eq_true.mp (by decide +kernel : (u_ws RX4 TX4 11).all goodWord = true) w h)
def RX5 : String := "DrownedRooms$Marks"
def TX5 : u_T := fun k => match k with
  | 0 => ("DrownedRooms$Marks", "least", "I", false)
  | 1 => ("DrownedRooms$Marks", "greatest", "I", false)
  | _ => ("DrownedRooms$Marks", "bellRoom", "I", false)
def tyX5 : Nat → FieldType := fun k => match k with
  | 0 => .int
  | 1 => .int
  | _ => .int
theorem nmX5 : ∀ a, a < 3 → ∀ b, b < 3 → a ≠ b → (TX5 a).2.1 ≠ (TX5 b).2.1 := by decide +kernel
theorem tyX5_ok : ∀ k, k < 3 → parseFieldDescriptor (TX5 k).2.2.1 = some (tyX5 k) := by decide +kernel
theorem inX5 : ∀ w ∈ u_ws RX5 TX5 3, w ∈ gtbl := fun w h => in_g (by
  have e : u_ws RX5 TX5 3 = ([543, 545, 547] : List Nat).filterMap (fun i => lw_tbl[i]?) := by decide +kernel
  rw [e] at h
  obtain ⟨i, -, hi⟩ := List.mem_filterMap.mp h
  exact List.mem_of_getElem? hi) (List.all_eq_true.mp (by decide +kernel : (u_ws RX5 TX5 3).all goodWord = true) w h)
def RX6 : String := "DrownedRooms$Plan"
def TX6 : u_T := fun k => match k with
  | 0 => ("DrownedRooms$Plan", "tried", "[I", true)
  | 1 => ("DrownedRooms$Plan", "found", "[I", true)
  | 2 => ("DrownedRooms$Plan", "foundDays", "I", false)
  | 3 => ("DrownedRooms$Plan", "days", "I", false)
  | _ => ("DrownedRooms$Plan", "mostGain", "I", false)
def tyX6 : Nat → FieldType := fun k => match k with
  | 0 => .array .int
  | 1 => .array .int
  | 2 => .int
  | 3 => .int
  | _ => .int
theorem nmX6 : ∀ a, a < 5 → ∀ b, b < 5 → a ≠ b → (TX6 a).2.1 ≠ (TX6 b).2.1 := by decide +kernel
theorem tyX6_ok : ∀ k, k < 5 → parseFieldDescriptor (TX6 k).2.2.1 = some (tyX6 k) := by decide +kernel
theorem inX6 : ∀ w ∈ u_ws RX6 TX6 5, w ∈ gtbl := fun w h => in_g (by
  have e : u_ws RX6 TX6 5 = ([501, 503, 505, 507, 509] : List Nat).filterMap (fun i => lw_tbl[i]?) := by decide +kernel
  rw [e] at h
  obtain ⟨i, -, hi⟩ := List.mem_filterMap.mp h
  exact List.mem_of_getElem? hi) (List.all_eq_true.mp (by decide +kernel : (u_ws RX6 TX6 5).all goodWord = true) w h)
def RX7 : String := "DrownedRooms$Sentence"
def TX7 : u_T := fun k => match k with
  | 0 => ("DrownedRooms$Sentence", "ones", "I", false)
  | 1 => ("DrownedRooms$Sentence", "size", "I", false)
  | 2 => ("DrownedRooms$Sentence", "step", "[I", true)
  | 3 => ("DrownedRooms$Sentence", "sign", "[I", true)
  | 4 => ("DrownedRooms$Sentence", "number", "[I", true)
  | _ => ("DrownedRooms$Sentence", "worth", "[I", true)
def tyX7 : Nat → FieldType := fun k => match k with
  | 0 => .int
  | 1 => .int
  | 2 => .array .int
  | 3 => .array .int
  | 4 => .array .int
  | _ => .array .int
theorem nmX7 : ∀ a, a < 6 → ∀ b, b < 6 → a ≠ b → (TX7 a).2.1 ≠ (TX7 b).2.1 := by decide +kernel
theorem tyX7_ok : ∀ k, k < 6 → parseFieldDescriptor (TX7 k).2.2.1 = some (tyX7 k) := by decide +kernel
theorem inX7 : ∀ w ∈ u_ws RX7 TX7 6, w ∈ gtbl := fun w h => in_g (by
  have e : u_ws RX7 TX7 6 = ([412, 414, 416, 418, 420, 422] : List Nat).filterMap (fun i => lw_tbl[i]?) := by decide +kernel
  rw [e] at h
  obtain ⟨i, -, hi⟩ := List.mem_filterMap.mp h
  exact List.mem_of_getElem? hi) (List.all_eq_true.mp (by decide +kernel : (u_ws RX7 TX7 6).all goodWord = true) w h)
def RX8 : String := "DrownedRooms$Stays"
def TX8 : u_T := fun k => match k with
  | 0 => ("DrownedRooms$Stays", "from", "[I", true)
  | 1 => ("DrownedRooms$Stays", "nights", "[I", true)
  | 2 => ("DrownedRooms$Stays", "fits", "[I", true)
  | 3 => ("DrownedRooms$Stays", "tried", "[I", true)
  | 4 => ("DrownedRooms$Stays", "found", "[I", true)
  | 5 => ("DrownedRooms$Stays", "stays", "I", false)
  | _ => ("DrownedRooms$Stays", "mostLet", "I", false)
def tyX8 : Nat → FieldType := fun k => match k with
  | 0 => .array .int
  | 1 => .array .int
  | 2 => .array .int
  | 3 => .array .int
  | 4 => .array .int
  | 5 => .int
  | _ => .int
theorem nmX8 : ∀ a, a < 7 → ∀ b, b < 7 → a ≠ b → (TX8 a).2.1 ≠ (TX8 b).2.1 := by decide +kernel
theorem tyX8_ok : ∀ k, k < 7 → parseFieldDescriptor (TX8 k).2.2.1 = some (tyX8 k) := by decide +kernel
theorem inX8 : ∀ w ∈ u_ws RX8 TX8 7, w ∈ gtbl := fun w h => in_g (by
  have e : u_ws RX8 TX8 7 = ([475, 477, 479, 481, 483, 485, 487] : List Nat).filterMap (fun i => lw_tbl[i]?) := by decide +kernel
  rw [e] at h
  obtain ⟨i, -, hi⟩ := List.mem_filterMap.mp h
  exact List.mem_of_getElem? hi) (List.all_eq_true.mp (by decide +kernel : (u_ws RX8 TX8 7).all goodWord = true) w h)
def RX9 : String := "DrownedRooms$Tape"
def TX9 : u_T := fun k => match k with
  | 0 => ("DrownedRooms$Tape", "bytes", "[B", true)
  | 1 => ("DrownedRooms$Tape", "length", "I", false)
  | 2 => ("DrownedRooms$Tape", "mostOfText", "I", false)
  | 3 => ("DrownedRooms$Tape", "place", "I", false)
  | 4 => ("DrownedRooms$Tape", "behind", "I", false)
  | 5 => ("DrownedRooms$Tape", "sort", "I", false)
  | 6 => ("DrownedRooms$Tape", "keyword", "I", false)
  | 7 => ("DrownedRooms$Tape", "value", "I", false)
  | 8 => ("DrownedRooms$Tape", "word", "J", false)
  | 9 => ("DrownedRooms$Tape", "faultKind", "I", false)
  | _ => ("DrownedRooms$Tape", "faultPlace", "I", false)
def tyX9 : Nat → FieldType := fun k => match k with
  | 0 => .array .byte
  | 1 => .int
  | 2 => .int
  | 3 => .int
  | 4 => .int
  | 5 => .int
  | 6 => .int
  | 7 => .int
  | 8 => .long
  | 9 => .int
  | _ => .int
theorem nmX9 : ∀ a, a < 11 → ∀ b, b < 11 → a ≠ b → (TX9 a).2.1 ≠ (TX9 b).2.1 := by decide +kernel
theorem tyX9_ok : ∀ k, k < 11 → parseFieldDescriptor (TX9 k).2.2.1 = some (tyX9 k) := by decide +kernel
theorem inX9 : ∀ w ∈ u_ws RX9 TX9 11, w ∈ gtbl := fun w h => in_g (by
  have e : u_ws RX9 TX9 11 = ([181, 183, 185, 187, 189, 191, 193, 195, 197, 199, 201] : List Nat).filterMap (fun i => lw_tbl[i]?) := by decide +kernel
  rw [e] at h
  obtain ⟨i, -, hi⟩ := List.mem_filterMap.mp h
  exact List.mem_of_getElem? hi) (List.all_eq_true.mp (by decide +kernel : (u_ws RX9 TX9 11).all goodWord = true) w h)
def RX10 : String := "DrownedRooms$Valley"
def TX10 : u_T := fun k => match k with
  | 0 => ("DrownedRooms$Valley", "firstLevel", "I", false)
  | 1 => ("DrownedRooms$Valley", "every", "I", false)
  | 2 => ("DrownedRooms$Valley", "rise", "I", false)
  | 3 => ("DrownedRooms$Valley", "millLevel", "I", false)
  | 4 => ("DrownedRooms$Valley", "storm", "I", false)
  | 5 => ("DrownedRooms$Valley", "houses", "I", false)
  | 6 => ("DrownedRooms$Valley", "rooms", "I", false)
  | 7 => ("DrownedRooms$Valley", "guests", "I", false)
  | 8 => ("DrownedRooms$Valley", "toldOnce", "I", false)
  | 9 => ("DrownedRooms$Valley", "names", "[J", true)
  | 10 => ("DrownedRooms$Valley", "x", "[I", true)
  | 11 => ("DrownedRooms$Valley", "y", "[I", true)
  | 12 => ("DrownedRooms$Valley", "houseOf", "[I", true)
  | 13 => ("DrownedRooms$Valley", "foot", "[I", true)
  | 14 => ("DrownedRooms$Valley", "price", "[I", true)
  | 15 => ("DrownedRooms$Valley", "firstPurse", "[I", true)
  | 16 => ("DrownedRooms$Valley", "breath", "[I", true)
  | 17 => ("DrownedRooms$Valley", "foes", "[I", true)
  | 18 => ("DrownedRooms$Valley", "sleepsIn", "[I", true)
  | _ => ("DrownedRooms$Valley", "sleepsFor", "[I", true)
def tyX10 : Nat → FieldType := fun k => match k with
  | 0 => .int
  | 1 => .int
  | 2 => .int
  | 3 => .int
  | 4 => .int
  | 5 => .int
  | 6 => .int
  | 7 => .int
  | 8 => .int
  | 9 => .array .long
  | 10 => .array .int
  | 11 => .array .int
  | 12 => .array .int
  | 13 => .array .int
  | 14 => .array .int
  | 15 => .array .int
  | 16 => .array .int
  | 17 => .array .int
  | 18 => .array .int
  | _ => .array .int
theorem nmX10 : ∀ a, a < 20 → ∀ b, b < 20 → a ≠ b → (TX10 a).2.1 ≠ (TX10 b).2.1 := by decide +kernel
theorem tyX10_ok : ∀ k, k < 20 → parseFieldDescriptor (TX10 k).2.2.1 = some (tyX10 k) := by decide +kernel
theorem inX10 : ∀ w ∈ u_ws RX10 TX10 20, w ∈ gtbl := fun w h => in_g (by
  have e : u_ws RX10 TX10 20 = ([273, 275, 277, 279, 281, 283, 285, 287, 289, 291, 293, 295, 297, 299, 301, 303, 305, 307, 309, 311] : List Nat).filterMap (fun i => lw_tbl[i]?) := by decide +kernel
  rw [e] at h
  obtain ⟨i, -, hi⟩ := List.mem_filterMap.mp h
  exact List.mem_of_getElem? hi) (List.all_eq_true.mp (by decide +kernel : (u_ws RX10 TX10 20).all goodWord = true) w h)
def RX11 : String := "DrownedRooms"
def TX11 : u_T := fun k => match k with
  | 0 => ("DrownedRooms", "tape", "LDrownedRooms$Tape;", true)
  | 1 => ("DrownedRooms", "valley", "LDrownedRooms$Valley;", true)
  | 2 => ("DrownedRooms", "draftValley", "LDrownedRooms$Valley;", true)
  | 3 => ("DrownedRooms", "lake", "LDrownedRooms$Lake;", true)
  | 4 => ("DrownedRooms", "trial", "LDrownedRooms$Lake;", true)
  | 5 => ("DrownedRooms", "history", "LDrownedRooms$History;", true)
  | 6 => ("DrownedRooms", "sentence", "LDrownedRooms$Sentence;", true)
  | 7 => ("DrownedRooms", "draftSentence", "LDrownedRooms$Sentence;", true)
  | 8 => ("DrownedRooms", "bookRead", "LDrownedRooms$Book;", true)
  | 9 => ("DrownedRooms", "staysFound", "LDrownedRooms$Stays;", true)
  | 10 => ("DrownedRooms", "planFound", "LDrownedRooms$Plan;", true)
  | 11 => ("DrownedRooms", "boat", "LDrownedRooms$Boat;", true)
  | 12 => ("DrownedRooms", "marksHeard", "LDrownedRooms$Marks;", true)
  | 13 => ("DrownedRooms", "images", "[LDrownedRooms$Image;", true)
  | 14 => ("DrownedRooms", "billText", "Ljava/lang/StringBuilder;", true)
  | _ => ("DrownedRooms", "latestFault", "I", false)
def tyX11 : Nat → FieldType := fun k => match k with
  | 0 => .object "DrownedRooms$Tape"
  | 1 => .object "DrownedRooms$Valley"
  | 2 => .object "DrownedRooms$Valley"
  | 3 => .object "DrownedRooms$Lake"
  | 4 => .object "DrownedRooms$Lake"
  | 5 => .object "DrownedRooms$History"
  | 6 => .object "DrownedRooms$Sentence"
  | 7 => .object "DrownedRooms$Sentence"
  | 8 => .object "DrownedRooms$Book"
  | 9 => .object "DrownedRooms$Stays"
  | 10 => .object "DrownedRooms$Plan"
  | 11 => .object "DrownedRooms$Boat"
  | 12 => .object "DrownedRooms$Marks"
  | 13 => .array (.object "DrownedRooms$Image")
  | 14 => .object "java/lang/StringBuilder"
  | _ => .int
theorem nmX11 : ∀ a, a < 16 → ∀ b, b < 16 → a ≠ b → (TX11 a).2.1 ≠ (TX11 b).2.1 := by decide +kernel
theorem tyX11_ok : ∀ k, k < 16 → parseFieldDescriptor (TX11 k).2.2.1 = some (tyX11 k) := by decide +kernel
theorem inX11 : ∀ w ∈ u_ws RX11 TX11 16, w ∈ gtbl := fun w h => in_g (by
  have e : u_ws RX11 TX11 16 = ([624, 626, 628, 630, 632, 634, 636, 638, 640, 642, 644, 646, 648, 650, 652, 654] : List Nat).filterMap (fun i => lw_tbl[i]?) := by decide +kernel
  rw [e] at h
  obtain ⟨i, -, hi⟩ := List.mem_filterMap.mp h
  exact List.mem_of_getElem? hi) (List.all_eq_true.mp (by decide +kernel : (u_ws RX11 TX11 16).all goodWord = true) w h)
def RX12 : String := "DrownedRoomsModel"
def TX12 : u_T := fun k => match k with
  | 0 => ("DrownedRoomsModel", "thrown", "I", false)
  | 1 => ("DrownedRoomsModel", "tape", "[I", true)
  | 2 => ("DrownedRoomsModel", "taped", "I", false)
  | 3 => ("DrownedRoomsModel", "size", "I", false)
  | 4 => ("DrownedRoomsModel", "limit", "I", false)
  | 5 => ("DrownedRoomsModel", "to", "I", false)
  | 6 => ("DrownedRoomsModel", "from", "I", false)
  | 7 => ("DrownedRoomsModel", "kind", "I", false)
  | 8 => ("DrownedRoomsModel", "number", "I", false)
  | 9 => ("DrownedRoomsModel", "sign", "I", false)
  | 10 => ("DrownedRoomsModel", "fault", "I", false)
  | 11 => ("DrownedRoomsModel", "place", "I", false)
  | 12 => ("DrownedRoomsModel", "word", "J", false)
  | 13 => ("DrownedRoomsModel", "told", "I", false)
  | 14 => ("DrownedRoomsModel", "now", "[I", true)
  | 15 => ("DrownedRoomsModel", "read", "[I", true)
  | 16 => ("DrownedRoomsModel", "kept", "[I", true)
  | 17 => ("DrownedRoomsModel", "snaps", "[I", true)
  | 18 => ("DrownedRoomsModel", "aside", "[I", true)
  | 19 => ("DrownedRoomsModel", "name", "[J", true)
  | 20 => ("DrownedRoomsModel", "readName", "[J", true)
  | 21 => ("DrownedRoomsModel", "keptName", "[J", true)
  | 22 => ("DrownedRoomsModel", "isKept", "[Z", true)
  | 23 => ("DrownedRoomsModel", "onces", "[Z", true)
  | 24 => ("DrownedRoomsModel", "snapMany", "I", false)
  | 25 => ("DrownedRoomsModel", "levels", "[I", true)
  | 26 => ("DrownedRoomsModel", "staying", "[I", true)
  | 27 => ("DrownedRoomsModel", "stayed", "[I", true)
  | 28 => ("DrownedRoomsModel", "stayMost", "I", false)
  | 29 => ("DrownedRoomsModel", "stayMany", "I", false)
  | 30 => ("DrownedRoomsModel", "turning", "[I", true)
  | 31 => ("DrownedRoomsModel", "plan", "[I", true)
  | 32 => ("DrownedRoomsModel", "planMost", "I", false)
  | 33 => ("DrownedRoomsModel", "planMany", "I", false)
  | 34 => ("DrownedRoomsModel", "rowing", "[I", true)
  | 35 => ("DrownedRoomsModel", "rowed", "[I", true)
  | 36 => ("DrownedRoomsModel", "rowLeast", "I", false)
  | 37 => ("DrownedRoomsModel", "rowMany", "I", false)
  | 38 => ("DrownedRoomsModel", "lowest", "I", false)
  | 39 => ("DrownedRoomsModel", "highest", "I", false)
  | 40 => ("DrownedRoomsModel", "bell", "I", false)
  | 41 => ("DrownedRoomsModel", "marks", "[I", true)
  | 42 => ("DrownedRoomsModel", "text", "[I", true)
  | 43 => ("DrownedRoomsModel", "texts", "I", false)
  | 44 => ("DrownedRoomsModel", "seed", "I", false)
  | 45 => ("DrownedRoomsModel", "line", "[I", true)
  | 46 => ("DrownedRoomsModel", "written", "[I", true)
  | 47 => ("DrownedRoomsModel", "lineMany", "I", false)
  | 48 => ("DrownedRoomsModel", "hasWritten", "Z", false)
  | 49 => ("DrownedRoomsModel", "node", "[I", true)
  | 50 => ("DrownedRoomsModel", "nodes", "I", false)
  | 51 => ("DrownedRoomsModel", "onesMany", "I", false)
  | 52 => ("DrownedRoomsModel", "within", "I", false)
  | _ => ("DrownedRoomsModel", "top", "I", false)
def tyX12 : Nat → FieldType := fun k => match k with
  | 0 => .int
  | 1 => .array .int
  | 2 => .int
  | 3 => .int
  | 4 => .int
  | 5 => .int
  | 6 => .int
  | 7 => .int
  | 8 => .int
  | 9 => .int
  | 10 => .int
  | 11 => .int
  | 12 => .long
  | 13 => .int
  | 14 => .array .int
  | 15 => .array .int
  | 16 => .array .int
  | 17 => .array .int
  | 18 => .array .int
  | 19 => .array .long
  | 20 => .array .long
  | 21 => .array .long
  | 22 => .array .boolean
  | 23 => .array .boolean
  | 24 => .int
  | 25 => .array .int
  | 26 => .array .int
  | 27 => .array .int
  | 28 => .int
  | 29 => .int
  | 30 => .array .int
  | 31 => .array .int
  | 32 => .int
  | 33 => .int
  | 34 => .array .int
  | 35 => .array .int
  | 36 => .int
  | 37 => .int
  | 38 => .int
  | 39 => .int
  | 40 => .int
  | 41 => .array .int
  | 42 => .array .int
  | 43 => .int
  | 44 => .int
  | 45 => .array .int
  | 46 => .array .int
  | 47 => .int
  | 48 => .boolean
  | 49 => .array .int
  | 50 => .int
  | 51 => .int
  | 52 => .int
  | _ => .int
theorem nmX12 : ∀ a, a < 54 → ∀ b, b < 54 → a ≠ b → (TX12 a).2.1 ≠ (TX12 b).2.1 := by decide +kernel
theorem tyX12_ok : ∀ k, k < 54 → parseFieldDescriptor (TX12 k).2.2.1 = some (tyX12 k) := by decide +kernel
theorem inX12 : ∀ w ∈ u_ws RX12 TX12 54, w ∈ gtbl := fun w h => in_g (by
  have e : u_ws RX12 TX12 54 = ([1790, 1792, 1794, 1796, 1798, 1800, 1802, 1804, 1806, 1808, 1810, 1812, 1814, 1816, 1818, 1820, 1822, 1824, 1826, 1828, 1830, 1832, 1834, 1836, 1838, 1840, 1842, 1844, 1846, 1848, 1850, 1852, 1854, 1856, 1858, 1860, 1862, 1864, 1866, 1868, 1870, 1872, 1874, 1876, 1878, 1880, 1882, 1884, 1886, 1888, 1890, 1892, 1894, 1896] : List Nat).filterMap (fun i => lw_tbl[i]?) := by decide +kernel
  rw [e] at h
  obtain ⟨i, -, hi⟩ := List.mem_filterMap.mp h
  exact List.mem_of_getElem? hi) (List.all_eq_true.mp (by decide +kernel : (u_ws RX12 TX12 54).all goodWord = true) w h)
abbrev vwCl : List vw_C := [(RJ4, TJ4, 4), (RX0, TX0, 4), (RX1, TX1, 10), (RX2, TX2, 3), (RX3, TX3, 4), (RX4, TX4, 11), (RX5, TX5, 3), (RX6, TX6, 5), (RX7, TX7, 6), (RX8, TX8, 7), (RX9, TX9, 11), (RX10, TX10, 20), (RX11, TX11, 16), (RX12, TX12, 54)]
def clTy (ci : Nat) : Nat → FieldType := match ci with
  | 0 => tyJ4
  | 1 => tyX0
  | 2 => tyX1
  | 3 => tyX2
  | 4 => tyX3
  | 5 => tyX4
  | 6 => tyX5
  | 7 => tyX6
  | 8 => tyX7
  | 9 => tyX8
  | 10 => tyX9
  | 11 => tyX10
  | 12 => tyX11
  | _ => tyX12
theorem cl_ok {ci : Nat} {q : vw_C} (h : vwCl[ci]? = some q) : (∀ w ∈ u_ws q.1 q.2.1 q.2.2, w ∈ gtbl) ∧ (∀ k, k < q.2.2 → parseFieldDescriptor (q.2.1 k).2.2.1 = some (clTy ci k)) ∧ (∀ a, a < q.2.2 → ∀ b, b < q.2.2 → a ≠ b → (q.2.1 a).2.1 ≠ (q.2.1 b).2.1) := by
  match ci, h with
  | 0, h => cases h; exact ⟨inJ4, tyJ4_ok, nmJ4⟩
  | 1, h => cases h; exact ⟨inX0, tyX0_ok, nmX0⟩
  | 2, h => cases h; exact ⟨inX1, tyX1_ok, nmX1⟩
  | 3, h => cases h; exact ⟨inX2, tyX2_ok, nmX2⟩
  | 4, h => cases h; exact ⟨inX3, tyX3_ok, nmX3⟩
  | 5, h => cases h; exact ⟨inX4, tyX4_ok, nmX4⟩
  | 6, h => cases h; exact ⟨inX5, tyX5_ok, nmX5⟩
  | 7, h => cases h; exact ⟨inX6, tyX6_ok, nmX6⟩
  | 8, h => cases h; exact ⟨inX7, tyX7_ok, nmX7⟩
  | 9, h => cases h; exact ⟨inX8, tyX8_ok, nmX8⟩
  | 10, h => cases h; exact ⟨inX9, tyX9_ok, nmX9⟩
  | 11, h => cases h; exact ⟨inX10, tyX10_ok, nmX10⟩
  | 12, h => cases h; exact ⟨inX11, tyX11_ok, nmX11⟩
  | 13, h => cases h; exact ⟨inX12, tyX12_ok, nmX12⟩
  | k + 14, h => simp [vwCl] at h
