def RX0 : String := "PassagePapers$Archive"
def TX0 : u_T := fun k => match k with
  | 0 => ("PassagePapers$Archive", "workRows", "[[I", true)
  | 1 => ("PassagePapers$Archive", "imageRows", "[[I", true)
  | 2 => ("PassagePapers$Archive", "worksOfImage", "[I", true)
  | 3 => ("PassagePapers$Archive", "works", "I", false)
  | _ => ("PassagePapers$Archive", "images", "I", false)
def tyX0 : Nat → FieldType := fun k => match k with
  | 0 => .array (.array .int)
  | 1 => .array (.array .int)
  | 2 => .array .int
  | 3 => .int
  | _ => .int
abbrev wsX00 : List Cond := u_ws RX0 TX0 5
theorem nmX0 : ∀ a, a < 5 → ∀ b, b < 5 → a ≠ b → (TX0 a).2.1 ≠ (TX0 b).2.1 := by decide +kernel
theorem tyX0_ok : ∀ k, k < 5 → parseFieldDescriptor (TX0 k).2.2.1 = some (tyX0 k) := by decide +kernel
def RX1 : String := "PassagePapers$Book"
def TX1 : u_T := fun k => match k with
  | 0 => ("PassagePapers$Book", "weeks", "[I", true)
  | 1 => ("PassagePapers$Book", "more", "[I", true)
  | _ => ("PassagePapers$Book", "lines", "I", false)
def tyX1 : Nat → FieldType := fun k => match k with
  | 0 => .array .int
  | 1 => .array .int
  | _ => .int
abbrev wsX10 : List Cond := u_ws RX1 TX1 3
theorem nmX1 : ∀ a, a < 3 → ∀ b, b < 3 → a ≠ b → (TX1 a).2.1 ≠ (TX1 b).2.1 := by decide +kernel
theorem tyX1_ok : ∀ k, k < 3 → parseFieldDescriptor (TX1 k).2.2.1 = some (tyX1 k) := by decide +kernel
def RX2 : String := "PassagePapers$Law"
def TX2 : u_T := fun k => match k with
  | 0 => ("PassagePapers$Law", "codes", "[I", true)
  | 1 => ("PassagePapers$Law", "stack", "[I", true)
  | _ => ("PassagePapers$Law", "length", "I", false)
def tyX2 : Nat → FieldType := fun k => match k with
  | 0 => .array .int
  | 1 => .array .int
  | _ => .int
abbrev wsX20 : List Cond := u_ws RX2 TX2 3
theorem nmX2 : ∀ a, a < 3 → ∀ b, b < 3 → a ≠ b → (TX2 a).2.1 ≠ (TX2 b).2.1 := by decide +kernel
theorem tyX2_ok : ∀ k, k < 3 → parseFieldDescriptor (TX2 k).2.2.1 = some (tyX2 k) := by decide +kernel
def RX3 : String := "PassagePapers$Ledger"
def TX3 : u_T := fun k => match k with
  | 0 => ("PassagePapers$Ledger", "state", "LPassagePapers$State;", true)
  | 1 => ("PassagePapers$Ledger", "courtLaw", "LPassagePapers$Law;", true)
  | 2 => ("PassagePapers$Ledger", "takersLaw", "LPassagePapers$Law;", true)
  | 3 => ("PassagePapers$Ledger", "paper", "[I", true)
  | 4 => ("PassagePapers$Ledger", "heads", "[I", true)
  | 5 => ("PassagePapers$Ledger", "fields", "[I", true)
  | _ => ("PassagePapers$Ledger", "register", "LPassagePapers$Register;", false)
def tyX3 : Nat → FieldType := fun k => match k with
  | 0 => .object "PassagePapers$State"
  | 1 => .object "PassagePapers$Law"
  | 2 => .object "PassagePapers$Law"
  | 3 => .array .int
  | 4 => .array .int
  | 5 => .array .int
  | _ => .object "PassagePapers$Register"
abbrev wsX30 : List Cond := u_ws RX3 TX3 7
theorem nmX3 : ∀ a, a < 7 → ∀ b, b < 7 → a ≠ b → (TX3 a).2.1 ≠ (TX3 b).2.1 := by decide +kernel
theorem tyX3_ok : ∀ k, k < 7 → parseFieldDescriptor (TX3 k).2.2.1 = some (tyX3 k) := by decide +kernel
def RX4 : String := "PassagePapers$Placing"
def TX4 : u_T := fun k => match k with
  | 0 => ("PassagePapers$Placing", "scores", "[J", true)
  | 1 => ("PassagePapers$Placing", "unitOf", "[I", true)
  | 2 => ("PassagePapers$Placing", "sizes", "[I", true)
  | 3 => ("PassagePapers$Placing", "given", "[I", true)
  | 4 => ("PassagePapers$Placing", "rooms", "[I", true)
  | 5 => ("PassagePapers$Placing", "left", "[I", true)
  | 6 => ("PassagePapers$Placing", "weights", "[I", true)
  | 7 => ("PassagePapers$Placing", "units", "I", false)
  | 8 => ("PassagePapers$Placing", "takers", "I", false)
  | 9 => ("PassagePapers$Placing", "used", "I", false)
  | 10 => ("PassagePapers$Placing", "total", "I", false)
  | 11 => ("PassagePapers$Placing", "placed", "I", false)
  | _ => ("PassagePapers$Placing", "way", "I", false)
def tyX4 : Nat → FieldType := fun k => match k with
  | 0 => .array .long
  | 1 => .array .int
  | 2 => .array .int
  | 3 => .array .int
  | 4 => .array .int
  | 5 => .array .int
  | 6 => .array .int
  | 7 => .int
  | 8 => .int
  | 9 => .int
  | 10 => .int
  | 11 => .int
  | _ => .int
abbrev wsX40 : List Cond := u_ws RX4 TX4 13
theorem nmX4 : ∀ a, a < 13 → ∀ b, b < 13 → a ≠ b → (TX4 a).2.1 ≠ (TX4 b).2.1 := by decide +kernel
theorem tyX4_ok : ∀ k, k < 13 → parseFieldDescriptor (TX4 k).2.2.1 = some (tyX4 k) := by decide +kernel
def RX5 : String := "PassagePapers$Register"
def TX5 : u_T := fun k => match k with
  | 0 => ("PassagePapers$Register", "years", "[I", true)
  | 1 => ("PassagePapers$Register", "trades", "[I", true)
  | 2 => ("PassagePapers$Register", "kindred", "[I", true)
  | 3 => ("PassagePapers$Register", "coins", "[I", true)
  | 4 => ("PassagePapers$Register", "wanted", "[I", true)
  | 5 => ("PassagePapers$Register", "prices", "[I", true)
  | 6 => ("PassagePapers$Register", "rooms", "[I", true)
  | 7 => ("PassagePapers$Register", "signers", "I", false)
  | 8 => ("PassagePapers$Register", "takers", "I", false)
  | 9 => ("PassagePapers$Register", "stores", "I", false)
  | _ => ("PassagePapers$Register", "weeks", "I", false)
def tyX5 : Nat → FieldType := fun k => match k with
  | 0 => .array .int
  | 1 => .array .int
  | 2 => .array .int
  | 3 => .array .int
  | 4 => .array .int
  | 5 => .array .int
  | 6 => .array .int
  | 7 => .int
  | 8 => .int
  | 9 => .int
  | _ => .int
abbrev wsX50 : List Cond := u_ws RX5 TX5 11
theorem nmX5 : ∀ a, a < 11 → ∀ b, b < 11 → a ≠ b → (TX5 a).2.1 ≠ (TX5 b).2.1 := by decide +kernel
theorem tyX5_ok : ∀ k, k < 11 → parseFieldDescriptor (TX5 k).2.2.1 = some (tyX5 k) := by decide +kernel
def RX6 : String := "PassagePapers$State"
def TX6 : u_T := fun k => match k with
  | _ => ("PassagePapers$State", "row", "[I", true)
def tyX6 : Nat → FieldType := fun k => match k with
  | _ => .array .int
abbrev wsX60 : List Cond := u_ws RX6 TX6 1
theorem nmX6 : ∀ a, a < 1 → ∀ b, b < 1 → a ≠ b → (TX6 a).2.1 ≠ (TX6 b).2.1 := by decide +kernel
theorem tyX6_ok : ∀ k, k < 1 → parseFieldDescriptor (TX6 k).2.2.1 = some (tyX6 k) := by decide +kernel
def RX7 : String := "PassagePapers$Steps"
def TX7 : u_T := fun k => match k with
  | 0 => ("PassagePapers$Steps", "kinds", "[I", true)
  | 1 => ("PassagePapers$Steps", "signers", "[I", true)
  | 2 => ("PassagePapers$Steps", "numbers", "[I", true)
  | 3 => ("PassagePapers$Steps", "behind", "[I", true)
  | 4 => ("PassagePapers$Steps", "length", "I", false)
  | 5 => ("PassagePapers$Steps", "begun", "I", false)
  | 6 => ("PassagePapers$Steps", "done", "I", false)
  | _ => ("PassagePapers$Steps", "refused", "I", false)
def tyX7 : Nat → FieldType := fun k => match k with
  | 0 => .array .int
  | 1 => .array .int
  | 2 => .array .int
  | 3 => .array .int
  | 4 => .int
  | 5 => .int
  | 6 => .int
  | _ => .int
abbrev wsX70 : List Cond := u_ws RX7 TX7 8
theorem nmX7 : ∀ a, a < 8 → ∀ b, b < 8 → a ≠ b → (TX7 a).2.1 ≠ (TX7 b).2.1 := by decide +kernel
theorem tyX7_ok : ∀ k, k < 8 → parseFieldDescriptor (TX7 k).2.2.1 = some (tyX7 k) := by decide +kernel
def RX8 : String := "PassagePapers$Tape"
def TX8 : u_T := fun k => match k with
  | 0 => ("PassagePapers$Tape", "bytes", "[I", true)
  | 1 => ("PassagePapers$Tape", "length", "I", false)
  | 2 => ("PassagePapers$Tape", "limit", "I", false)
  | 3 => ("PassagePapers$Tape", "kind", "I", false)
  | 4 => ("PassagePapers$Tape", "start", "I", false)
  | 5 => ("PassagePapers$Tape", "stop", "I", false)
  | 6 => ("PassagePapers$Tape", "value", "I", false)
  | 7 => ("PassagePapers$Tape", "fault", "I", false)
  | _ => ("PassagePapers$Tape", "faultPlace", "I", false)
def tyX8 : Nat → FieldType := fun k => match k with
  | 0 => .array .int
  | 1 => .int
  | 2 => .int
  | 3 => .int
  | 4 => .int
  | 5 => .int
  | 6 => .int
  | 7 => .int
  | _ => .int
abbrev wsX80 : List Cond := u_ws RX8 TX8 9
theorem nmX8 : ∀ a, a < 9 → ∀ b, b < 9 → a ≠ b → (TX8 a).2.1 ≠ (TX8 b).2.1 := by decide +kernel
theorem tyX8_ok : ∀ k, k < 9 → parseFieldDescriptor (TX8 k).2.2.1 = some (tyX8 k) := by decide +kernel
def RX9 : String := "PassagePapers$Terms"
def TX9 : u_T := fun k => match k with
  | 0 => ("PassagePapers$Terms", "byAsks", "[I", true)
  | 1 => ("PassagePapers$Terms", "many", "I", false)
  | 2 => ("PassagePapers$Terms", "first", "I", false)
  | 3 => ("PassagePapers$Terms", "least", "I", false)
  | 4 => ("PassagePapers$Terms", "greatest", "I", false)
  | 5 => ("PassagePapers$Terms", "week", "I", false)
  | _ => ("PassagePapers$Terms", "leftAtWorst", "I", false)
def tyX9 : Nat → FieldType := fun k => match k with
  | 0 => .array .int
  | 1 => .int
  | 2 => .int
  | 3 => .int
  | 4 => .int
  | 5 => .int
  | _ => .int
abbrev wsX90 : List Cond := u_ws RX9 TX9 7
theorem nmX9 : ∀ a, a < 7 → ∀ b, b < 7 → a ≠ b → (TX9 a).2.1 ≠ (TX9 b).2.1 := by decide +kernel
theorem tyX9_ok : ∀ k, k < 7 → parseFieldDescriptor (TX9 k).2.2.1 = some (tyX9 k) := by decide +kernel
def RX10 : String := "PassagePapers$Voyage"
def TX10 : u_T := fun k => match k with
  | 0 => ("PassagePapers$Voyage", "hungry", "I", false)
  | 1 => ("PassagePapers$Voyage", "storesLeft", "I", false)
  | _ => ("PassagePapers$Voyage", "spoiled", "I", false)
def tyX10 : Nat → FieldType := fun k => match k with
  | 0 => .int
  | 1 => .int
  | _ => .int
abbrev wsX100 : List Cond := u_ws RX10 TX10 3
theorem nmX10 : ∀ a, a < 3 → ∀ b, b < 3 → a ≠ b → (TX10 a).2.1 ≠ (TX10 b).2.1 := by decide +kernel
theorem tyX10_ok : ∀ k, k < 3 → parseFieldDescriptor (TX10 k).2.2.1 = some (tyX10 k) := by decide +kernel
def RX11 : String := "PassagePapers"
def TX11 : u_T := fun k => match k with
  | 0 => ("PassagePapers", "tape", "LPassagePapers$Tape;", true)
  | 1 => ("PassagePapers", "ledger", "LPassagePapers$Ledger;", true)
  | 2 => ("PassagePapers", "archive", "LPassagePapers$Archive;", true)
  | 3 => ("PassagePapers", "lawDraft", "LPassagePapers$Law;", true)
  | 4 => ("PassagePapers", "steps", "LPassagePapers$Steps;", true)
  | 5 => ("PassagePapers", "found", "LPassagePapers$Terms;", true)
  | 6 => ("PassagePapers", "placing", "LPassagePapers$Placing;", true)
  | 7 => ("PassagePapers", "sailed", "LPassagePapers$Voyage;", true)
  | 8 => ("PassagePapers", "registerDraft", "LPassagePapers$Register;", false)
  | 9 => ("PassagePapers", "said", "LPassagePapers$Book;", false)
  | 10 => ("PassagePapers", "bookDraft", "LPassagePapers$Book;", false)
  | 11 => ("PassagePapers", "refusedSteps", "I", false)
  | 12 => ("PassagePapers", "noSuchCalls", "I", false)
  | _ => ("PassagePapers", "illegalCalls", "I", false)
def tyX11 : Nat → FieldType := fun k => match k with
  | 0 => .object "PassagePapers$Tape"
  | 1 => .object "PassagePapers$Ledger"
  | 2 => .object "PassagePapers$Archive"
  | 3 => .object "PassagePapers$Law"
  | 4 => .object "PassagePapers$Steps"
  | 5 => .object "PassagePapers$Terms"
  | 6 => .object "PassagePapers$Placing"
  | 7 => .object "PassagePapers$Voyage"
  | 8 => .object "PassagePapers$Register"
  | 9 => .object "PassagePapers$Book"
  | 10 => .object "PassagePapers$Book"
  | 11 => .int
  | 12 => .int
  | _ => .int
abbrev wsX110 : List Cond := u_ws RX11 TX11 14
theorem nmX11 : ∀ a, a < 14 → ∀ b, b < 14 → a ≠ b → (TX11 a).2.1 ≠ (TX11 b).2.1 := by decide +kernel
theorem tyX11_ok : ∀ k, k < 14 → parseFieldDescriptor (TX11 k).2.2.1 = some (tyX11 k) := by decide +kernel
def RX12 : String := "PassagePapersModel"
def TX12 : u_T := fun k => match k with
  | 0 => ("PassagePapersModel", "thrown", "I", false)
  | 1 => ("PassagePapersModel", "refused", "[I", true)
  | 2 => ("PassagePapersModel", "taped", "I", false)
  | 3 => ("PassagePapersModel", "size", "I", false)
  | 4 => ("PassagePapersModel", "at", "I", false)
  | 5 => ("PassagePapersModel", "bad", "I", false)
  | 6 => ("PassagePapersModel", "badKind", "I", false)
  | 7 => ("PassagePapersModel", "opens", "I", false)
  | 8 => ("PassagePapersModel", "faultAt", "I", false)
  | 9 => ("PassagePapersModel", "tape", "[I", true)
  | 10 => ("PassagePapersModel", "newSigner", "[I", true)
  | 11 => ("PassagePapersModel", "newTaker", "[I", true)
  | 12 => ("PassagePapersModel", "signer", "[I", true)
  | 13 => ("PassagePapersModel", "taker", "[I", true)
  | 14 => ("PassagePapersModel", "newSigners", "I", false)
  | 15 => ("PassagePapersModel", "newTakers", "I", false)
  | 16 => ("PassagePapersModel", "newStores", "I", false)
  | 17 => ("PassagePapersModel", "newVoyage", "I", false)
  | 18 => ("PassagePapersModel", "signers", "I", false)
  | 19 => ("PassagePapersModel", "takers", "I", false)
  | 20 => ("PassagePapersModel", "voyage", "I", false)
  | 21 => ("PassagePapersModel", "newCode", "[I", true)
  | 22 => ("PassagePapersModel", "newOf", "[I", true)
  | 23 => ("PassagePapersModel", "code", "[I", true)
  | 24 => ("PassagePapersModel", "ofCode", "[I", true)
  | 25 => ("PassagePapersModel", "codes", "[I", true)
  | 26 => ("PassagePapersModel", "stack", "[I", true)
  | 27 => ("PassagePapersModel", "newCodes", "I", false)
  | 28 => ("PassagePapersModel", "facts", "[I", true)
  | 29 => ("PassagePapersModel", "newStep", "[I", true)
  | 30 => ("PassagePapersModel", "step", "[I", true)
  | 31 => ("PassagePapersModel", "newSteps", "I", false)
  | 32 => ("PassagePapersModel", "works", "I", false)
  | 33 => ("PassagePapersModel", "refusedSteps", "I", false)
  | 34 => ("PassagePapersModel", "begun", "I", false)
  | 35 => ("PassagePapersModel", "done", "I", false)
  | 36 => ("PassagePapersModel", "refusedNow", "I", false)
  | 37 => ("PassagePapersModel", "now", "[I", true)
  | 38 => ("PassagePapersModel", "s", "[I", true)
  | 39 => ("PassagePapersModel", "past", "[I", true)
  | 40 => ("PassagePapersModel", "ruling", "I", false)
  | 41 => ("PassagePapersModel", "hungers", "I", false)
  | 42 => ("PassagePapersModel", "servedNow", "I", false)
  | 43 => ("PassagePapersModel", "newBook", "[I", true)
  | 44 => ("PassagePapersModel", "book", "[I", true)
  | 45 => ("PassagePapersModel", "books", "I", false)
  | 46 => ("PassagePapersModel", "giving", "[I", true)
  | 47 => ("PassagePapersModel", "room", "[I", true)
  | 48 => ("PassagePapersModel", "way", "[I", true)
  | 49 => ("PassagePapersModel", "bestWay", "[I", true)
  | 50 => ("PassagePapersModel", "bestGives", "I", false)
  | 51 => ("PassagePapersModel", "isTerm", "[Z", true)
  | 52 => ("PassagePapersModel", "asksTerm", "[I", true)
  | 53 => ("PassagePapersModel", "saidBy", "[I", true)
  | 54 => ("PassagePapersModel", "fields", "[I", true)
  | 55 => ("PassagePapersModel", "seedNow", "I", false)
  | 56 => ("PassagePapersModel", "spoils", "I", false)
  | 57 => ("PassagePapersModel", "image", "[I", true)
  | _ => ("PassagePapersModel", "images", "I", false)
def tyX12 : Nat → FieldType := fun k => match k with
  | 0 => .int
  | 1 => .array .int
  | 2 => .int
  | 3 => .int
  | 4 => .int
  | 5 => .int
  | 6 => .int
  | 7 => .int
  | 8 => .int
  | 9 => .array .int
  | 10 => .array .int
  | 11 => .array .int
  | 12 => .array .int
  | 13 => .array .int
  | 14 => .int
  | 15 => .int
  | 16 => .int
  | 17 => .int
  | 18 => .int
  | 19 => .int
  | 20 => .int
  | 21 => .array .int
  | 22 => .array .int
  | 23 => .array .int
  | 24 => .array .int
  | 25 => .array .int
  | 26 => .array .int
  | 27 => .int
  | 28 => .array .int
  | 29 => .array .int
  | 30 => .array .int
  | 31 => .int
  | 32 => .int
  | 33 => .int
  | 34 => .int
  | 35 => .int
  | 36 => .int
  | 37 => .array .int
  | 38 => .array .int
  | 39 => .array .int
  | 40 => .int
  | 41 => .int
  | 42 => .int
  | 43 => .array .int
  | 44 => .array .int
  | 45 => .int
  | 46 => .array .int
  | 47 => .array .int
  | 48 => .array .int
  | 49 => .array .int
  | 50 => .int
  | 51 => .array .boolean
  | 52 => .array .int
  | 53 => .array .int
  | 54 => .array .int
  | 55 => .int
  | 56 => .int
  | 57 => .array .int
  | _ => .int
abbrev wsX120 : List Cond := u_ws RX12 TX12 59
theorem nmX12 : ∀ a, a < 59 → ∀ b, b < 59 → a ≠ b → (TX12 a).2.1 ≠ (TX12 b).2.1 := by decide +kernel
theorem tyX12_ok : ∀ k, k < 59 → parseFieldDescriptor (TX12 k).2.2.1 = some (tyX12 k) := by decide +kernel
abbrev vwCl : List vw_C := [(RX0, TX0, 5), (RX1, TX1, 3), (RX2, TX2, 3), (RX3, TX3, 7), (RX4, TX4, 13), (RX5, TX5, 11), (RX6, TX6, 1), (RX7, TX7, 8), (RX8, TX8, 9), (RX9, TX9, 7), (RX10, TX10, 3), (RX11, TX11, 14), (RX12, TX12, 59)]
def pm_cn : List String := ["PassagePapers$Archive", "PassagePapers$Book", "PassagePapers$Law", "PassagePapers$Ledger", "PassagePapers$Placing", "PassagePapers$Register", "PassagePapers$State", "PassagePapers$Steps", "PassagePapers$Tape", "PassagePapers$Terms", "PassagePapers$Voyage", "PassagePapers", "PassagePapersModel", "PassagePapersLaw", "java/lang/Math", "java/lang/Integer", "java/lang/String", "java/lang/StringLatin1", "jdk/internal/util/Preconditions"]
def pm_prog_0 : List (Nat × MethodName × ByteArray × Nat × Option FieldType × List (Nat × Nat × Nat × Nat)) := [
  (0, ⟨"PassagePapers$Archive", "<init>", "()V"⟩, prog_2_method_1_code, 1, none, []),
  (0, ⟨"PassagePapers$Archive", "works", "()I"⟩, prog_2_method_2_code, 1, (some .int), []),
  (0, ⟨"PassagePapers$Archive", "takeBackWork", "(LPassagePapers$State;)V"⟩, prog_2_method_6_code, 2, none, []),
  (0, ⟨"PassagePapers$Archive", "images", "()I"⟩, prog_2_method_3_code, 1, (some .int), []),
  (0, ⟨"PassagePapers$Archive", "keepImage", "(LPassagePapers$State;)V"⟩, prog_2_method_7_code, 4, none, []),
  (0, ⟨"PassagePapers$Archive", "bringBackImage", "(LPassagePapers$State;)V"⟩, prog_2_method_8_code, 4, none, []),
  (0, ⟨"PassagePapers$Archive", "clear", "()V"⟩, prog_2_method_4_code, 1, none, []),
  (0, ⟨"PassagePapers$Archive", "keepWork", "(LPassagePapers$State;)V"⟩, prog_2_method_5_code, 2, none, []),
  (1, ⟨"PassagePapers$Book", "<init>", "()V"⟩, prog_3_method_1_code, 1, none, []),
  (1, ⟨"PassagePapers$Book", "clear", "()V"⟩, prog_3_method_3_code, 1, none, []),
  (1, ⟨"PassagePapers$Book", "read", "(LPassagePapers$Tape;)V"⟩, prog_3_method_4_code, 3, none, []),
  (1, ⟨"PassagePapers$Book", "readLine", "(LPassagePapers$Tape;)V"⟩, prog_3_method_5_code, 2, none, []),
  (1, ⟨"PassagePapers$Book", "hasLine", "(I)Z"⟩, prog_3_method_6_code, 3, (some .boolean), []),
  (1, ⟨"PassagePapers$Book", "lines", "()I"⟩, prog_3_method_2_code, 1, (some .int), []),
  (1, ⟨"PassagePapers$Book", "isRightFor", "(I)Z"⟩, prog_3_method_7_code, 3, (some .boolean), []),
  (2, ⟨"PassagePapers$Law", "<init>", "()V"⟩, prog_4_method_1_code, 1, none, []),
  (2, ⟨"PassagePapers$Law", "setPlain", "()V"⟩, prog_4_method_2_code, 1, none, []),
  (2, ⟨"PassagePapers$Law", "emit", "(I)V"⟩, prog_4_method_7_code, 2, none, []),
  (2, ⟨"PassagePapers$Law", "asksFor", "([I)I"⟩, prog_4_method_4_code, 5, (some .int), []),
  (2, ⟨"PassagePapers$Law", "joined", "(III)I"⟩, prog_4_method_5_code, 3, (some .int), [])]
def pm_prog_1 : List (Nat × MethodName × ByteArray × Nat × Option FieldType × List (Nat × Nat × Nat × Nat)) := [
  (2, ⟨"PassagePapers$Law", "read", "(LPassagePapers$Tape;)V"⟩, prog_4_method_6_code, 2, none, []),
  (2, ⟨"PassagePapers$Law", "readSum", "(LPassagePapers$Tape;I)V"⟩, prog_4_method_8_code, 5, none, []),
  (2, ⟨"PassagePapers$Law", "readProduct", "(LPassagePapers$Tape;I)V"⟩, prog_4_method_9_code, 5, none, []),
  (2, ⟨"PassagePapers$Law", "readUnit", "(LPassagePapers$Tape;I)V"⟩, prog_4_method_10_code, 5, none, []),
  (2, ⟨"PassagePapers$Law", "pairOf", "(LPassagePapers$Tape;)I"⟩, prog_4_method_11_code, 1, (some .int), []),
  (2, ⟨"PassagePapers$Law", "nameOf", "(LPassagePapers$Tape;)I"⟩, prog_4_method_12_code, 1, (some .int), []),
  (2, ⟨"PassagePapers$Law", "takeFrom", "(LPassagePapers$Law;)V"⟩, prog_4_method_3_code, 2, none, []),
  (3, ⟨"PassagePapers$Ledger", "<init>", "()V"⟩, prog_5_method_1_code, 1, none, []),
  (3, ⟨"PassagePapers$Ledger", "state", "()LPassagePapers$State;"⟩, prog_5_method_4_code, 1, (some (.object "PassagePapers$State")), []),
  (3, ⟨"PassagePapers$Ledger", "heldBits", "()I"⟩, prog_5_method_15_code, 3, (some .int), []),
  (3, ⟨"PassagePapers$Ledger", "isAt", "(II)Z"⟩, prog_5_method_6_code, 3, (some .boolean), []),
  (3, ⟨"PassagePapers$Ledger", "asksNow", "(II)I"⟩, prog_5_method_11_code, 3, (some .int), []),
  (3, ⟨"PassagePapers$Ledger", "writePaper", "(I)V"⟩, prog_5_method_10_code, 3, none, []),
  (3, ⟨"PassagePapers$Ledger", "lawOf", "(I)LPassagePapers$Law;"⟩, prog_5_method_5_code, 2, (some (.object "PassagePapers$Law")), []),
  (3, ⟨"PassagePapers$Ledger", "partedPairs", "()I"⟩, prog_5_method_20_code, 4, (some .int), []),
  (3, ⟨"PassagePapers$Ledger", "areParted", "(II)Z"⟩, prog_5_method_21_code, 3, (some .boolean), []),
  (3, ⟨"PassagePapers$Ledger", "countOf", "(I)I"⟩, prog_5_method_7_code, 4, (some .int), []),
  (3, ⟨"PassagePapers$Ledger", "current", "()LPassagePapers$Register;"⟩, prog_5_method_3_code, 1, (some (.object "PassagePapers$Register")), []),
  (3, ⟨"PassagePapers$Ledger", "open", "(LPassagePapers$Register;)V"⟩, prog_5_method_2_code, 2, none, []),
  (3, ⟨"PassagePapers$Ledger", "perform", "(III)Z"⟩, prog_5_method_26_code, 4, (some .boolean), [])]
def pm_prog_2 : List (Nat × MethodName × ByteArray × Nat × Option FieldType × List (Nat × Nat × Nat × Nat)) := [
  (3, ⟨"PassagePapers$Ledger", "landAll", "()Z"⟩, prog_5_method_27_code, 2, (some .boolean), []),
  (3, ⟨"PassagePapers$Ledger", "bind", "(II)Z"⟩, prog_5_method_28_code, 3, (some .boolean), []),
  (3, ⟨"PassagePapers$Ledger", "boundTo", "(I)I"⟩, prog_5_method_8_code, 4, (some .int), []),
  (3, ⟨"PassagePapers$Ledger", "addMonths", "(II)Z"⟩, prog_5_method_29_code, 4, (some .boolean), []),
  (3, ⟨"PassagePapers$Ledger", "strikeMonths", "(I)Z"⟩, prog_5_method_30_code, 2, (some .boolean), []),
  (3, ⟨"PassagePapers$Ledger", "setLost", "(II)Z"⟩, prog_5_method_31_code, 3, (some .boolean), []),
  (3, ⟨"PassagePapers$Ledger", "payFor", "(I)Z"⟩, prog_5_method_32_code, 3, (some .boolean), []),
  (3, ⟨"PassagePapers$Ledger", "owesNow", "(I)I"⟩, prog_5_method_14_code, 2, (some .int), []),
  (3, ⟨"PassagePapers$Ledger", "payable", "(II)Z"⟩, prog_5_method_23_code, 3, (some .boolean), []),
  (3, ⟨"PassagePapers$Ledger", "release", "(I)V"⟩, prog_5_method_35_code, 2, none, []),
  (3, ⟨"PassagePapers$Ledger", "passWeek", "()Z"⟩, prog_5_method_33_code, 2, (some .boolean), []),
  (3, ⟨"PassagePapers$Ledger", "eat", "(I)V"⟩, prog_5_method_34_code, 2, none, []),
  (3, ⟨"PassagePapers$Ledger", "asksOfNobody", "(IIIIII)I"⟩, prog_5_method_13_code, 7, (some .int), []),
  (3, ⟨"PassagePapers$Ledger", "weeksUntilFree", "(III)I"⟩, prog_5_method_16_code, 7, (some .int), []),
  (3, ⟨"PassagePapers$Ledger", "freeAfter", "(I)I"⟩, prog_5_method_17_code, 4, (some .int), []),
  (3, ⟨"PassagePapers$Ledger", "serviceWithin", "(I)I"⟩, prog_5_method_18_code, 5, (some .int), []),
  (3, ⟨"PassagePapers$Ledger", "givenFor", "(III)I"⟩, prog_5_method_19_code, 5, (some .int), []),
  (3, ⟨"PassagePapers$Ledger", "roomLeft", "(I)I"⟩, prog_5_method_9_code, 2, (some .int), []),
  (3, ⟨"PassagePapers$Ledger", "fareNow", "(I)I"⟩, prog_5_method_22_code, 2, (some .int), []),
  (3, ⟨"PassagePapers$Ledger", "asksHad", "(II)I"⟩, prog_5_method_12_code, 3, (some .int), [])]
def pm_prog_3 : List (Nat × MethodName × ByteArray × Nat × Option FieldType × List (Nat × Nat × Nat × Nat)) := [
  (3, ⟨"PassagePapers$Ledger", "fieldsOf", "(II)I"⟩, prog_5_method_24_code, 5, (some .int), []),
  (3, ⟨"PassagePapers$Ledger", "nextForField", "()I"⟩, prog_5_method_25_code, 3, (some .int), []),
  (4, ⟨"PassagePapers$Placing", "<init>", "()V"⟩, prog_6_method_1_code, 1, none, []),
  (4, ⟨"PassagePapers$Placing", "find", "(LPassagePapers$Ledger;)V"⟩, prog_6_method_5_code, 5, none, []),
  (4, ⟨"PassagePapers$Placing", "gatherUnits", "(LPassagePapers$Ledger;)V"⟩, prog_6_method_6_code, 3, none, []),
  (4, ⟨"PassagePapers$Placing", "join", "(LPassagePapers$Ledger;I)V"⟩, prog_6_method_7_code, 7, none, []),
  (4, ⟨"PassagePapers$Placing", "unitOfKin", "(LPassagePapers$Register;I)I"⟩, prog_6_method_8_code, 4, (some .int), []),
  (4, ⟨"PassagePapers$Placing", "gatherRooms", "(LPassagePapers$Ledger;)I"⟩, prog_6_method_9_code, 5, (some .int), []),
  (4, ⟨"PassagePapers$Placing", "bringIn", "(III)V"⟩, prog_6_method_10_code, 5, none, []),
  (4, ⟨"PassagePapers$Placing", "bestScore", "(II)J"⟩, prog_6_method_11_code, 13, (some .long), []),
  (4, ⟨"PassagePapers$Placing", "scoreAt", "(I)J"⟩, prog_6_method_12_code, 2, (some .long), []),
  (4, ⟨"PassagePapers$Placing", "shiftOf", "(I)I"⟩, prog_6_method_16_code, 1, (some .int), []),
  (4, ⟨"PassagePapers$Placing", "takeOneRoom", "()V"⟩, prog_6_method_13_code, 3, none, []),
  (4, ⟨"PassagePapers$Placing", "readWay", "(J)V"⟩, prog_6_method_14_code, 4, none, []),
  (4, ⟨"PassagePapers$Placing", "choiceOf", "(I)I"⟩, prog_6_method_15_code, 2, (some .int), []),
  (4, ⟨"PassagePapers$Placing", "total", "()I"⟩, prog_6_method_2_code, 1, (some .int), []),
  (4, ⟨"PassagePapers$Placing", "placed", "()I"⟩, prog_6_method_3_code, 1, (some .int), []),
  (4, ⟨"PassagePapers$Placing", "takerFor", "(I)I"⟩, prog_6_method_4_code, 2, (some .int), []),
  (5, ⟨"PassagePapers$Register", "<init>", "()V"⟩, prog_7_method_1_code, 1, none, []),
  (5, ⟨"PassagePapers$Register", "coinsFor", "(I)I"⟩, prog_7_method_11_code, 2, (some .int), [])]
def pm_prog_4 : List (Nat × MethodName × ByteArray × Nat × Option FieldType × List (Nat × Nat × Nat × Nat)) := [
  (5, ⟨"PassagePapers$Register", "storesTold", "()I"⟩, prog_7_method_4_code, 1, (some .int), []),
  (5, ⟨"PassagePapers$Register", "signers", "()I"⟩, prog_7_method_2_code, 1, (some .int), []),
  (5, ⟨"PassagePapers$Register", "yearsOf", "(I)I"⟩, prog_7_method_8_code, 2, (some .int), []),
  (5, ⟨"PassagePapers$Register", "tradeOf", "(I)I"⟩, prog_7_method_9_code, 2, (some .int), []),
  (5, ⟨"PassagePapers$Register", "kinBits", "(I)I"⟩, prog_7_method_15_code, 5, (some .int), []),
  (5, ⟨"PassagePapers$Register", "areKin", "(II)Z"⟩, prog_7_method_16_code, 3, (some .boolean), []),
  (5, ⟨"PassagePapers$Register", "read", "(LPassagePapers$Tape;)V"⟩, prog_7_method_17_code, 3, none, []),
  (5, ⟨"PassagePapers$Register", "readClause", "(LPassagePapers$Tape;Z)V"⟩, prog_7_method_18_code, 4, none, []),
  (5, ⟨"PassagePapers$Register", "clauseOf", "(LPassagePapers$Tape;)I"⟩, prog_7_method_19_code, 1, (some .int), []),
  (5, ⟨"PassagePapers$Register", "readSigner", "(LPassagePapers$Tape;)V"⟩, prog_7_method_20_code, 2, none, []),
  (5, ⟨"PassagePapers$Register", "readTaker", "(LPassagePapers$Tape;)V"⟩, prog_7_method_21_code, 2, none, []),
  (5, ⟨"PassagePapers$Register", "readKinsman", "(LPassagePapers$Tape;)V"⟩, prog_7_method_22_code, 3, none, []),
  (5, ⟨"PassagePapers$Register", "takers", "()I"⟩, prog_7_method_3_code, 1, (some .int), []),
  (5, ⟨"PassagePapers$Register", "weeksOfVoyage", "()I"⟩, prog_7_method_5_code, 1, (some .int), []),
  (5, ⟨"PassagePapers$Register", "roomOf", "(I)I"⟩, prog_7_method_14_code, 2, (some .int), []),
  (5, ⟨"PassagePapers$Register", "isSigner", "(I)Z"⟩, prog_7_method_6_code, 2, (some .boolean), []),
  (5, ⟨"PassagePapers$Register", "kindredOf", "(I)I"⟩, prog_7_method_10_code, 2, (some .int), []),
  (5, ⟨"PassagePapers$Register", "isTaker", "(I)Z"⟩, prog_7_method_7_code, 2, (some .boolean), []),
  (5, ⟨"PassagePapers$Register", "wantedBy", "(I)I"⟩, prog_7_method_12_code, 2, (some .int), []),
  (5, ⟨"PassagePapers$Register", "priceOf", "(I)I"⟩, prog_7_method_13_code, 2, (some .int), [])]
def pm_prog_5 : List (Nat × MethodName × ByteArray × Nat × Option FieldType × List (Nat × Nat × Nat × Nat)) := [
  (6, ⟨"PassagePapers$State", "<init>", "()V"⟩, prog_8_method_1_code, 1, none, []),
  (6, ⟨"PassagePapers$State", "start", "(LPassagePapers$Register;)V"⟩, prog_8_method_2_code, 4, none, []),
  (6, ⟨"PassagePapers$State", "set", "(III)V"⟩, prog_8_method_4_code, 4, none, []),
  (6, ⟨"PassagePapers$State", "setWeek", "(I)V"⟩, prog_8_method_6_code, 2, none, []),
  (6, ⟨"PassagePapers$State", "setStores", "(I)V"⟩, prog_8_method_8_code, 2, none, []),
  (6, ⟨"PassagePapers$State", "loadFrom", "([I)V"⟩, prog_8_method_10_code, 2, none, []),
  (6, ⟨"PassagePapers$State", "get", "(II)I"⟩, prog_8_method_3_code, 4, (some .int), []),
  (6, ⟨"PassagePapers$State", "week", "()I"⟩, prog_8_method_5_code, 1, (some .int), []),
  (6, ⟨"PassagePapers$State", "stores", "()I"⟩, prog_8_method_7_code, 1, (some .int), []),
  (6, ⟨"PassagePapers$State", "saveTo", "([I)V"⟩, prog_8_method_9_code, 2, none, []),
  (7, ⟨"PassagePapers$Steps", "<init>", "()V"⟩, prog_9_method_1_code, 1, none, []),
  (7, ⟨"PassagePapers$Steps", "read", "(LPassagePapers$Tape;LPassagePapers$Register;)V"⟩, prog_9_method_5_code, 4, none, []),
  (7, ⟨"PassagePapers$Steps", "readStep", "(LPassagePapers$Tape;LPassagePapers$Register;I)V"⟩, prog_9_method_6_code, 6, none, []),
  (7, ⟨"PassagePapers$Steps", "kindOf", "(LPassagePapers$Tape;)I"⟩, prog_9_method_9_code, 1, (some .int), []),
  (7, ⟨"PassagePapers$Steps", "readHeld", "(LPassagePapers$Tape;LPassagePapers$Register;I)V"⟩, prog_9_method_7_code, 5, none, []),
  (7, ⟨"PassagePapers$Steps", "readNumbers", "(LPassagePapers$Tape;LPassagePapers$Register;I)V"⟩, prog_9_method_8_code, 5, none, []),
  (7, ⟨"PassagePapers$Steps", "begin", "()V"⟩, prog_9_method_10_code, 1, none, []),
  (7, ⟨"PassagePapers$Steps", "length", "()I"⟩, prog_9_method_2_code, 1, (some .int), []),
  (7, ⟨"PassagePapers$Steps", "runPart", "(LPassagePapers$Ledger;III)V"⟩, prog_9_method_11_code, 6, none, []),
  (7, ⟨"PassagePapers$Steps", "runAgain", "(LPassagePapers$Ledger;II)V"⟩, prog_9_method_12_code, 5, none, [])]
def pm_prog_6 : List (Nat × MethodName × ByteArray × Nat × Option FieldType × List (Nat × Nat × Nat × Nat)) := [
  (7, ⟨"PassagePapers$Steps", "refused", "()I"⟩, prog_9_method_4_code, 1, (some .int), []),
  (7, ⟨"PassagePapers$Steps", "done", "()I"⟩, prog_9_method_3_code, 1, (some .int), []),
  (8, ⟨"PassagePapers$Tape", "<init>", "()V"⟩, prog_10_method_1_code, 1, none, []),
  (8, ⟨"PassagePapers$Tape", "length", "()I"⟩, prog_10_method_2_code, 1, (some .int), []),
  (8, ⟨"PassagePapers$Tape", "add", "(I)V"⟩, prog_10_method_3_code, 3, none, []),
  (8, ⟨"PassagePapers$Tape", "faultPlace", "()I"⟩, prog_10_method_9_code, 1, (some .int), []),
  (8, ⟨"PassagePapers$Tape", "begin", "(I)V"⟩, prog_10_method_5_code, 2, none, []),
  (8, ⟨"PassagePapers$Tape", "forgetFault", "()V"⟩, prog_10_method_6_code, 1, none, []),
  (8, ⟨"PassagePapers$Tape", "step", "()V"⟩, prog_10_method_11_code, 3, none, []),
  (8, ⟨"PassagePapers$Tape", "byteAt", "(I)I"⟩, prog_10_method_20_code, 2, (some .int), []),
  (8, ⟨"PassagePapers$Tape", "kindAt", "(I)I"⟩, prog_10_method_12_code, 3, (some .int), []),
  (8, ⟨"PassagePapers$Tape", "hasMore", "()Z"⟩, prog_10_method_13_code, 1, (some .boolean), []),
  (8, ⟨"PassagePapers$Tape", "isWord", "(Ljava/lang/String;)Z"⟩, prog_10_method_17_code, 3, (some .boolean), []),
  (8, ⟨"PassagePapers$Tape", "blame", "(I)V"⟩, prog_10_method_10_code, 2, none, []),
  (8, ⟨"PassagePapers$Tape", "number", "(II)I"⟩, prog_10_method_19_code, 4, (some .int), []),
  (8, ⟨"PassagePapers$Tape", "pass", "(C)V"⟩, prog_10_method_18_code, 2, none, []),
  (8, ⟨"PassagePapers$Tape", "isSign", "(C)Z"⟩, prog_10_method_16_code, 2, (some .boolean), []),
  (8, ⟨"PassagePapers$Tape", "clear", "()V"⟩, prog_10_method_4_code, 1, none, []),
  (8, ⟨"PassagePapers$Tape", "isFaulty", "()Z"⟩, prog_10_method_7_code, 1, (some .boolean), []),
  (8, ⟨"PassagePapers$Tape", "faultAnswer", "()I"⟩, prog_10_method_8_code, 1, (some .int), [])]
def pm_prog_7 : List (Nat × MethodName × ByteArray × Nat × Option FieldType × List (Nat × Nat × Nat × Nat)) := [
  (8, ⟨"PassagePapers$Tape", "isNumber", "()Z"⟩, prog_10_method_14_code, 1, (some .boolean), []),
  (8, ⟨"PassagePapers$Tape", "value", "()I"⟩, prog_10_method_15_code, 1, (some .int), []),
  (9, ⟨"PassagePapers$Terms", "<init>", "()V"⟩, prog_11_method_1_code, 1, none, []),
  (9, ⟨"PassagePapers$Terms", "find", "(LPassagePapers$Ledger;LPassagePapers$Book;I)V"⟩, prog_11_method_8_code, 7, none, []),
  (9, ⟨"PassagePapers$Terms", "clear", "()V"⟩, prog_11_method_9_code, 2, none, []),
  (9, ⟨"PassagePapers$Terms", "note", "(II)V"⟩, prog_11_method_10_code, 3, none, []),
  (9, ⟨"PassagePapers$Terms", "many", "()I"⟩, prog_11_method_2_code, 1, (some .int), []),
  (9, ⟨"PassagePapers$Terms", "first", "()I"⟩, prog_11_method_3_code, 1, (some .int), []),
  (9, ⟨"PassagePapers$Terms", "least", "()I"⟩, prog_11_method_4_code, 1, (some .int), []),
  (9, ⟨"PassagePapers$Terms", "greatest", "()I"⟩, prog_11_method_5_code, 1, (some .int), []),
  (9, ⟨"PassagePapers$Terms", "chooseWeek", "(LPassagePapers$Book;)V"⟩, prog_11_method_11_code, 6, none, []),
  (9, ⟨"PassagePapers$Terms", "week", "()I"⟩, prog_11_method_6_code, 1, (some .int), []),
  (9, ⟨"PassagePapers$Terms", "leftAtWorst", "()I"⟩, prog_11_method_7_code, 1, (some .int), []),
  (10, ⟨"PassagePapers$Voyage", "<init>", "()V"⟩, prog_12_method_1_code, 1, none, []),
  (10, ⟨"PassagePapers$Voyage", "sail", "(LPassagePapers$Ledger;IIII)V"⟩, prog_12_method_5_code, 9, none, []),
  (10, ⟨"PassagePapers$Voyage", "hungry", "()I"⟩, prog_12_method_2_code, 1, (some .int), []),
  (10, ⟨"PassagePapers$Voyage", "storesLeft", "()I"⟩, prog_12_method_3_code, 1, (some .int), []),
  (10, ⟨"PassagePapers$Voyage", "spoiled", "()I"⟩, prog_12_method_4_code, 1, (some .int), []),
  (11, ⟨"PassagePapers", "<init>", "()V"⟩, prog_1_method_1_code, 1, none, []),
  (11, ⟨"PassagePapers", "put", "([III)V"⟩, prog_1_method_55_code, 3, none, [])]
def pm_prog_8 : List (Nat × MethodName × ByteArray × Nat × Option FieldType × List (Nat × Nat × Nat × Nat)) := [
  (11, ⟨"PassagePapers", "at", "([II)I"⟩, prog_1_method_54_code, 2, (some .int), []),
  (11, ⟨"PassagePapers", "feed", "(IIIII)I"⟩, prog_1_method_2_code, 6, (some .int), []),
  (11, ⟨"PassagePapers", "fault", "()I"⟩, prog_1_method_7_code, 1, (some .int), []),
  (11, ⟨"PassagePapers", "undo", "()I"⟩, prog_1_method_8_code, 1, (some .int), []),
  (11, ⟨"PassagePapers", "copyRow", "([I[I)V"⟩, prog_1_method_56_code, 2, none, []),
  (11, ⟨"PassagePapers", "held", "()I"⟩, prog_1_method_15_code, 1, (some .int), []),
  (11, ⟨"PassagePapers", "parted", "()I"⟩, prog_1_method_22_code, 1, (some .int), []),
  (11, ⟨"PassagePapers", "hunger", "()I"⟩, prog_1_method_28_code, 3, (some .int), []),
  (11, ⟨"PassagePapers", "image", "()I"⟩, prog_1_method_39_code, 1, (some .int), []),
  (11, ⟨"PassagePapers", "restore", "()I"⟩, prog_1_method_40_code, 1, (some .int), []),
  (11, ⟨"PassagePapers", "status", "(I)I"⟩, prog_1_method_41_code, 2, (some .int), []),
  (11, ⟨"PassagePapers", "count", "(I)I"⟩, prog_1_method_42_code, 2, (some .int), []),
  (11, ⟨"PassagePapers", "register", "(I)I"⟩, prog_1_method_3_code, 3, (some .int), []),
  (11, ⟨"PassagePapers", "needText", "(II)V"⟩, prog_1_method_44_code, 3, none, []),
  (11, ⟨"PassagePapers", "need", "(Z)V"⟩, prog_1_method_43_code, 2, none, []),
  (11, ⟨"PassagePapers", "law", "(II)I"⟩, prog_1_method_4_code, 3, (some .int), []),
  (11, ⟨"PassagePapers", "work", "(I)I"⟩, prog_1_method_5_code, 2, (some .int), []),
  (11, ⟨"PassagePapers", "book", "(I)I"⟩, prog_1_method_6_code, 3, (some .int), []),
  (11, ⟨"PassagePapers", "told", "(I)I"⟩, prog_1_method_9_code, 2, (some .int), []),
  (11, ⟨"PassagePapers", "signer", "(II)I"⟩, prog_1_method_10_code, 3, (some .int), [])]
def pm_prog_9 : List (Nat × MethodName × ByteArray × Nat × Option FieldType × List (Nat × Nat × Nat × Nat)) := [
  (11, ⟨"PassagePapers", "needSigner", "(I)V"⟩, prog_1_method_45_code, 2, none, []),
  (11, ⟨"PassagePapers", "taker", "(II)I"⟩, prog_1_method_11_code, 3, (some .int), []),
  (11, ⟨"PassagePapers", "needTaker", "(I)V"⟩, prog_1_method_46_code, 2, none, []),
  (11, ⟨"PassagePapers", "asks", "(II)I"⟩, prog_1_method_12_code, 3, (some .int), []),
  (11, ⟨"PassagePapers", "owes", "(I)I"⟩, prog_1_method_13_code, 2, (some .int), []),
  (11, ⟨"PassagePapers", "would", "(IIIIII)I"⟩, prog_1_method_14_code, 7, (some .int), []),
  (11, ⟨"PassagePapers", "freeIn", "(I)I"⟩, prog_1_method_16_code, 2, (some .int), []),
  (11, ⟨"PassagePapers", "otherwise", "(I)I"⟩, prog_1_method_17_code, 2, (some .int), []),
  (11, ⟨"PassagePapers", "ahead", "(II)I"⟩, prog_1_method_18_code, 3, (some .int), []),
  (11, ⟨"PassagePapers", "gives", "(II)I"⟩, prog_1_method_19_code, 3, (some .int), []),
  (11, ⟨"PassagePapers", "best", "(I)I"⟩, prog_1_method_20_code, 2, (some .int), []),
  (11, ⟨"PassagePapers", "bestFor", "(I)I"⟩, prog_1_method_21_code, 2, (some .int), []),
  (11, ⟨"PassagePapers", "kin", "(I)I"⟩, prog_1_method_23_code, 2, (some .int), []),
  (11, ⟨"PassagePapers", "fare", "(I)I"⟩, prog_1_method_24_code, 2, (some .int), []),
  (11, ⟨"PassagePapers", "canPay", "(I)Z"⟩, prog_1_method_25_code, 2, (some .boolean), []),
  (11, ⟨"PassagePapers", "enough", "(I)I"⟩, prog_1_method_26_code, 2, (some .int), []),
  (11, ⟨"PassagePapers", "level", "(I)I"⟩, prog_1_method_27_code, 3, (some .int), []),
  (11, ⟨"PassagePapers", "terms", "(II)I"⟩, prog_1_method_29_code, 3, (some .int), []),
  (11, ⟨"PassagePapers", "ask", "(II)I"⟩, prog_1_method_30_code, 3, (some .int), []),
  (11, ⟨"PassagePapers", "court", "(III)J"⟩, prog_1_method_31_code, 8, (some .long), [])]
def pm_prog_10 : List (Nat × MethodName × ByteArray × Nat × Option FieldType × List (Nat × Nat × Nat × Nat)) := [
  (11, ⟨"PassagePapers", "isWitnessCount", "(I)Z"⟩, prog_1_method_48_code, 1, (some .boolean), []),
  (11, ⟨"PassagePapers", "majorityAbove", "(II)J"⟩, prog_1_method_49_code, 5, (some .long), []),
  (11, ⟨"PassagePapers", "choices", "(II)J"⟩, prog_1_method_50_code, 5, (some .long), []),
  (11, ⟨"PassagePapers", "power", "(II)J"⟩, prog_1_method_51_code, 5, (some .long), []),
  (11, ⟨"PassagePapers", "witnesses", "(II)I"⟩, prog_1_method_32_code, 4, (some .int), []),
  (11, ⟨"PassagePapers", "loan", "(III)I"⟩, prog_1_method_33_code, 7, (some .int), []),
  (11, ⟨"PassagePapers", "land", "(II)I"⟩, prog_1_method_34_code, 3, (some .int), []),
  (11, ⟨"PassagePapers", "bids", "(IIII)I"⟩, prog_1_method_35_code, 12, (some .int), []),
  (11, ⟨"PassagePapers", "share", "(III)I"⟩, prog_1_method_52_code, 3, (some .int), []),
  (11, ⟨"PassagePapers", "bestShare", "(III)I"⟩, prog_1_method_53_code, 4, (some .int), []),
  (11, ⟨"PassagePapers", "has", "(III)I"⟩, prog_1_method_36_code, 4, (some .int), []),
  (11, ⟨"PassagePapers", "voyage", "(IIIII)I"⟩, prog_1_method_37_code, 6, (some .int), []),
  (11, ⟨"PassagePapers", "isVoyage", "(III)Z"⟩, prog_1_method_47_code, 3, (some .boolean), []),
  (11, ⟨"PassagePapers", "span", "(IIIIII)I"⟩, prog_1_method_38_code, 11, (some .int), []),
  (12, ⟨"PassagePapersModel", "thrown", "()I"⟩, prog_14_method_1_code, 1, (some .int), []),
  (12, ⟨"PassagePapersModel", "<init>", "()V"⟩, prog_14_method_4_code, 1, none, []),
  (12, ⟨"PassagePapersModel", "clears", "()V"⟩, prog_14_method_20_code, 1, none, []),
  (12, ⟨"PassagePapersModel", "sets", "()V"⟩, prog_14_method_22_code, 2, none, []),
  (12, ⟨"PassagePapersModel", "copies", "([I[II)V"⟩, prog_14_method_21_code, 5, none, []),
  (12, ⟨"PassagePapersModel", "feed", "(IIIII)I"⟩, prog_14_method_5_code, 8, (some .int), [])]
def pm_prog_11 : List (Nat × MethodName × ByteArray × Nat × Option FieldType × List (Nat × Nat × Nat × Nat)) := [
  (12, ⟨"PassagePapersModel", "fault", "()I"⟩, prog_14_method_19_code, 1, (some .int), []),
  (12, ⟨"PassagePapersModel", "register", "(I)I"⟩, prog_14_method_27_code, 5, (some .int), []),
  (12, ⟨"PassagePapersModel", "may", "(ZII)Z"⟩, prog_14_method_2_code, 4, (some .boolean), []),
  (12, ⟨"PassagePapersModel", "begins", "(I)V"⟩, prog_14_method_17_code, 2, none, []),
  (12, ⟨"PassagePapersModel", "fine", "()Z"⟩, prog_14_method_6_code, 1, (some .boolean), []),
  (12, ⟨"PassagePapersModel", "isMore", "()Z"⟩, prog_14_method_16_code, 1, (some .boolean), []),
  (12, ⟨"PassagePapersModel", "here", "()I"⟩, prog_14_method_8_code, 1, (some .int), []),
  (12, ⟨"PassagePapersModel", "standsHere", "(Ljava/lang/String;)Z"⟩, prog_14_method_25_code, 3, (some .boolean), []),
  (12, ⟨"PassagePapersModel", "isSmall", "(I)Z"⟩, prog_14_method_9_code, 1, (some .boolean), []),
  (12, ⟨"PassagePapersModel", "word", "()I"⟩, prog_14_method_11_code, 4, (some .int), []),
  (12, ⟨"PassagePapersModel", "isRow", "(I)Z"⟩, prog_14_method_26_code, 1, (some .boolean), []),
  (12, ⟨"PassagePapersModel", "of", "(Ljava/lang/String;)I"⟩, prog_14_method_12_code, 3, (some .int), []),
  (12, ⟨"PassagePapersModel", "wrong", "(II)V"⟩, prog_14_method_7_code, 3, none, []),
  (12, ⟨"PassagePapersModel", "pass", "()V"⟩, prog_14_method_13_code, 1, none, []),
  (12, ⟨"PassagePapersModel", "readKinsman", "()V"⟩, prog_14_method_24_code, 3, none, []),
  (12, ⟨"PassagePapersModel", "readNumber", "(II)I"⟩, prog_14_method_14_code, 6, (some .int), []),
  (12, ⟨"PassagePapersModel", "isDigit", "(I)Z"⟩, prog_14_method_10_code, 1, (some .boolean), []),
  (12, ⟨"PassagePapersModel", "readRow", "(I)V"⟩, prog_14_method_23_code, 3, none, []),
  (12, ⟨"PassagePapersModel", "sign", "(I)V"⟩, prog_14_method_15_code, 2, none, []),
  (12, ⟨"PassagePapersModel", "result", "(I)I"⟩, prog_14_method_18_code, 2, (some .int), [])]
def pm_prog_12 : List (Nat × MethodName × ByteArray × Nat × Option FieldType × List (Nat × Nat × Nat × Nat)) := [
  (12, ⟨"PassagePapersModel", "law", "(II)I"⟩, prog_14_method_35_code, 5, (some .int), []),
  (12, ⟨"PassagePapersModel", "within", "(III)Z"⟩, prog_14_method_3_code, 3, (some .boolean), []),
  (12, ⟨"PassagePapersModel", "readSum", "()V"⟩, prog_14_method_30_code, 2, none, []),
  (12, ⟨"PassagePapersModel", "readProduct", "()V"⟩, prog_14_method_31_code, 2, none, []),
  (12, ⟨"PassagePapersModel", "readUnit", "()V"⟩, prog_14_method_34_code, 2, none, []),
  (12, ⟨"PassagePapersModel", "opensOne", "(I)V"⟩, prog_14_method_29_code, 2, none, []),
  (12, ⟨"PassagePapersModel", "emit", "(II)V"⟩, prog_14_method_28_code, 3, none, []),
  (12, ⟨"PassagePapersModel", "readTwo", "(II)V"⟩, prog_14_method_32_code, 3, none, []),
  (12, ⟨"PassagePapersModel", "factHere", "()I"⟩, prog_14_method_33_code, 2, (some .int), []),
  (12, ⟨"PassagePapersModel", "work", "(I)I"⟩, prog_14_method_42_code, 4, (some .int), []),
  (12, ⟨"PassagePapersModel", "readStep", "()V"⟩, prog_14_method_41_code, 4, none, []),
  (12, ⟨"PassagePapersModel", "tellsStep", "(III)V"⟩, prog_14_method_39_code, 4, none, []),
  (12, ⟨"PassagePapersModel", "readOne", "()I"⟩, prog_14_method_40_code, 1, (some .int), []),
  (12, ⟨"PassagePapersModel", "take", "()V"⟩, prog_14_method_44_code, 1, none, []),
  (12, ⟨"PassagePapersModel", "goesSteps", "(II)V"⟩, prog_14_method_43_code, 6, none, []),
  (12, ⟨"PassagePapersModel", "goes", "(III)Z"⟩, prog_14_method_58_code, 5, (some .boolean), []),
  (12, ⟨"PassagePapersModel", "lands", "()Z"⟩, prog_14_method_52_code, 2, (some .boolean), []),
  (12, ⟨"PassagePapersModel", "many", "(I)I"⟩, prog_14_method_50_code, 4, (some .int), []),
  (12, ⟨"PassagePapersModel", "places", "(II)Z"⟩, prog_14_method_53_code, 3, (some .boolean), []),
  (12, ⟨"PassagePapersModel", "boundTo", "(I)I"⟩, prog_14_method_51_code, 4, (some .int), [])]
def pm_prog_13 : List (Nat × MethodName × ByteArray × Nat × Option FieldType × List (Nat × Nat × Nat × Nat)) := [
  (12, ⟨"PassagePapersModel", "loses", "(II)Z"⟩, prog_14_method_57_code, 3, (some .boolean), []),
  (12, ⟨"PassagePapersModel", "pays", "(I)Z"⟩, prog_14_method_56_code, 2, (some .boolean), []),
  (12, ⟨"PassagePapersModel", "canPayNow", "(I)Z"⟩, prog_14_method_55_code, 2, (some .boolean), []),
  (12, ⟨"PassagePapersModel", "owesOf", "(I)I"⟩, prog_14_method_49_code, 3, (some .int), []),
  (12, ⟨"PassagePapersModel", "asksBy", "(II)I"⟩, prog_14_method_48_code, 3, (some .int), []),
  (12, ⟨"PassagePapersModel", "asksOf", "(IIII)I"⟩, prog_14_method_47_code, 5, (some .int), []),
  (12, ⟨"PassagePapersModel", "kinMany", "(I)I"⟩, prog_14_method_46_code, 4, (some .int), []),
  (12, ⟨"PassagePapersModel", "areKin", "(II)Z"⟩, prog_14_method_45_code, 3, (some .boolean), []),
  (12, ⟨"PassagePapersModel", "asksNow", "(I)I"⟩, prog_14_method_38_code, 3, (some .int), []),
  (12, ⟨"PassagePapersModel", "valueOf", "(I)I"⟩, prog_14_method_36_code, 5, (some .int), []),
  (12, ⟨"PassagePapersModel", "both", "(III)I"⟩, prog_14_method_37_code, 3, (some .int), []),
  (12, ⟨"PassagePapersModel", "frees", "(I)V"⟩, prog_14_method_54_code, 2, none, []),
  (12, ⟨"PassagePapersModel", "passes", "()V"⟩, prog_14_method_59_code, 2, none, []),
  (12, ⟨"PassagePapersModel", "book", "(I)I"⟩, prog_14_method_60_code, 6, (some .int), []),
  (12, ⟨"PassagePapersModel", "undo", "()I"⟩, prog_14_method_61_code, 2, (some .int), []),
  (12, ⟨"PassagePapersModel", "told", "(I)I"⟩, prog_14_method_62_code, 2, (some .int), []),
  (12, ⟨"PassagePapersModel", "signer", "(II)I"⟩, prog_14_method_65_code, 3, (some .int), []),
  (12, ⟨"PassagePapersModel", "isSigner", "(II)Z"⟩, prog_14_method_63_code, 3, (some .boolean), []),
  (12, ⟨"PassagePapersModel", "taker", "(II)I"⟩, prog_14_method_66_code, 3, (some .int), []),
  (12, ⟨"PassagePapersModel", "isTaker", "(II)Z"⟩, prog_14_method_64_code, 3, (some .boolean), [])]
def pm_prog_14 : List (Nat × MethodName × ByteArray × Nat × Option FieldType × List (Nat × Nat × Nat × Nat)) := [
  (12, ⟨"PassagePapersModel", "asks", "(II)I"⟩, prog_14_method_67_code, 3, (some .int), []),
  (12, ⟨"PassagePapersModel", "owes", "(I)I"⟩, prog_14_method_68_code, 2, (some .int), []),
  (12, ⟨"PassagePapersModel", "would", "(IIIIII)I"⟩, prog_14_method_69_code, 7, (some .int), []),
  (12, ⟨"PassagePapersModel", "held", "()I"⟩, prog_14_method_70_code, 3, (some .int), []),
  (12, ⟨"PassagePapersModel", "freeIn", "(I)I"⟩, prog_14_method_72_code, 2, (some .int), []),
  (12, ⟨"PassagePapersModel", "freeBy", "(II)I"⟩, prog_14_method_71_code, 4, (some .int), []),
  (12, ⟨"PassagePapersModel", "otherwise", "(I)I"⟩, prog_14_method_73_code, 2, (some .int), []),
  (12, ⟨"PassagePapersModel", "ahead", "(II)I"⟩, prog_14_method_74_code, 4, (some .int), []),
  (12, ⟨"PassagePapersModel", "gives", "(II)I"⟩, prog_14_method_76_code, 3, (some .int), []),
  (12, ⟨"PassagePapersModel", "givesFor", "(II)I"⟩, prog_14_method_75_code, 4, (some .int), []),
  (12, ⟨"PassagePapersModel", "best", "(I)I"⟩, prog_14_method_80_code, 4, (some .int), []),
  (12, ⟨"PassagePapersModel", "findBest", "()V"⟩, prog_14_method_79_code, 3, none, []),
  (12, ⟨"PassagePapersModel", "waysOn", "(II)V"⟩, prog_14_method_78_code, 4, none, []),
  (12, ⟨"PassagePapersModel", "mayBeWith", "(II)Z"⟩, prog_14_method_77_code, 4, (some .boolean), []),
  (12, ⟨"PassagePapersModel", "bestFor", "(I)I"⟩, prog_14_method_81_code, 2, (some .int), []),
  (12, ⟨"PassagePapersModel", "parted", "()I"⟩, prog_14_method_82_code, 4, (some .int), []),
  (12, ⟨"PassagePapersModel", "kin", "(I)I"⟩, prog_14_method_83_code, 4, (some .int), []),
  (12, ⟨"PassagePapersModel", "fare", "(I)I"⟩, prog_14_method_84_code, 2, (some .int), []),
  (12, ⟨"PassagePapersModel", "canPay", "(I)Z"⟩, prog_14_method_85_code, 2, (some .boolean), []),
  (12, ⟨"PassagePapersModel", "enough", "(I)I"⟩, prog_14_method_86_code, 2, (some .int), [])]
def pm_prog_15 : List (Nat × MethodName × ByteArray × Nat × Option FieldType × List (Nat × Nat × Nat × Nat)) := [
  (12, ⟨"PassagePapersModel", "level", "(I)I"⟩, prog_14_method_87_code, 3, (some .int), []),
  (12, ⟨"PassagePapersModel", "hunger", "()I"⟩, prog_14_method_88_code, 2, (some .int), []),
  (12, ⟨"PassagePapersModel", "terms", "(II)I"⟩, prog_14_method_91_code, 8, (some .int), []),
  (12, ⟨"PassagePapersModel", "findTerms", "(I)V"⟩, prog_14_method_90_code, 4, none, []),
  (12, ⟨"PassagePapersModel", "moreBy", "(II)I"⟩, prog_14_method_89_code, 2, (some .int), []),
  (12, ⟨"PassagePapersModel", "ask", "(II)I"⟩, prog_14_method_94_code, 7, (some .int), []),
  (12, ⟨"PassagePapersModel", "isTold", "(I)Z"⟩, prog_14_method_92_code, 3, (some .boolean), []),
  (12, ⟨"PassagePapersModel", "worstAt", "(I)I"⟩, prog_14_method_93_code, 5, (some .int), []),
  (12, ⟨"PassagePapersModel", "court", "(III)J"⟩, prog_14_method_98_code, 4, (some .long), []),
  (12, ⟨"PassagePapersModel", "courtBy", "(II)J"⟩, prog_14_method_97_code, 7, (some .long), []),
  (12, ⟨"PassagePapersModel", "power", "(JI)J"⟩, prog_14_method_96_code, 6, (some .long), []),
  (12, ⟨"PassagePapersModel", "least", "(JJI)J"⟩, prog_14_method_95_code, 11, (some .long), []),
  (12, ⟨"PassagePapersModel", "witnesses", "(II)I"⟩, prog_14_method_99_code, 4, (some .int), []),
  (12, ⟨"PassagePapersModel", "loan", "(III)I"⟩, prog_14_method_100_code, 7, (some .int), []),
  (12, ⟨"PassagePapersModel", "land", "(II)I"⟩, prog_14_method_101_code, 6, (some .int), []),
  (12, ⟨"PassagePapersModel", "bids", "(IIII)I"⟩, prog_14_method_104_code, 8, (some .int), []),
  (12, ⟨"PassagePapersModel", "isRest", "(IIIII)Z"⟩, prog_14_method_103_code, 6, (some .boolean), []),
  (12, ⟨"PassagePapersModel", "hasBy", "(III)I"⟩, prog_14_method_102_code, 3, (some .int), []),
  (12, ⟨"PassagePapersModel", "has", "(III)I"⟩, prog_14_method_105_code, 4, (some .int), []),
  (12, ⟨"PassagePapersModel", "voyage", "(IIIII)I"⟩, prog_14_method_109_code, 6, (some .int), [])]
def pm_prog_16 : List (Nat × MethodName × ByteArray × Nat × Option FieldType × List (Nat × Nat × Nat × Nat)) := [
  (12, ⟨"PassagePapersModel", "isVoyage", "(III)Z"⟩, prog_14_method_108_code, 3, (some .boolean), []),
  (12, ⟨"PassagePapersModel", "sails", "(IIII)V"⟩, prog_14_method_107_code, 6, none, []),
  (12, ⟨"PassagePapersModel", "draws", "()I"⟩, prog_14_method_106_code, 1, (some .int), []),
  (12, ⟨"PassagePapersModel", "span", "(IIIIII)I"⟩, prog_14_method_110_code, 11, (some .int), []),
  (12, ⟨"PassagePapersModel", "image", "()I"⟩, prog_14_method_113_code, 1, (some .int), []),
  (12, ⟨"PassagePapersModel", "keepsAll", "(IZ)V"⟩, prog_14_method_112_code, 4, none, []),
  (12, ⟨"PassagePapersModel", "keepsRow", "(I[IIZ)I"⟩, prog_14_method_111_code, 6, (some .int), []),
  (12, ⟨"PassagePapersModel", "restore", "()I"⟩, prog_14_method_114_code, 1, (some .int), []),
  (12, ⟨"PassagePapersModel", "status", "(I)I"⟩, prog_14_method_115_code, 2, (some .int), []),
  (12, ⟨"PassagePapersModel", "count", "(I)I"⟩, prog_14_method_116_code, 2, (some .int), []),
  (13, ⟨"PassagePapersLaw", "register", "(LPassagePapers;I[J)I"⟩, method_3_code, 4, (some .int), [(0, 9, 12, 13)]),
  (13, ⟨"PassagePapersLaw", "law", "(LPassagePapers;II[J)I"⟩, method_4_code, 5, (some .int), [(0, 10, 13, 13)]),
  (13, ⟨"PassagePapersLaw", "work", "(LPassagePapers;I[J)I"⟩, method_5_code, 4, (some .int), [(0, 9, 12, 13)]),
  (13, ⟨"PassagePapersLaw", "book", "(LPassagePapers;I[J)I"⟩, method_6_code, 4, (some .int), [(0, 9, 12, 13)]),
  (13, ⟨"PassagePapersLaw", "told", "(LPassagePapers;I[J)I"⟩, method_7_code, 4, (some .int), [(0, 9, 12, 13)]),
  (13, ⟨"PassagePapersLaw", "signer", "(LPassagePapers;II[J)I"⟩, method_8_code, 5, (some .int), [(0, 10, 13, 31), (0, 10, 17, 13)]),
  (13, ⟨"PassagePapersLaw", "taker", "(LPassagePapers;II[J)I"⟩, method_9_code, 5, (some .int), [(0, 10, 13, 31), (0, 10, 17, 13)]),
  (13, ⟨"PassagePapersLaw", "asks", "(LPassagePapers;II[J)I"⟩, method_10_code, 5, (some .int), [(0, 10, 13, 31), (0, 10, 17, 13)]),
  (13, ⟨"PassagePapersLaw", "owes", "(LPassagePapers;I[J)I"⟩, method_11_code, 4, (some .int), [(0, 9, 12, 31)]),
  (13, ⟨"PassagePapersLaw", "would", "(LPassagePapers;IIIIII[J)I"⟩, method_12_code, 9, (some .int), [(0, 18, 21, 13)])]
def pm_prog_17 : List (Nat × MethodName × ByteArray × Nat × Option FieldType × List (Nat × Nat × Nat × Nat)) := [
  (13, ⟨"PassagePapersLaw", "freeIn", "(LPassagePapers;I[J)I"⟩, method_13_code, 4, (some .int), [(0, 9, 12, 31)]),
  (13, ⟨"PassagePapersLaw", "otherwise", "(LPassagePapers;I[J)I"⟩, method_14_code, 4, (some .int), [(0, 9, 12, 31)]),
  (13, ⟨"PassagePapersLaw", "ahead", "(LPassagePapers;II[J)I"⟩, method_15_code, 5, (some .int), [(0, 10, 13, 13)]),
  (13, ⟨"PassagePapersLaw", "gives", "(LPassagePapers;II[J)I"⟩, method_16_code, 5, (some .int), [(0, 10, 13, 31)]),
  (13, ⟨"PassagePapersLaw", "best", "(LPassagePapers;I[J)I"⟩, method_17_code, 4, (some .int), [(0, 9, 12, 13)]),
  (13, ⟨"PassagePapersLaw", "bestFor", "(LPassagePapers;I[J)I"⟩, method_18_code, 4, (some .int), [(0, 9, 12, 31)]),
  (13, ⟨"PassagePapersLaw", "kin", "(LPassagePapers;I[J)I"⟩, method_19_code, 4, (some .int), [(0, 9, 12, 31)]),
  (13, ⟨"PassagePapersLaw", "fare", "(LPassagePapers;I[J)I"⟩, method_20_code, 4, (some .int), [(0, 9, 12, 31)]),
  (13, ⟨"PassagePapersLaw", "canPay", "(LPassagePapers;I[J)I"⟩, method_21_code, 4, (some .int), [(0, 16, 19, 31)]),
  (13, ⟨"PassagePapersLaw", "enough", "(LPassagePapers;I[J)I"⟩, method_22_code, 4, (some .int), [(0, 9, 12, 13)]),
  (13, ⟨"PassagePapersLaw", "level", "(LPassagePapers;I[J)I"⟩, method_23_code, 4, (some .int), [(0, 9, 12, 13)]),
  (13, ⟨"PassagePapersLaw", "terms", "(LPassagePapers;II[J)I"⟩, method_24_code, 5, (some .int), [(0, 10, 13, 31), (0, 10, 17, 13)]),
  (13, ⟨"PassagePapersLaw", "ask", "(LPassagePapers;II[J)I"⟩, method_25_code, 5, (some .int), [(0, 10, 13, 31), (0, 10, 17, 13)]),
  (13, ⟨"PassagePapersLaw", "court", "(LPassagePapers;III[J)I"⟩, method_26_code, 6, (some .int), [(0, 11, 14, 13)]),
  (13, ⟨"PassagePapersLaw", "witnesses", "(LPassagePapers;II[J)I"⟩, method_27_code, 5, (some .int), [(0, 10, 13, 13)]),
  (13, ⟨"PassagePapersLaw", "loan", "(LPassagePapers;III[J)I"⟩, method_28_code, 6, (some .int), [(0, 12, 15, 13)]),
  (13, ⟨"PassagePapersLaw", "land", "(LPassagePapers;II[J)I"⟩, method_29_code, 5, (some .int), [(0, 10, 13, 31), (0, 10, 17, 13)]),
  (13, ⟨"PassagePapersLaw", "bids", "(LPassagePapers;IIII[J)I"⟩, method_30_code, 7, (some .int), [(0, 14, 17, 13)]),
  (13, ⟨"PassagePapersLaw", "has", "(LPassagePapers;III[J)I"⟩, method_31_code, 6, (some .int), [(0, 12, 15, 13)]),
  (13, ⟨"PassagePapersLaw", "voyage", "(LPassagePapers;IIIII[J)I"⟩, method_32_code, 8, (some .int), [(0, 16, 19, 13)])]
def pm_prog_18 : List (Nat × MethodName × ByteArray × Nat × Option FieldType × List (Nat × Nat × Nat × Nat)) := [
  (13, ⟨"PassagePapersLaw", "span", "(LPassagePapers;IIIIII[J)I"⟩, method_33_code, 9, (some .int), [(0, 18, 21, 13)]),
  (13, ⟨"PassagePapersLaw", "law", "([I)Z"⟩, code, 8, (some .boolean), []),
  (14, ⟨"java/lang/Math", "max", "(II)I"⟩, prog_21_method_65_code, 2, (some .int), []),
  (14, ⟨"java/lang/Math", "min", "(II)I"⟩, prog_21_method_69_code, 2, (some .int), []),
  (14, ⟨"java/lang/Math", "max", "(JJ)J"⟩, prog_21_method_66_code, 4, (some .long), []),
  (15, ⟨"java/lang/Integer", "bitCount", "(I)I"⟩, prog_20_method_49_code, 1, (some .int), []),
  (16, ⟨"java/lang/String", "length", "()I"⟩, prog_23_method_54_code, 1, (some .int), []),
  (16, ⟨"java/lang/String", "coder", "()B"⟩, prog_23_method_152_code, 1, (some .byte), []),
  (16, ⟨"java/lang/String", "charAt", "(I)C"⟩, prog_23_method_56_code, 2, (some .char), []),
  (16, ⟨"java/lang/String", "isLatin1", "()Z"⟩, prog_23_method_154_code, 1, (some .boolean), []),
  (17, ⟨"java/lang/StringLatin1", "charAt", "([BI)C"⟩, prog_24_method_2_code, 2, (some .char), []),
  (16, ⟨"java/lang/String", "checkIndex", "(II)V"⟩, prog_23_method_155_code, 2, none, []),
  (18, ⟨"jdk/internal/util/Preconditions", "checkIndex", "(IILjava/util/function/BiFunction;)I"⟩, prog_31_method_11_code, 3, (some .int), [])]
/-- the methods: class number, name, code, locals, answer, rows of the exception table -/
def pm_prog : List (Nat × MethodName × ByteArray × Nat × Option FieldType × List (Nat × Nat × Nat × Nat)) := pm_prog_0 ++ (pm_prog_1 ++ (pm_prog_2 ++ (pm_prog_3 ++ (pm_prog_4 ++ (pm_prog_5 ++ (pm_prog_6 ++ (pm_prog_7 ++ (pm_prog_8 ++ (pm_prog_9 ++ (pm_prog_10 ++ (pm_prog_11 ++ (pm_prog_12 ++ (pm_prog_13 ++ (pm_prog_14 ++ (pm_prog_15 ++ (pm_prog_16 ++ (pm_prog_17 ++ (pm_prog_18))))))))))))))))))
/-- fields by class and entry: class, field, kind -/
def pm_ftl : List ((Nat × Nat) × (Nat × Nat × Nat)) := [((0, 13), (0, 0, 2)), ((0, 18), (0, 1, 2)), ((0, 21), (0, 2, 2)), ((0, 25), (0, 3, 0)), ((0, 29), (0, 4, 0)), ((1, 9), (1, 0, 2)), ((1, 15), (1, 1, 2)), ((1, 18), (1, 2, 0)), ((2, 9), (2, 0, 2)), ((2, 15), (2, 1, 2)), ((2, 18), (2, 2, 0)), ((3, 12), (3, 0, 2)), ((3, 21), (3, 1, 2)), ((3, 25), (3, 2, 2)), ((3, 28), (3, 3, 2)), ((3, 32), (3, 4, 2)), ((3, 35), (3, 5, 2)), ((3, 41), (3, 6, 2)), ((4, 11), (4, 0, 2)), ((4, 15), (4, 1, 2)), ((4, 19), (4, 2, 2)), ((4, 22), (4, 3, 2)), ((4, 25), (4, 4, 2)), ((4, 28), (4, 5, 2)), ((4, 31), (4, 6, 2)), ((4, 34), (4, 7, 0)), ((4, 38), (4, 8, 0)), ((4, 41), (4, 9, 0)), ((4, 44), (4, 10, 0)), ((4, 47), (4, 11, 0)), ((4, 50), (4, 12, 0)), ((5, 9), (5, 0, 2)), ((5, 15), (5, 1, 2)), ((5, 18), (5, 2, 2)), ((5, 21), (5, 3, 2)), ((5, 24), (5, 4, 2)), ((5, 27), (5, 5, 2)), ((5, 30), (5, 6, 2)), ((5, 33), (5, 7, 0)), ((5, 37), (5, 8, 0)), ((5, 40), (5, 9, 0)), ((5, 43), (5, 10, 0)), ((6, 11), (6, 0, 2)), ((7, 9), (7, 0, 2)), ((7, 15), (7, 1, 2)), ((7, 18), (7, 2, 2)), ((7, 21), (7, 3, 2)), ((7, 24), (7, 4, 0)), ((7, 28), (7, 5, 0)), ((7, 31), (7, 6, 0)), ((7, 34), (7, 7, 0)), ((8, 9), (8, 0, 2)), ((8, 15), (8, 1, 0)), ((8, 19), (8, 2, 0)), ((8, 22), (8, 3, 0)), ((8, 25), (8, 4, 0)), ((8, 28), (8, 5, 0)), ((8, 31), (8, 6, 0)), ((8, 34), (8, 7, 0)), ((8, 37), (8, 8, 0)), ((9, 9), (9, 0, 2)), ((9, 15), (9, 1, 0)), ((9, 19), (9, 2, 0)), ((9, 22), (9, 3, 0)), ((9, 25), (9, 4, 0)), ((9, 28), (9, 5, 0)), ((9, 31), (9, 6, 0)), ((10, 9), (10, 0, 0)), ((10, 15), (10, 1, 0)), ((10, 18), (10, 2, 0)), ((11, 10), (11, 0, 2)), ((11, 19), (11, 1, 2)), ((11, 26), (11, 2, 2)), ((11, 33), (11, 3, 2)), ((11, 40), (11, 4, 2)), ((11, 47), (11, 5, 2)), ((11, 54), (11, 6, 2)), ((11, 61), (11, 7, 2)), ((11, 68), (11, 8, 2)), ((11, 75), (11, 9, 2)), ((11, 79), (11, 10, 2)), ((11, 82), (11, 11, 0)), ((11, 86), (11, 12, 0)), ((11, 89), (11, 13, 0)), ((12, 3), (12, 0, 0)), ((12, 7), (12, 1, 2)), ((12, 17), (12, 8, 0)), ((12, 20), (12, 9, 2)), ((12, 23), (12, 10, 2)), ((12, 26), (12, 11, 2)), ((12, 29), (12, 12, 2)), ((12, 32), (12, 13, 2)), ((12, 35), (12, 21, 2)), ((12, 38), (12, 22, 2)), ((12, 41), (12, 23, 2)), ((12, 44), (12, 24, 2)), ((12, 47), (12, 25, 2)), ((12, 50), (12, 26, 2)), ((12, 53), (12, 28, 2)), ((12, 56), (12, 29, 2)), ((12, 59), (12, 30, 2)), ((12, 62), (12, 37, 2)), ((12, 65), (12, 38, 2)), ((12, 68), (12, 39, 2)), ((12, 71), (12, 43, 2)), ((12, 74), (12, 44, 2)), ((12, 77), (12, 46, 2)), ((12, 80), (12, 47, 2)), ((12, 83), (12, 48, 2)), ((12, 86), (12, 49, 2)), ((12, 89), (12, 51, 2)), ((12, 93), (12, 52, 2)), ((12, 96), (12, 53, 2)), ((12, 99), (12, 54, 2)), ((12, 102), (12, 57, 2)), ((12, 111), (12, 2, 0)), ((12, 114), (12, 5, 0)), ((12, 117), (12, 6, 0)), ((12, 120), (12, 4, 0)), ((12, 123), (12, 3, 0)), ((12, 154), (12, 7, 0)), ((12, 157), (12, 14, 0)), ((12, 160), (12, 15, 0)), ((12, 163), (12, 16, 0)), ((12, 166), (12, 17, 0)), ((12, 169), (12, 18, 0)), ((12, 172), (12, 19, 0)), ((12, 175), (12, 20, 0)), ((12, 182), (12, 45, 0)), ((12, 185), (12, 32, 0)), ((12, 188), (12, 58, 0)), ((12, 191), (12, 33, 0)), ((12, 246), (12, 27, 0)), ((12, 301), (12, 31, 0)), ((12, 333), (12, 34, 0)), ((12, 336), (12, 35, 0)), ((12, 339), (12, 36, 0)), ((12, 348), (12, 40, 0)), ((12, 351), (12, 41, 0)), ((12, 354), (12, 42, 0)), ((12, 416), (12, 50, 0)), ((12, 464), (12, 55, 0)), ((12, 468), (12, 56, 0))]
/-- methods by class and entry: method, parameters, kind (static 0, virtual 1, special 2), by the nest -/
def pm_ttl : List ((Nat × Nat) × (Nat × Nat × Nat × Bool)) := [((0, 32), (109, 1, 1, false)), ((0, 36), (105, 1, 1, false)), ((0, 39), (164, 2, 0, true)), ((0, 43), (159, 3, 0, true)), ((0, 47), (160, 2, 0, true)), ((1, 22), (131, 0, 1, false)), ((1, 28), (11, 1, 1, false)), ((1, 32), (140, 0, 1, false)), ((1, 35), (133, 1, 1, false)), ((1, 39), (141, 0, 1, false)), ((1, 43), (12, 1, 1, false)), ((1, 47), (159, 3, 0, true)), ((1, 51), (128, 0, 1, false)), ((1, 54), (134, 2, 1, false)), ((1, 58), (135, 1, 1, false)), ((1, 62), (160, 2, 0, true)), ((1, 66), (362, 2, 0, false)), ((2, 22), (16, 0, 1, false)), ((2, 25), (17, 1, 1, false)), ((2, 29), (164, 2, 0, true)), ((2, 33), (19, 3, 0, false)), ((2, 37), (160, 2, 0, true)), ((2, 41), (363, 2, 0, false)), ((2, 47), (362, 2, 0, false)), ((2, 50), (21, 2, 1, false)), ((2, 54), (131, 0, 1, false)), ((2, 60), (133, 1, 1, false)), ((2, 63), (159, 3, 0, true)), ((2, 67), (22, 2, 1, false)), ((2, 70), (136, 1, 1, false)), ((2, 74), (128, 0, 1, false)), ((2, 77), (23, 2, 1, false)), ((2, 80), (24, 1, 0, false)), ((2, 84), (25, 1, 0, false)), ((2, 87), (140, 0, 1, false)), ((2, 90), (134, 2, 1, false)), ((2, 93), (135, 1, 1, false)), ((2, 99), (132, 1, 1, false)), ((3, 11), (100, 0, 2, true)), ((3, 20), (15, 0, 2, false)), ((3, 40), (78, 0, 2, true)), ((3, 45), (101, 1, 1, false)), ((3, 49), (16, 0, 1, false)), ((3, 52), (106, 2, 1, false)), ((3, 56), (81, 0, 1, false)), ((3, 60), (30, 2, 1, false)), ((3, 64), (94, 1, 1, false)), ((3, 68), (42, 1, 1, false)), ((3, 71), (362, 2, 0, false)), ((3, 76), (82, 1, 1, false)), ((3, 79), (159, 3, 0, true)), ((3, 83), (83, 1, 1, false)), ((3, 86), (84, 1, 1, false)), ((3, 89), (365, 1, 0, false)), ((3, 94), (107, 0, 1, false)), ((3, 97), (32, 1, 1, false)), ((3, 101), (33, 1, 1, false)), ((3, 105), (18, 1, 1, false)), ((3, 109), (31, 2, 1, false)), ((3, 112), (36, 1, 1, false)), ((3, 115), (53, 3, 1, false)), ((3, 119), (99, 1, 1, false)), ((3, 122), (98, 1, 1, false)), ((3, 125), (35, 2, 1, false)), ((3, 128), (85, 2, 1, false)), ((3, 131), (47, 1, 1, false)), ((3, 134), (61, 0, 1, false)), ((3, 137), (160, 2, 0, true)), ((3, 141), (92, 0, 1, false)), ((3, 144), (40, 0, 1, false)), ((3, 148), (41, 2, 1, false)), ((3, 151), (43, 2, 1, false)), ((3, 154), (44, 1, 1, false)), ((3, 158), (45, 2, 1, false)), ((3, 161), (46, 1, 1, false)), ((3, 164), (50, 0, 1, false)), ((3, 167), (93, 0, 1, false)), ((3, 170), (102, 3, 1, false)), ((3, 174), (363, 2, 0, false)), ((3, 177), (48, 2, 1, false)), ((3, 180), (49, 1, 1, false)), ((3, 183), (51, 1, 1, false)), ((3, 186), (103, 1, 1, false)), ((3, 189), (108, 0, 1, false)), ((3, 192), (104, 1, 1, false)), ((4, 53), (74, 1, 1, false)), ((4, 57), (64, 1, 1, false)), ((4, 61), (67, 1, 1, false)), ((4, 65), (36, 1, 1, false)), ((4, 70), (160, 2, 0, true)), ((4, 74), (68, 3, 1, false)), ((4, 78), (73, 1, 1, false)), ((4, 82), (37, 0, 1, false)), ((4, 86), (92, 0, 1, false)), ((4, 91), (159, 3, 0, true)), ((4, 95), (81, 0, 1, false)), ((4, 98), (30, 2, 1, false)), ((4, 102), (65, 2, 1, false)), ((4, 106), (66, 2, 1, false)), ((4, 110), (47, 1, 1, false)), ((4, 113), (56, 3, 1, false)), ((4, 117), (85, 2, 1, false)), ((4, 120), (57, 1, 1, false)), ((4, 123), (363, 2, 0, false)), ((4, 129), (69, 2, 1, false)), ((4, 133), (72, 0, 1, false)), ((4, 136), (70, 1, 1, false)), ((4, 140), (71, 1, 0, false)), ((4, 143), (364, 2, 0, false)), ((5, 46), (160, 2, 0, true)), ((5, 50), (84, 1, 1, false)), ((5, 54), (131, 0, 1, false)), ((5, 60), (87, 2, 1, false)), ((5, 64), (88, 1, 0, false)), ((5, 68), (133, 1, 1, false)), ((5, 72), (128, 0, 1, false)), ((5, 75), (89, 1, 1, false)), ((5, 79), (90, 1, 1, false)), ((5, 82), (91, 1, 1, false)), ((5, 85), (134, 2, 1, false)), ((5, 89), (135, 1, 1, false)), ((5, 95), (132, 1, 1, false)), ((5, 106), (159, 3, 0, true)), ((6, 15), (102, 3, 1, false)), ((6, 19), (79, 1, 1, false)), ((6, 25), (103, 1, 1, false)), ((6, 29), (80, 0, 1, false)), ((6, 33), (104, 1, 1, false)), ((6, 36), (160, 2, 0, true)), ((6, 40), (159, 3, 0, true)), ((6, 44), (164, 2, 0, true)), ((7, 37), (131, 0, 1, false)), ((7, 43), (112, 3, 1, false)), ((7, 47), (113, 1, 0, false)), ((7, 51), (133, 1, 1, false)), ((7, 55), (128, 0, 1, false)), ((7, 58), (159, 3, 0, true)), ((7, 62), (134, 2, 1, false)), ((7, 66), (114, 3, 1, false)), ((7, 69), (115, 3, 1, false)), ((7, 72), (135, 1, 1, false)), ((7, 76), (138, 0, 1, false)), ((7, 79), (136, 1, 1, false)), ((7, 83), (160, 2, 0, true)), ((7, 87), (81, 0, 1, false)), ((7, 92), (92, 0, 1, false)), ((7, 97), (132, 1, 1, false)), ((7, 117), (119, 3, 1, false)), ((7, 121), (39, 3, 1, false)), ((7, 127), (118, 4, 1, false)), ((8, 40), (159, 3, 0, true)), ((8, 44), (127, 0, 1, false)), ((8, 47), (363, 2, 0, false)), ((8, 53), (128, 0, 1, false)), ((8, 56), (129, 1, 1, false)), ((8, 60), (130, 1, 1, false)), ((8, 64), (366, 0, 1, false)), ((8, 69), (368, 1, 1, false)), ((8, 73), (136, 1, 1, false)), ((8, 77), (133, 1, 1, false)), ((9, 34), (144, 0, 1, false)), ((9, 37), (32, 1, 1, false)), ((9, 43), (59, 2, 1, false)), ((9, 47), (14, 1, 1, false)), ((9, 53), (145, 2, 1, false)), ((9, 57), (363, 2, 0, false)), ((9, 62), (362, 2, 0, false)), ((9, 65), (160, 2, 0, true)), ((9, 69), (159, 3, 0, true)), ((9, 73), (12, 1, 1, false)), ((10, 21), (36, 1, 1, false)), ((10, 27), (28, 0, 1, false)), ((10, 31), (108, 0, 1, false)), ((10, 38), (362, 2, 0, false)), ((11, 9), (122, 0, 2, true)), ((11, 18), (27, 0, 2, false)), ((11, 25), (0, 0, 2, true)), ((11, 32), (15, 0, 2, false)), ((11, 39), (110, 0, 2, true)), ((11, 46), (142, 0, 2, true)), ((11, 53), (62, 0, 2, true)), ((11, 60), (153, 0, 2, true)), ((11, 67), (78, 0, 2, true)), ((11, 74), (8, 0, 2, true)), ((11, 92), (123, 0, 1, false)), ((11, 96), (124, 1, 1, false)), ((11, 100), (173, 2, 1, false)), ((11, 104), (126, 1, 1, false)), ((11, 107), (86, 1, 1, false)), ((11, 111), (137, 0, 1, false)), ((11, 114), (138, 0, 1, false)), ((11, 118), (139, 0, 1, false)), ((11, 121), (37, 0, 1, false)), ((11, 125), (38, 1, 1, false)), ((11, 129), (9, 0, 1, false)), ((11, 130), (6, 0, 1, false)), ((11, 131), (81, 0, 1, false)), ((11, 134), (174, 1, 1, false)), ((11, 138), (20, 1, 1, false)), ((11, 139), (33, 1, 1, false)), ((11, 143), (26, 1, 1, false)), ((11, 147), (1, 0, 1, false)), ((11, 150), (127, 0, 1, false)), ((11, 153), (111, 2, 1, false)), ((11, 156), (28, 0, 1, false)), ((11, 160), (7, 1, 1, false)), ((11, 164), (116, 0, 1, false)), ((11, 166), (117, 0, 1, false)), ((11, 167), (118, 4, 1, false)), ((11, 171), (120, 0, 1, false)), ((11, 174), (121, 0, 1, false)), ((11, 177), (10, 1, 1, false)), ((11, 178), (13, 0, 1, false)), ((11, 181), (125, 0, 1, false)), ((11, 184), (2, 1, 1, false)), ((11, 187), (92, 0, 1, false)), ((11, 190), (107, 0, 1, false)), ((11, 195), (108, 0, 1, false)), ((11, 198), (36, 1, 1, false)), ((11, 202), (93, 0, 1, false)), ((11, 205), (180, 1, 1, false)), ((11, 208), (82, 1, 1, false)), ((11, 211), (83, 1, 1, false)), ((11, 214), (96, 1, 1, false)), ((11, 217), (106, 2, 1, false)), ((11, 221), (182, 1, 1, false)), ((11, 224), (98, 1, 1, false)), ((11, 227), (99, 1, 1, false)), ((11, 230), (94, 1, 1, false)), ((11, 233), (42, 1, 1, false)), ((11, 236), (31, 2, 1, false)), ((11, 239), (47, 1, 1, false)), ((11, 242), (52, 6, 1, false)), ((11, 246), (29, 0, 1, false)), ((11, 249), (53, 3, 1, false)), ((11, 253), (54, 1, 1, false)), ((11, 256), (55, 1, 1, false)), ((11, 259), (362, 2, 0, false)), ((11, 264), (56, 3, 1, false)), ((11, 267), (63, 1, 1, false)), ((11, 271), (75, 0, 1, false)), ((11, 274), (76, 0, 1, false)), ((11, 277), (77, 1, 1, false)), ((11, 280), (34, 0, 1, false)), ((11, 283), (84, 1, 1, false)), ((11, 286), (58, 1, 1, false)), ((11, 289), (48, 2, 1, false)), ((11, 293), (363, 2, 0, false)), ((11, 296), (143, 3, 1, false)), ((11, 299), (146, 0, 1, false)), ((11, 302), (147, 0, 1, false)), ((11, 305), (148, 0, 1, false)), ((11, 308), (149, 0, 1, false)), ((11, 311), (150, 1, 1, false)), ((11, 315), (151, 0, 1, false)), ((11, 316), (152, 0, 1, false)), ((11, 319), (200, 1, 0, false)), ((11, 323), (201, 2, 0, false)), ((11, 329), (60, 2, 1, false)), ((11, 332), (208, 3, 0, false)), ((11, 335), (209, 3, 0, false)), ((11, 338), (212, 3, 0, false)), ((11, 342), (154, 5, 1, false)), ((11, 346), (155, 0, 1, false)), ((11, 349), (156, 0, 1, false)), ((11, 352), (157, 0, 1, false)), ((11, 355), (3, 0, 1, false)), ((11, 358), (4, 1, 1, false)), ((11, 361), (5, 1, 1, false)), ((11, 371), (95, 1, 1, false)), ((11, 379), (97, 1, 1, false)), ((11, 384), (202, 2, 0, false)), ((11, 387), (203, 2, 0, false)), ((12, 105), (216, 0, 1, false)), ((12, 108), (217, 0, 1, false)), ((12, 126), (226, 0, 1, false)), ((12, 130), (228, 1, 0, false)), ((12, 134), (366, 0, 1, false)), ((12, 139), (368, 1, 1, false)), ((12, 143), (224, 0, 1, false)), ((12, 147), (236, 1, 0, false)), ((12, 150), (232, 2, 1, false)), ((12, 178), (218, 3, 1, false)), ((12, 195), (231, 1, 0, false)), ((12, 199), (235, 2, 1, false)), ((12, 207), (222, 3, 1, false)), ((12, 211), (223, 1, 1, false)), ((12, 215), (225, 0, 1, false)), ((12, 220), (227, 1, 1, false)), ((12, 224), (229, 0, 1, false)), ((12, 227), (230, 1, 0, false)), ((12, 230), (233, 0, 1, false)), ((12, 233), (234, 0, 1, false)), ((12, 236), (237, 1, 1, false)), ((12, 239), (238, 1, 1, false)), ((12, 242), (239, 1, 1, false)), ((12, 249), (243, 0, 1, false)), ((12, 252), (246, 2, 1, false)), ((12, 255), (244, 0, 1, false)), ((12, 258), (245, 1, 1, false)), ((12, 261), (242, 0, 1, false)), ((12, 282), (247, 2, 1, false)), ((12, 287), (248, 0, 1, false)), ((12, 290), (241, 3, 0, false)), ((12, 294), (270, 3, 0, false)), ((12, 298), (269, 1, 1, false)), ((12, 306), (251, 3, 1, false)), ((12, 312), (252, 0, 1, false)), ((12, 327), (250, 0, 1, false)), ((12, 330), (253, 0, 1, false)), ((12, 342), (254, 2, 1, false)), ((12, 345), (255, 3, 1, false)), ((12, 357), (267, 2, 1, false)), ((12, 361), (266, 1, 1, false)), ((12, 364), (268, 1, 1, false)), ((12, 367), (265, 4, 1, false)), ((12, 371), (264, 2, 1, false)), ((12, 374), (257, 1, 1, false)), ((12, 377), (259, 1, 1, false)), ((12, 380), (263, 1, 1, false)), ((12, 383), (262, 1, 1, false)), ((12, 386), (271, 1, 1, false)), ((12, 389), (256, 0, 1, false)), ((12, 392), (258, 2, 1, false)), ((12, 395), (260, 2, 1, false)), ((12, 398), (261, 1, 1, false)), ((12, 401), (272, 0, 1, false)), ((12, 404), (277, 2, 1, false)), ((12, 407), (279, 2, 1, false)), ((12, 410), (285, 2, 1, false)), ((12, 413), (289, 2, 1, false)), ((12, 419), (292, 2, 1, false)), ((12, 422), (293, 2, 1, false)), ((12, 425), (291, 0, 1, false)), ((12, 428), (304, 2, 0, false)), ((12, 431), (303, 1, 1, false)), ((12, 434), (306, 1, 1, false)), ((12, 437), (307, 1, 1, false)), ((12, 440), (310, 2, 0, false)), ((12, 444), (309, 2, 0, false)), ((12, 450), (311, 3, 0, false)), ((12, 457), (317, 3, 0, false)), ((12, 460), (316, 5, 0, false)), ((12, 471), (322, 0, 1, false)), ((12, 474), (320, 3, 0, false)), ((12, 477), (321, 4, 1, false)), ((12, 481), (326, 4, 1, false)), ((12, 485), (325, 2, 1, false)), ((13, 7), (172, 1, 1, false)), ((13, 15), (175, 2, 1, false)), ((13, 19), (176, 1, 1, false)), ((13, 22), (177, 1, 1, false)), ((13, 25), (178, 1, 1, false)), ((13, 28), (179, 2, 1, false)), ((13, 33), (181, 2, 1, false)), ((13, 36), (183, 2, 1, false)), ((13, 39), (184, 1, 1, false)), ((13, 42), (185, 6, 1, false)), ((13, 46), (186, 1, 1, false)), ((13, 49), (187, 1, 1, false)), ((13, 52), (188, 2, 1, false)), ((13, 55), (189, 2, 1, false)), ((13, 58), (190, 1, 1, false)), ((13, 61), (191, 1, 1, false)), ((13, 64), (192, 1, 1, false)), ((13, 67), (193, 1, 1, false)), ((13, 70), (194, 1, 1, false)), ((13, 74), (195, 1, 1, false)), ((13, 77), (196, 1, 1, false)), ((13, 80), (197, 2, 1, false)), ((13, 83), (198, 2, 1, false)), ((13, 86), (199, 3, 1, false)), ((13, 90), (204, 2, 1, false)), ((13, 93), (205, 3, 1, false)), ((13, 97), (206, 2, 1, false)), ((13, 100), (207, 4, 1, false)), ((13, 104), (210, 3, 1, false)), ((13, 107), (211, 5, 1, false)), ((13, 111), (213, 6, 1, false)), ((13, 114), (158, 0, 2, false)), ((13, 117), (215, 0, 2, false)), ((13, 118), (161, 5, 1, false)), ((13, 121), (219, 5, 1, false)), ((13, 122), (330, 3, 0, false)), ((13, 127), (221, 1, 1, false)), ((13, 128), (214, 0, 1, false)), ((13, 132), (331, 4, 0, false)), ((13, 135), (240, 2, 1, false)), ((13, 136), (332, 3, 0, false)), ((13, 138), (249, 1, 1, false)), ((13, 139), (333, 3, 0, false)), ((13, 141), (273, 1, 1, false)), ((13, 142), (162, 0, 1, false)), ((13, 145), (220, 0, 1, false)), ((13, 146), (163, 0, 1, false)), ((13, 149), (274, 0, 1, false)), ((13, 150), (334, 3, 0, false)), ((13, 152), (275, 1, 1, false)), ((13, 153), (335, 4, 0, false)), ((13, 155), (276, 2, 1, false)), ((13, 156), (336, 4, 0, false)), ((13, 158), (278, 2, 1, false)), ((13, 159), (337, 4, 0, false)), ((13, 161), (280, 2, 1, false)), ((13, 162), (338, 3, 0, false)), ((13, 164), (281, 1, 1, false)), ((13, 165), (339, 8, 0, false)), ((13, 168), (282, 6, 1, false)), ((13, 169), (165, 0, 1, false)), ((13, 172), (283, 0, 1, false)), ((13, 173), (340, 3, 0, false)), ((13, 175), (284, 1, 1, false)), ((13, 176), (341, 3, 0, false)), ((13, 178), (286, 1, 1, false)), ((13, 179), (342, 4, 0, false)), ((13, 181), (287, 2, 1, false)), ((13, 182), (343, 4, 0, false)), ((13, 184), (288, 2, 1, false)), ((13, 185), (344, 3, 0, false)), ((13, 187), (290, 1, 1, false)), ((13, 188), (345, 3, 0, false)), ((13, 190), (294, 1, 1, false)), ((13, 191), (166, 0, 1, false)), ((13, 194), (295, 0, 1, false)), ((13, 195), (346, 3, 0, false)), ((13, 197), (296, 1, 1, false)), ((13, 198), (347, 3, 0, false)), ((13, 200), (297, 1, 1, false)), ((13, 201), (348, 3, 0, false)), ((13, 203), (298, 1, 1, false)), ((13, 204), (349, 3, 0, false)), ((13, 206), (299, 1, 1, false)), ((13, 207), (350, 3, 0, false)), ((13, 209), (300, 1, 1, false)), ((13, 210), (167, 0, 1, false)), ((13, 213), (301, 0, 1, false)), ((13, 214), (351, 4, 0, false)), ((13, 216), (302, 2, 1, false)), ((13, 217), (352, 4, 0, false)), ((13, 219), (305, 2, 1, false)), ((13, 220), (353, 5, 0, false)), ((13, 223), (308, 3, 1, false)), ((13, 224), (354, 4, 0, false)), ((13, 226), (312, 2, 1, false)), ((13, 227), (355, 5, 0, false)), ((13, 229), (313, 3, 1, false)), ((13, 230), (356, 4, 0, false)), ((13, 232), (314, 2, 1, false)), ((13, 233), (357, 6, 0, false)), ((13, 236), (315, 4, 1, false)), ((13, 237), (358, 5, 0, false)), ((13, 239), (318, 3, 1, false)), ((13, 240), (359, 7, 0, false)), ((13, 243), (319, 5, 1, false)), ((13, 244), (360, 8, 0, false)), ((13, 246), (323, 6, 1, false)), ((13, 247), (168, 0, 1, false)), ((13, 250), (324, 0, 1, false)), ((13, 251), (169, 0, 1, false)), ((13, 254), (327, 0, 1, false)), ((13, 255), (170, 1, 1, false)), ((13, 258), (328, 1, 1, false)), ((13, 259), (171, 1, 1, false)), ((13, 262), (329, 1, 1, false)), ((16, 335), (367, 0, 1, false)), ((16, 492), (369, 0, 1, false)), ((16, 495), (370, 2, 0, false)), ((16, 1059), (372, 3, 0, false)), ((17, 9), (371, 2, 0, false))]
/-- classes by class and entry: class, fields -/
def pm_cll : List ((Nat × Nat) × (Nat × Nat)) := [((3, 9), (6, 1)), ((3, 18), (2, 3)), ((3, 38), (5, 11)), ((11, 7), (8, 9)), ((11, 16), (3, 7)), ((11, 23), (0, 5)), ((11, 30), (2, 3)), ((11, 37), (7, 8)), ((11, 44), (9, 7)), ((11, 51), (4, 13)), ((11, 58), (10, 3)), ((11, 65), (5, 11)), ((11, 72), (1, 3)), ((13, 8), (11, 14)), ((13, 115), (12, 59))]
/-- constants by class and entry -/
def pm_ctl : List ((Nat × Nat) × Value) := [((2, 97), .retAddr 14), ((2, 103), .retAddr 16), ((2, 105), .retAddr 18), ((2, 107), .retAddr 20), ((2, 109), .retAddr 22), ((2, 111), .retAddr 24), ((2, 113), .retAddr 26), ((2, 115), .retAddr 28), ((2, 117), .retAddr 30), ((2, 119), .retAddr 32), ((4, 147), .long 16777215), ((5, 93), .retAddr 4), ((5, 99), .retAddr 6), ((5, 101), .retAddr 8), ((5, 103), .retAddr 10), ((5, 104), .retAddr 12), ((7, 95), .retAddr 34), ((7, 101), .retAddr 36), ((7, 103), .retAddr 38), ((7, 105), .retAddr 40), ((7, 107), .retAddr 42), ((7, 109), .retAddr 44), ((7, 111), .retAddr 46), ((7, 113), .retAddr 32), ((7, 115), .retAddr 48), ((8, 63), .int 1000000), ((10, 37), .int 1103515245), ((11, 327), .long 16), ((11, 366), .retAddr 2), ((11, 376), .retAddr 50), ((11, 382), .retAddr 52), ((12, 194), .retAddr 4), ((12, 203), .retAddr 6), ((12, 204), .retAddr 10), ((12, 206), .retAddr 12), ((12, 218), .retAddr 8), ((12, 264), .retAddr 18), ((12, 266), .retAddr 20), ((12, 268), .retAddr 22), ((12, 270), .retAddr 24), ((12, 272), .retAddr 26), ((12, 274), .retAddr 28), ((12, 276), .retAddr 30), ((12, 278), .retAddr 32), ((12, 280), .retAddr 14), ((12, 285), .retAddr 16), ((12, 304), .retAddr 34), ((12, 310), .retAddr 36), ((12, 315), .retAddr 38), ((12, 317), .retAddr 40), ((12, 319), .retAddr 42), ((12, 321), .retAddr 44), ((12, 323), .retAddr 46), ((12, 325), .retAddr 48), ((12, 448), .long 16), ((12, 453), .long 1000000000), ((12, 455), .long 1000), ((12, 467), .int 1103515245), ((15, 265), .int 1431655765), ((15, 266), .int 858993459), ((15, 267), .int 252645135)]
def pm_oil : List (Nat × Nat) := [(0, 3), (1, 3), (2, 3), (3, 3), (4, 3), (5, 3), (6, 5), (7, 3), (8, 3), (9, 3), (10, 3), (11, 1), (12, 11)]
def pm_acl : List (Nat × Nat) := [(11, 390)]
def pm_tx : List (List Nat) := [[97, 110, 32, 97, 114, 103, 117, 109, 101, 110, 116, 32, 105, 115, 32, 111, 117, 116, 115, 105, 100, 101, 32, 105, 116, 115, 32, 114, 97, 110, 103, 101], [115, 105, 103, 110, 101, 114], [116, 97, 107, 101, 114], [107, 105, 110, 115, 109, 97, 110], [115, 116, 111, 114, 101, 115], [118, 111, 121, 97, 103, 101], [108, 101, 97, 115, 116], [109, 111, 115, 116], [121, 101, 97, 114, 115], [97, 100, 100, 101, 100], [116, 114, 97, 100, 101], [104, 117, 110, 103, 114, 121], [107, 105, 110], [108, 111, 115, 116], [112, 108, 97, 99, 101, 100], [119, 101, 101, 107], [108, 97, 110, 100], [112, 108, 97, 99, 101], [97, 100, 100], [115, 116, 114, 105, 107, 101], [108, 111, 115, 101], [99, 111, 112, 121], [112, 97, 121], [97, 103, 97, 105, 110], [110, 111, 32, 115, 117, 99, 104, 32, 115, 105, 103, 110, 101, 114], [110, 111, 32, 115, 117, 99, 104, 32, 116, 97, 107, 101, 114]]
/-- the throws: method, place; kind, entries of the exception, of its text, of its constructor -/
def pm_twl : List ((Nat × Nat) × Nat × Nat × Nat × Nat) := [((174, 14), 2, 364, 366, 368), ((180, 24), 1, 374, 376, 378), ((182, 24), 1, 374, 382, 378)]
def pm_fkl : List (List Nat) := [[2, 2, 2, 0, 0], [2, 2, 0], [2, 2, 0], [2, 2, 2, 2, 2, 2, 2], [2, 2, 2, 2, 2, 2, 2, 0, 0, 0, 0, 0, 0], [2, 2, 2, 2, 2, 2, 2, 0, 0, 0, 0], [2], [2, 2, 2, 2, 0, 0, 0, 0], [2, 0, 0, 0, 0, 0, 0, 0, 0], [2, 0, 0, 0, 0, 0, 0], [0, 0, 0], [2, 2, 2, 2, 2, 2, 2, 2, 2, 2, 2, 0, 0, 0], [0, 2, 0, 0, 0, 0, 0, 0, 0, 2, 2, 2, 2, 2, 0, 0, 0, 0, 0, 0, 0, 2, 2, 2, 2, 2, 2, 0, 2, 2, 2, 0, 0, 0, 0, 0, 0, 2, 2, 2, 0, 0, 0, 2, 2, 0, 2, 2, 2, 2, 0, 2, 2, 2, 2, 0, 0, 2, 0]]
