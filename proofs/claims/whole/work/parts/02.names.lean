def RX0 : String := "PassagePapers$Archive"
def TX0 : u_T := fun k => match k with
  | 0 => ("PassagePapers$Archive", "workRows", "[[I", true)
  | 1 => ("PassagePapers$Archive", "imageRows", "[[I", true)
  | 2 => ("PassagePapers$Archive", "worksOfImage", "[I", true)
  | 3 => ("PassagePapers$Archive", "works", "I", false)
  | _ => ("PassagePapers$Archive", "images", "I", false)
def tyX0 : Nat → FieldType := fun k => match k with
  | 0 => .array (.array .int)
  | 1 => .array (.array .int)
  | 2 => .array .int
  | 3 => .int
  | _ => .int
abbrev wsX00 : List Cond := u_ws RX0 TX0 5
theorem nmX0 : ∀ a, a < 5 → ∀ b, b < 5 → a ≠ b → (TX0 a).2.1 ≠ (TX0 b).2.1 := by decide +kernel
theorem tyX0_ok : ∀ k, k < 5 → parseFieldDescriptor (TX0 k).2.2.1 = some (tyX0 k) := by decide +kernel
def RX1 : String := "PassagePapers$Book"
def TX1 : u_T := fun k => match k with
  | 0 => ("PassagePapers$Book", "weeks", "[I", true)
  | 1 => ("PassagePapers$Book", "more", "[I", true)
  | _ => ("PassagePapers$Book", "lines", "I", false)
def tyX1 : Nat → FieldType := fun k => match k with
  | 0 => .array .int
  | 1 => .array .int
  | _ => .int
abbrev wsX10 : List Cond := u_ws RX1 TX1 3
theorem nmX1 : ∀ a, a < 3 → ∀ b, b < 3 → a ≠ b → (TX1 a).2.1 ≠ (TX1 b).2.1 := by decide +kernel
theorem tyX1_ok : ∀ k, k < 3 → parseFieldDescriptor (TX1 k).2.2.1 = some (tyX1 k) := by decide +kernel
def RX2 : String := "PassagePapers$Law"
def TX2 : u_T := fun k => match k with
  | 0 => ("PassagePapers$Law", "codes", "[I", true)
  | 1 => ("PassagePapers$Law", "stack", "[I", true)
  | _ => ("PassagePapers$Law", "length", "I", false)
def tyX2 : Nat → FieldType := fun k => match k with
  | 0 => .array .int
  | 1 => .array .int
  | _ => .int
abbrev wsX20 : List Cond := u_ws RX2 TX2 3
theorem nmX2 : ∀ a, a < 3 → ∀ b, b < 3 → a ≠ b → (TX2 a).2.1 ≠ (TX2 b).2.1 := by decide +kernel
theorem tyX2_ok : ∀ k, k < 3 → parseFieldDescriptor (TX2 k).2.2.1 = some (tyX2 k) := by decide +kernel
def RX3 : String := "PassagePapers$Ledger"
def TX3 : u_T := fun k => match k with
  | 0 => ("PassagePapers$Ledger", "state", "LPassagePapers$State;", true)
  | 1 => ("PassagePapers$Ledger", "courtLaw", "LPassagePapers$Law;", true)
  | 2 => ("PassagePapers$Ledger", "takersLaw", "LPassagePapers$Law;", true)
  | 3 => ("PassagePapers$Ledger", "paper", "[I", true)
  | 4 => ("PassagePapers$Ledger", "heads", "[I", true)
  | 5 => ("PassagePapers$Ledger", "fields", "[I", true)
  | _ => ("PassagePapers$Ledger", "register", "LPassagePapers$Register;", false)
def tyX3 : Nat → FieldType := fun k => match k with
  | 0 => .object "PassagePapers$State"
  | 1 => .object "PassagePapers$Law"
  | 2 => .object "PassagePapers$Law"
  | 3 => .array .int
  | 4 => .array .int
  | 5 => .array .int
  | _ => .object "PassagePapers$Register"
abbrev wsX30 : List Cond := u_ws RX3 TX3 7
theorem nmX3 : ∀ a, a < 7 → ∀ b, b < 7 → a ≠ b → (TX3 a).2.1 ≠ (TX3 b).2.1 := by decide +kernel
theorem tyX3_ok : ∀ k, k < 7 → parseFieldDescriptor (TX3 k).2.2.1 = some (tyX3 k) := by decide +kernel
def RX4 : String := "PassagePapers$Placing"
def TX4 : u_T := fun k => match k with
  | 0 => ("PassagePapers$Placing", "scores", "[J", true)
  | 1 => ("PassagePapers$Placing", "unitOf", "[I", true)
  | 2 => ("PassagePapers$Placing", "sizes", "[I", true)
  | 3 => ("PassagePapers$Placing", "given", "[I", true)
  | 4 => ("PassagePapers$Placing", "rooms", "[I", true)
  | 5 => ("PassagePapers$Placing", "left", "[I", true)
  | 6 => ("PassagePapers$Placing", "weights", "[I", true)
  | 7 => ("PassagePapers$Placing", "units", "I", false)
  | 8 => ("PassagePapers$Placing", "takers", "I", false)
  | 9 => ("PassagePapers$Placing", "used", "I", false)
  | 10 => ("PassagePapers$Placing", "total", "I", false)
  | 11 => ("PassagePapers$Placing", "placed", "I", false)
  | _ => ("PassagePapers$Placing", "way", "I", false)
def tyX4 : Nat → FieldType := fun k => match k with
  | 0 => .array .long
  | 1 => .array .int
  | 2 => .array .int
  | 3 => .array .int
  | 4 => .array .int
  | 5 => .array .int
  | 6 => .array .int
  | 7 => .int
  | 8 => .int
  | 9 => .int
  | 10 => .int
  | 11 => .int
  | _ => .int
abbrev wsX40 : List Cond := u_ws RX4 TX4 13
theorem nmX4 : ∀ a, a < 13 → ∀ b, b < 13 → a ≠ b → (TX4 a).2.1 ≠ (TX4 b).2.1 := by decide +kernel
theorem tyX4_ok : ∀ k, k < 13 → parseFieldDescriptor (TX4 k).2.2.1 = some (tyX4 k) := by decide +kernel
def RX5 : String := "PassagePapers$Register"
def TX5 : u_T := fun k => match k with
  | 0 => ("PassagePapers$Register", "years", "[I", true)
  | 1 => ("PassagePapers$Register", "trades", "[I", true)
  | 2 => ("PassagePapers$Register", "kindred", "[I", true)
  | 3 => ("PassagePapers$Register", "coins", "[I", true)
  | 4 => ("PassagePapers$Register", "wanted", "[I", true)
  | 5 => ("PassagePapers$Register", "prices", "[I", true)
  | 6 => ("PassagePapers$Register", "rooms", "[I", true)
  | 7 => ("PassagePapers$Register", "signers", "I", false)
  | 8 => ("PassagePapers$Register", "takers", "I", false)
  | 9 => ("PassagePapers$Register", "stores", "I", false)
  | _ => ("PassagePapers$Register", "weeks", "I", false)
def tyX5 : Nat → FieldType := fun k => match k with
  | 0 => .array .int
  | 1 => .array .int
  | 2 => .array .int
  | 3 => .array .int
  | 4 => .array .int
  | 5 => .array .int
  | 6 => .array .int
  | 7 => .int
  | 8 => .int
  | 9 => .int
  | _ => .int
abbrev wsX50 : List Cond := u_ws RX5 TX5 11
theorem nmX5 : ∀ a, a < 11 → ∀ b, b < 11 → a ≠ b → (TX5 a).2.1 ≠ (TX5 b).2.1 := by decide +kernel
theorem tyX5_ok : ∀ k, k < 11 → parseFieldDescriptor (TX5 k).2.2.1 = some (tyX5 k) := by decide +kernel
def RX6 : String := "PassagePapers$State"
def TX6 : u_T := fun k => match k with
  | _ => ("PassagePapers$State", "row", "[I", true)
def tyX6 : Nat → FieldType := fun k => match k with
  | _ => .array .int
abbrev wsX60 : List Cond := u_ws RX6 TX6 1
theorem nmX6 : ∀ a, a < 1 → ∀ b, b < 1 → a ≠ b → (TX6 a).2.1 ≠ (TX6 b).2.1 := by decide +kernel
theorem tyX6_ok : ∀ k, k < 1 → parseFieldDescriptor (TX6 k).2.2.1 = some (tyX6 k) := by decide +kernel
def RX7 : String := "PassagePapers$Steps"
def TX7 : u_T := fun k => match k with
  | 0 => ("PassagePapers$Steps", "kinds", "[I", true)
  | 1 => ("PassagePapers$Steps", "signers", "[I", true)
  | 2 => ("PassagePapers$Steps", "numbers", "[I", true)
  | 3 => ("PassagePapers$Steps", "behind", "[I", true)
  | 4 => ("PassagePapers$Steps", "length", "I", false)
  | 5 => ("PassagePapers$Steps", "begun", "I", false)
  | 6 => ("PassagePapers$Steps", "done", "I", false)
  | _ => ("PassagePapers$Steps", "refused", "I", false)
def tyX7 : Nat → FieldType := fun k => match k with
  | 0 => .array .int
  | 1 => .array .int
  | 2 => .array .int
  | 3 => .array .int
  | 4 => .int
  | 5 => .int
  | 6 => .int
  | _ => .int
abbrev wsX70 : List Cond := u_ws RX7 TX7 8
theorem nmX7 : ∀ a, a < 8 → ∀ b, b < 8 → a ≠ b → (TX7 a).2.1 ≠ (TX7 b).2.1 := by decide +kernel
theorem tyX7_ok : ∀ k, k < 8 → parseFieldDescriptor (TX7 k).2.2.1 = some (tyX7 k) := by decide +kernel
def RX8 : String := "PassagePapers$Tape"
def TX8 : u_T := fun k => match k with
  | 0 => ("PassagePapers$Tape", "bytes", "[I", true)
  | 1 => ("PassagePapers$Tape", "length", "I", false)
  | 2 => ("PassagePapers$Tape", "limit", "I", false)
  | 3 => ("PassagePapers$Tape", "kind", "I", false)
  | 4 => ("PassagePapers$Tape", "start", "I", false)
  | 5 => ("PassagePapers$Tape", "stop", "I", false)
  | 6 => ("PassagePapers$Tape", "value", "I", false)
  | 7 => ("PassagePapers$Tape", "fault", "I", false)
  | _ => ("PassagePapers$Tape", "faultPlace", "I", false)
def tyX8 : Nat → FieldType := fun k => match k with
  | 0 => .array .int
  | 1 => .int
  | 2 => .int
  | 3 => .int
  | 4 => .int
  | 5 => .int
  | 6 => .int
  | 7 => .int
  | _ => .int
abbrev wsX80 : List Cond := u_ws RX8 TX8 9
theorem nmX8 : ∀ a, a < 9 → ∀ b, b < 9 → a ≠ b → (TX8 a).2.1 ≠ (TX8 b).2.1 := by decide +kernel
theorem tyX8_ok : ∀ k, k < 9 → parseFieldDescriptor (TX8 k).2.2.1 = some (tyX8 k) := by decide +kernel
def RX9 : String := "PassagePapers$Terms"
def TX9 : u_T := fun k => match k with
  | 0 => ("PassagePapers$Terms", "byAsks", "[I", true)
  | 1 => ("PassagePapers$Terms", "many", "I", false)
  | 2 => ("PassagePapers$Terms", "first", "I", false)
  | 3 => ("PassagePapers$Terms", "least", "I", false)
  | 4 => ("PassagePapers$Terms", "greatest", "I", false)
  | 5 => ("PassagePapers$Terms", "week", "I", false)
  | _ => ("PassagePapers$Terms", "leftAtWorst", "I", false)
def tyX9 : Nat → FieldType := fun k => match k with
  | 0 => .array .int
  | 1 => .int
  | 2 => .int
  | 3 => .int
  | 4 => .int
  | 5 => .int
  | _ => .int
abbrev wsX90 : List Cond := u_ws RX9 TX9 7
theorem nmX9 : ∀ a, a < 7 → ∀ b, b < 7 → a ≠ b → (TX9 a).2.1 ≠ (TX9 b).2.1 := by decide +kernel
theorem tyX9_ok : ∀ k, k < 7 → parseFieldDescriptor (TX9 k).2.2.1 = some (tyX9 k) := by decide +kernel
def RX10 : String := "PassagePapers$Voyage"
def TX10 : u_T := fun k => match k with
  | 0 => ("PassagePapers$Voyage", "hungry", "I", false)
  | 1 => ("PassagePapers$Voyage", "storesLeft", "I", false)
  | _ => ("PassagePapers$Voyage", "spoiled", "I", false)
def tyX10 : Nat → FieldType := fun k => match k with
  | 0 => .int
  | 1 => .int
  | _ => .int
abbrev wsX100 : List Cond := u_ws RX10 TX10 3
theorem nmX10 : ∀ a, a < 3 → ∀ b, b < 3 → a ≠ b → (TX10 a).2.1 ≠ (TX10 b).2.1 := by decide +kernel
theorem tyX10_ok : ∀ k, k < 3 → parseFieldDescriptor (TX10 k).2.2.1 = some (tyX10 k) := by decide +kernel
def RX11 : String := "PassagePapers"
def TX11 : u_T := fun k => match k with
  | 0 => ("PassagePapers", "tape", "LPassagePapers$Tape;", true)
  | 1 => ("PassagePapers", "ledger", "LPassagePapers$Ledger;", true)
  | 2 => ("PassagePapers", "archive", "LPassagePapers$Archive;", true)
  | 3 => ("PassagePapers", "lawDraft", "LPassagePapers$Law;", true)
  | 4 => ("PassagePapers", "steps", "LPassagePapers$Steps;", true)
  | 5 => ("PassagePapers", "found", "LPassagePapers$Terms;", true)
  | 6 => ("PassagePapers", "placing", "LPassagePapers$Placing;", true)
  | 7 => ("PassagePapers", "sailed", "LPassagePapers$Voyage;", true)
  | 8 => ("PassagePapers", "registerDraft", "LPassagePapers$Register;", false)
  | 9 => ("PassagePapers", "said", "LPassagePapers$Book;", false)
  | 10 => ("PassagePapers", "bookDraft", "LPassagePapers$Book;", false)
  | 11 => ("PassagePapers", "refusedSteps", "I", false)
  | 12 => ("PassagePapers", "noSuchCalls", "I", false)
  | _ => ("PassagePapers", "illegalCalls", "I", false)
def tyX11 : Nat → FieldType := fun k => match k with
  | 0 => .object "PassagePapers$Tape"
  | 1 => .object "PassagePapers$Ledger"
  | 2 => .object "PassagePapers$Archive"
  | 3 => .object "PassagePapers$Law"
  | 4 => .object "PassagePapers$Steps"
  | 5 => .object "PassagePapers$Terms"
  | 6 => .object "PassagePapers$Placing"
  | 7 => .object "PassagePapers$Voyage"
  | 8 => .object "PassagePapers$Register"
  | 9 => .object "PassagePapers$Book"
  | 10 => .object "PassagePapers$Book"
  | 11 => .int
  | 12 => .int
  | _ => .int
abbrev wsX110 : List Cond := u_ws RX11 TX11 14
theorem nmX11 : ∀ a, a < 14 → ∀ b, b < 14 → a ≠ b → (TX11 a).2.1 ≠ (TX11 b).2.1 := by decide +kernel
theorem tyX11_ok : ∀ k, k < 14 → parseFieldDescriptor (TX11 k).2.2.1 = some (tyX11 k) := by decide +kernel
def RX12 : String := "PassagePapersModel"
def TX12 : u_T := fun k => match k with
  | 0 => ("PassagePapersModel", "thrown", "I", false)
  | 1 => ("PassagePapersModel", "refused", "[I", true)
  | 2 => ("PassagePapersModel", "taped", "I", false)
  | 3 => ("PassagePapersModel", "size", "I", false)
  | 4 => ("PassagePapersModel", "at", "I", false)
  | 5 => ("PassagePapersModel", "bad", "I", false)
  | 6 => ("PassagePapersModel", "badKind", "I", false)
  | 7 => ("PassagePapersModel", "opens", "I", false)
  | 8 => ("PassagePapersModel", "faultAt", "I", false)
  | 9 => ("PassagePapersModel", "tape", "[I", true)
  | 10 => ("PassagePapersModel", "newSigner", "[I", true)
  | 11 => ("PassagePapersModel", "newTaker", "[I", true)
  | 12 => ("PassagePapersModel", "signer", "[I", true)
  | 13 => ("PassagePapersModel", "taker", "[I", true)
  | 14 => ("PassagePapersModel", "newSigners", "I", false)
  | 15 => ("PassagePapersModel", "newTakers", "I", false)
  | 16 => ("PassagePapersModel", "newStores", "I", false)
  | 17 => ("PassagePapersModel", "newVoyage", "I", false)
  | 18 => ("PassagePapersModel", "signers", "I", false)
  | 19 => ("PassagePapersModel", "takers", "I", false)
  | 20 => ("PassagePapersModel", "voyage", "I", false)
  | 21 => ("PassagePapersModel", "newCode", "[I", true)
  | 22 => ("PassagePapersModel", "newOf", "[I", true)
  | 23 => ("PassagePapersModel", "code", "[I", true)
  | 24 => ("PassagePapersModel", "ofCode", "[I", true)
  | 25 => ("PassagePapersModel", "codes", "[I", true)
  | 26 => ("PassagePapersModel", "stack", "[I", true)
  | 27 => ("PassagePapersModel", "newCodes", "I", false)
  | 28 => ("PassagePapersModel", "facts", "[I", true)
  | 29 => ("PassagePapersModel", "newStep", "[I", true)
  | 30 => ("PassagePapersModel", "step", "[I", true)
  | 31 => ("PassagePapersModel", "newSteps", "I", false)
  | 32 => ("PassagePapersModel", "works", "I", false)
  | 33 => ("PassagePapersModel", "refusedSteps", "I", false)
  | 34 => ("PassagePapersModel", "begun", "I", false)
  | 35 => ("PassagePapersModel", "done", "I", false)
  | 36 => ("PassagePapersModel", "refusedNow", "I", false)
  | 37 => ("PassagePapersModel", "now", "[I", true)
  | 38 => ("PassagePapersModel", "s", "[I", true)
  | 39 => ("PassagePapersModel", "past", "[I", true)
  | 40 => ("PassagePapersModel", "ruling", "I", false)
  | 41 => ("PassagePapersModel", "hungers", "I", false)
  | 42 => ("PassagePapersModel", "servedNow", "I", false)
  | 43 => ("PassagePapersModel", "newBook", "[I", true)
  | 44 => ("PassagePapersModel", "book", "[I", true)
  | 45 => ("PassagePapersModel", "books", "I", false)
  | 46 => ("PassagePapersModel", "giving", "[I", true)
  | 47 => ("PassagePapersModel", "room", "[I", true)
  | 48 => ("PassagePapersModel", "way", "[I", true)
  | 49 => ("PassagePapersModel", "bestWay", "[I", true)
  | 50 => ("PassagePapersModel", "bestGives", "I", false)
  | 51 => ("PassagePapersModel", "isTerm", "[Z", true)
  | 52 => ("PassagePapersModel", "asksTerm", "[I", true)
  | 53 => ("PassagePapersModel", "saidBy", "[I", true)
  | 54 => ("PassagePapersModel", "fields", "[I", true)
  | 55 => ("PassagePapersModel", "seedNow", "I", false)
  | 56 => ("PassagePapersModel", "spoils", "I", false)
  | 57 => ("PassagePapersModel", "image", "[I", true)
  | _ => ("PassagePapersModel", "images", "I", false)
def tyX12 : Nat → FieldType := fun k => match k with
  | 0 => .int
  | 1 => .array .int
  | 2 => .int
  | 3 => .int
  | 4 => .int
  | 5 => .int
  | 6 => .int
  | 7 => .int
  | 8 => .int
  | 9 => .array .int
  | 10 => .array .int
  | 11 => .array .int
  | 12 => .array .int
  | 13 => .array .int
  | 14 => .int
  | 15 => .int
  | 16 => .int
  | 17 => .int
  | 18 => .int
  | 19 => .int
  | 20 => .int
  | 21 => .array .int
  | 22 => .array .int
  | 23 => .array .int
  | 24 => .array .int
  | 25 => .array .int
  | 26 => .array .int
  | 27 => .int
  | 28 => .array .int
  | 29 => .array .int
  | 30 => .array .int
  | 31 => .int
  | 32 => .int
  | 33 => .int
  | 34 => .int
  | 35 => .int
  | 36 => .int
  | 37 => .array .int
  | 38 => .array .int
  | 39 => .array .int
  | 40 => .int
  | 41 => .int
  | 42 => .int
  | 43 => .array .int
  | 44 => .array .int
  | 45 => .int
  | 46 => .array .int
  | 47 => .array .int
  | 48 => .array .int
  | 49 => .array .int
  | 50 => .int
  | 51 => .array .boolean
  | 52 => .array .int
  | 53 => .array .int
  | 54 => .array .int
  | 55 => .int
  | 56 => .int
  | 57 => .array .int
  | _ => .int
abbrev wsX120 : List Cond := u_ws RX12 TX12 59
theorem nmX12 : ∀ a, a < 59 → ∀ b, b < 59 → a ≠ b → (TX12 a).2.1 ≠ (TX12 b).2.1 := by decide +kernel
theorem tyX12_ok : ∀ k, k < 59 → parseFieldDescriptor (TX12 k).2.2.1 = some (tyX12 k) := by decide +kernel
abbrev vwCl : List vw_C := [(RX0, TX0, 5), (RX1, TX1, 3), (RX2, TX2, 3), (RX3, TX3, 7), (RX4, TX4, 13), (RX5, TX5, 11), (RX6, TX6, 1), (RX7, TX7, 8), (RX8, TX8, 9), (RX9, TX9, 7), (RX10, TX10, 3), (RX11, TX11, 14), (RX12, TX12, 59)]
def pm_cn : List String := ["PassagePapers$Archive", "PassagePapers$Book", "PassagePapers$Law", "PassagePapers$Ledger", "PassagePapers$Placing", "PassagePapers$Register", "PassagePapers$State", "PassagePapers$Steps", "PassagePapers$Tape", "PassagePapers$Terms", "PassagePapers$Voyage", "PassagePapers", "PassagePapersModel", "PassagePapersLaw", "java/lang/Math", "java/lang/Integer", "java/lang/String", "java/lang/StringLatin1", "jdk/internal/util/Preconditions"]
def pm_prog_0 : List (Nat × MethodName × ByteArray × Nat × Option FieldType × List (Nat × Nat × Nat × Nat)) := [
  (0, ⟨"PassagePapers$Archive", "<init>", "()V"⟩, prog_2_method_1_code, 1, none, []),
  (0, ⟨"PassagePapers$Archive", "works", "()I"⟩, prog_2_method_2_code, 1, (some .int), []),
  (0, ⟨"PassagePapers$Archive", "takeBackWork", "(LPassagePapers$State;)V"⟩, prog_2_method_6_code, 2, none, []),
  (0, ⟨"PassagePapers$Archive", "images", "()I"⟩, prog_2_method_3_code, 1, (some .int), []),
  (0, ⟨"PassagePapers$Archive", "keepImage", "(LPassagePapers$State;)V"⟩, prog_2_method_7_code, 4, none, []),
  (0, ⟨"PassagePapers$Archive", "bringBackImage", "(LPassagePapers$State;)V"⟩, prog_2_method_8_code, 4, none, []),
  (0, ⟨"PassagePapers$Archive", "clear", "()V"⟩, prog_2_method_4_code, 1, none, []),
  (0, ⟨"PassagePapers$Archive", "keepWork", "(LPassagePapers$State;)V"⟩, prog_2_method_5_code, 2, none, []),
  (1, ⟨"PassagePapers$Book", "<init>", "()V"⟩, prog_3_method_1_code, 1, none, []),
  (1, ⟨"PassagePapers$Book", "clear", "()V"⟩, prog_3_method_3_code, 1, none, []),
  (1, ⟨"PassagePapers$Book", "read", "(LPassagePapers$Tape;)V"⟩, prog_3_method_4_code, 3, none, []),
  (1, ⟨"PassagePapers$Book", "readLine", "(LPassagePapers$Tape;)V"⟩, prog_3_method_5_code, 2, none, []),
  (1, ⟨"PassagePapers$Book", "hasLine", "(I)Z"⟩, prog_3_method_6_code, 3, (some .boolean), []),
  (1, ⟨"PassagePapers$Book", "lines", "()I"⟩, prog_3_method_2_code, 1, (some .int), []),
  (1, ⟨"PassagePapers$Book", "isRightFor", "(I)Z"⟩, prog_3_method_7_code, 3, (some .boolean), []),
  (2, ⟨"PassagePapers$Law", "<init>", "()V"⟩, prog_4_method_1_code, 1, none, []),
  (2, ⟨"PassagePapers$Law", "setPlain", "()V"⟩, prog_4_method_2_code, 1, none, []),
  (2, ⟨"PassagePapers$Law", "emit", "(I)V"⟩, prog_4_method_7_code, 2, none, []),
  (2, ⟨"PassagePapers$Law", "asksFor", "([I)I"⟩, prog_4_method_4_code, 5, (some .int), []),
  (2, ⟨"PassagePapers$Law", "joined", "(III)I"⟩, prog_4_method_5_code, 3, (some .int), [])]
def pm_prog_1 : List (Nat × MethodName × ByteArray × Nat × Option FieldType × List (Nat × Nat × Nat × Nat)) := [
  (2, ⟨"PassagePapers$Law", "read", "(LPassagePapers$Tape;)V"⟩, prog_4_method_6_code, 2, none, []),
  (2, ⟨"PassagePapers$Law", "readSum", "(LPassagePapers$Tape;I)V"⟩, prog_4_method_8_code, 5, none, []),
  (2, ⟨"PassagePapers$Law", "readProduct", "(LPassagePapers$Tape;I)V"⟩, prog_4_method_9_code, 5, none, []),
  (2, ⟨"PassagePapers$Law", "readUnit", "(LPassagePapers$Tape;I)V"⟩, prog_4_method_10_code, 5, none, []),
  (2, ⟨"PassagePapers$Law", "pairOf", "(LPassagePapers$Tape;)I"⟩, prog_4_method_11_code, 1, (some .int), []),
  (2, ⟨"PassagePapers$Law", "nameOf", "(LPassagePapers$Tape;)I"⟩, prog_4_method_12_code, 1, (some .int), []),
  (2, ⟨"PassagePapers$Law", "takeFrom", "(LPassagePapers$Law;)V"⟩, prog_4_method_3_code, 2, none, []),
  (3, ⟨"PassagePapers$Ledger", "<init>", "()V"⟩, prog_5_method_1_code, 1, none, []),
  (3, ⟨"PassagePapers$Ledger", "state", "()LPassagePapers$State;"⟩, prog_5_method_4_code, 1, (some (.object "PassagePapers$State")), []),
  (3, ⟨"PassagePapers$Ledger", "heldBits", "()I"⟩, prog_5_method_15_code, 3, (some .int), []),
  (3, ⟨"PassagePapers$Ledger", "isAt", "(II)Z"⟩, prog_5_method_6_code, 3, (some .boolean), []),
  (3, ⟨"PassagePapers$Ledger", "asksNow", "(II)I"⟩, prog_5_method_11_code, 3, (some .int), []),
  (3, ⟨"PassagePapers$Ledger", "writePaper", "(I)V"⟩, prog_5_method_10_code, 3, none, []),
  (3, ⟨"PassagePapers$Ledger", "lawOf", "(I)LPassagePapers$Law;"⟩, prog_5_method_5_code, 2, (some (.object "PassagePapers$Law")), []),
  (3, ⟨"PassagePapers$Ledger", "partedPairs", "()I"⟩, prog_5_method_20_code, 4, (some .int), []),
  (3, ⟨"PassagePapers$Ledger", "areParted", "(II)Z"⟩, prog_5_method_21_code, 3, (some .boolean), []),
  (3, ⟨"PassagePapers$Ledger", "countOf", "(I)I"⟩, prog_5_method_7_code, 4, (some .int), []),
  (3, ⟨"PassagePapers$Ledger", "current", "()LPassagePapers$Register;"⟩, prog_5_method_3_code, 1, (some (.object "PassagePapers$Register")), []),
  (3, ⟨"PassagePapers$Ledger", "open", "(LPassagePapers$Register;)V"⟩, prog_5_method_2_code, 2, none, []),
  (3, ⟨"PassagePapers$Ledger", "perform", "(III)Z"⟩, prog_5_method_26_code, 4, (some .boolean), [])]
def pm_prog_2 : List (Nat × MethodName × ByteArray × Nat × Option FieldType × List (Nat × Nat × Nat × Nat)) := [
  (3, ⟨"PassagePapers$Ledger", "landAll", "()Z"⟩, prog_5_method_27_code, 2, (some .boolean), []),
  (3, ⟨"PassagePapers$Ledger", "bind", "(II)Z"⟩, prog_5_method_28_code, 3, (some .boolean), []),
  (3, ⟨"PassagePapers$Ledger", "boundTo", "(I)I"⟩, prog_5_method_8_code, 4, (some .int), []),
  (3, ⟨"PassagePapers$Ledger", "addMonths", "(II)Z"⟩, prog_5_method_29_code, 4, (some .boolean), []),
  (3, ⟨"PassagePapers$Ledger", "strikeMonths", "(I)Z"⟩, prog_5_method_30_code, 2, (some .boolean), []),
  (3, ⟨"PassagePapers$Ledger", "setLost", "(II)Z"⟩, prog_5_method_31_code, 3, (some .boolean), []),
  (3, ⟨"PassagePapers$Ledger", "payFor", "(I)Z"⟩, prog_5_method_32_code, 3, (some .boolean), []),
  (3, ⟨"PassagePapers$Ledger", "owesNow", "(I)I"⟩, prog_5_method_14_code, 2, (some .int), []),
  (3, ⟨"PassagePapers$Ledger", "payable", "(II)Z"⟩, prog_5_method_23_code, 3, (some .boolean), []),
  (3, ⟨"PassagePapers$Ledger", "release", "(I)V"⟩, prog_5_method_35_code, 2, none, []),
  (3, ⟨"PassagePapers$Ledger", "passWeek", "()Z"⟩, prog_5_method_33_code, 2, (some .boolean), []),
  (3, ⟨"PassagePapers$Ledger", "eat", "(I)V"⟩, prog_5_method_34_code, 2, none, []),
  (3, ⟨"PassagePapers$Ledger", "asksOfNobody", "(IIIIII)I"⟩, prog_5_method_13_code, 7, (some .int), []),
  (3, ⟨"PassagePapers$Ledger", "weeksUntilFree", "(III)I"⟩, prog_5_method_16_code, 7, (some .int), []),
  (3, ⟨"PassagePapers$Ledger", "freeAfter", "(I)I"⟩, prog_5_method_17_code, 4, (some .int), []),
  (3, ⟨"PassagePapers$Ledger", "serviceWithin", "(I)I"⟩, prog_5_method_18_code, 5, (some .int), []),
  (3, ⟨"PassagePapers$Ledger", "givenFor", "(III)I"⟩, prog_5_method_19_code, 5, (some .int), []),
  (3, ⟨"PassagePapers$Ledger", "roomLeft", "(I)I"⟩, prog_5_method_9_code, 2, (some .int), []),
  (3, ⟨"PassagePapers$Ledger", "fareNow", "(I)I"⟩, prog_5_method_22_code, 2, (some .int), []),
  (3, ⟨"PassagePapers$Ledger", "asksHad", "(II)I"⟩, prog_5_method_12_code, 3, (some .int), [])]
def pm_prog_3 : List (Nat × MethodName × ByteArray × Nat × Option FieldType × List (Nat × Nat × Nat × Nat)) := [
  (3, ⟨"PassagePapers$Ledger", "fieldsOf", "(II)I"⟩, prog_5_method_24_code, 5, (some .int), []),
  (3, ⟨"PassagePapers$Ledger", "nextForField", "()I"⟩, prog_5_method_25_code, 3, (some .int), []),
  (4, ⟨"PassagePapers$Placing", "<init>", "()V"⟩, prog_6_method_1_code, 1, none, []),
  (4, ⟨"PassagePapers$Placing", "find", "(LPassagePapers$Ledger;)V"⟩, prog_6_method_5_code, 5, none, []),
  (4, ⟨"PassagePapers$Placing", "gatherUnits", "(LPassagePapers$Ledger;)V"⟩, prog_6_method_6_code, 3, none, []),
  (4, ⟨"PassagePapers$Placing", "join", "(LPassagePapers$Ledger;I)V"⟩, prog_6_method_7_code, 7, none, []),
  (4, ⟨"PassagePapers$Placing", "unitOfKin", "(LPassagePapers$Register;I)I"⟩, prog_6_method_8_code, 4, (some .int), []),
  (4, ⟨"PassagePapers$Placing", "gatherRooms", "(LPassagePapers$Ledger;)I"⟩, prog_6_method_9_code, 5, (some .int), []),
  (4, ⟨"PassagePapers$Placing", "bringIn", "(III)V"⟩, prog_6_method_10_code, 5, none, []),
  (4, ⟨"PassagePapers$Placing", "bestScore", "(II)J"⟩, prog_6_method_11_code, 13, (some .long), []),
  (4, ⟨"PassagePapers$Placing", "scoreAt", "(I)J"⟩, prog_6_method_12_code, 2, (some .long), []),
  (4, ⟨"PassagePapers$Placing", "shiftOf", "(I)I"⟩, prog_6_method_16_code, 1, (some .int), []),
  (4, ⟨"PassagePapers$Placing", "takeOneRoom", "()V"⟩, prog_6_method_13_code, 3, none, []),
  (4, ⟨"PassagePapers$Placing", "readWay", "(J)V"⟩, prog_6_method_14_code, 4, none, []),
  (4, ⟨"PassagePapers$Placing", "choiceOf", "(I)I"⟩, prog_6_method_15_code, 2, (some .int), []),
  (4, ⟨"PassagePapers$Placing", "total", "()I"⟩, prog_6_method_2_code, 1, (some .int), []),
  (4, ⟨"PassagePapers$Placing", "placed", "()I"⟩, prog_6_method_3_code, 1, (some .int), []),
  (4, ⟨"PassagePapers$Placing", "takerFor", "(I)I"⟩, prog_6_method_4_code, 2, (some .int), []),
  (5, ⟨"PassagePapers$Register", "<init>", "()V"⟩, prog_7_method_1_code, 1, none, []),
  (5, ⟨"PassagePapers$Register", "coinsFor", "(I)I"⟩, prog_7_method_11_code, 2, (some .int), [])]
def pm_prog_4 : List (Nat × MethodName × ByteArray × Nat × Option FieldType × List (Nat × Nat × Nat × Nat)) := [
  (5, ⟨"PassagePapers$Register", "storesTold", "()I"⟩, prog_7_method_4_code, 1, (some .int), []),
  (5, ⟨"PassagePapers$Register", "signers", "()I"⟩, prog_7_method_2_code, 1, (some .int), []),
  (5, ⟨"PassagePapers$Register", "yearsOf", "(I)I"⟩, prog_7_method_8_code, 2, (some .int), []),
  (5, ⟨"PassagePapers$Register", "tradeOf", "(I)I"⟩, prog_7_method_9_code, 2, (some .int), []),
  (5, ⟨"PassagePapers$Register", "kinBits", "(I)I"⟩, prog_7_method_15_code, 5, (some .int), []),
  (5, ⟨"PassagePapers$Register", "areKin", "(II)Z"⟩, prog_7_method_16_code, 3, (some .boolean), []),
  (5, ⟨"PassagePapers$Register", "read", "(LPassagePapers$Tape;)V"⟩, prog_7_method_17_code, 3, none, []),
  (5, ⟨"PassagePapers$Register", "readClause", "(LPassagePapers$Tape;Z)V"⟩, prog_7_method_18_code, 4, none, []),
  (5, ⟨"PassagePapers$Register", "clauseOf", "(LPassagePapers$Tape;)I"⟩, prog_7_method_19_code, 1, (some .int), []),
  (5, ⟨"PassagePapers$Register", "readSigner", "(LPassagePapers$Tape;)V"⟩, prog_7_method_20_code, 2, none, []),
  (5, ⟨"PassagePapers$Register", "readTaker", "(LPassagePapers$Tape;)V"⟩, prog_7_method_21_code, 2, none, []),
  (5, ⟨"PassagePapers$Register", "readKinsman", "(LPassagePapers$Tape;)V"⟩, prog_7_method_22_code, 3, none, []),
  (5, ⟨"PassagePapers$Register", "takers", "()I"⟩, prog_7_method_3_code, 1, (some .int), []),
  (5, ⟨"PassagePapers$Register", "weeksOfVoyage", "()I"⟩, prog_7_method_5_code, 1, (some .int), []),
  (5, ⟨"PassagePapers$Register", "roomOf", "(I)I"⟩, prog_7_method_14_code, 2, (some .int), []),
  (5, ⟨"PassagePapers$Register", "isSigner", "(I)Z"⟩, prog_7_method_6_code, 2, (some .boolean), []),
  (5, ⟨"PassagePapers$Register", "kindredOf", "(I)I"⟩, prog_7_method_10_code, 2, (some .int), []),
  (5, ⟨"PassagePapers$Register", "isTaker", "(I)Z"⟩, prog_7_method_7_code, 2, (some .boolean), []),
  (5, ⟨"PassagePapers$Register", "wantedBy", "(I)I"⟩, prog_7_method_12_code, 2, (some .int), []),
  (5, ⟨"PassagePapers$Register", "priceOf", "(I)I"⟩, prog_7_method_13_code, 2, (some .int), [])]
def pm_prog_5 : List (Nat × MethodName × ByteArray × Nat × Option FieldType × List (Nat × Nat × Nat × Nat)) := [
  (6, ⟨"PassagePapers$State", "<init>", "()V"⟩, prog_8_method_1_code, 1, none, []),
  (6, ⟨"PassagePapers$State", "start", "(LPassagePapers$Register;)V"⟩, prog_8_method_2_code, 4, none, []),
  (6, ⟨"PassagePapers$State", "set", "(III)V"⟩, prog_8_method_4_code, 4, none, []),
  (6, ⟨"PassagePapers$State", "setWeek", "(I)V"⟩, prog_8_method_6_code, 2, none, []),
  (6, ⟨"PassagePapers$State", "setStores", "(I)V"⟩, prog_8_method_8_code, 2, none, []),
  (6, ⟨"PassagePapers$State", "loadFrom", "([I)V"⟩, prog_8_method_10_code, 2, none, []),
  (6, ⟨"PassagePapers$State", "get", "(II)I"⟩, prog_8_method_3_code, 4, (some .int), []),
  (6, ⟨"PassagePapers$State", "week", "()I"⟩, prog_8_method_5_code, 1, (some .int), []),
  (6, ⟨"PassagePapers$State", "stores", "()I"⟩, prog_8_method_7_code, 1, (some .int), []),
  (6, ⟨"PassagePapers$State", "saveTo", "([I)V"⟩, prog_8_method_9_code, 2, none, []),
  (7, ⟨"PassagePapers$Steps", "<init>", "()V"⟩, prog_9_method_1_code, 1, none, []),
  (7, ⟨"PassagePapers$Steps", "read", "(LPassagePapers$Tape;LPassagePapers$Register;)V"⟩, prog_9_method_5_code, 4, none, []),
  (7, ⟨"PassagePapers$Steps", "readStep", "(LPassagePapers$Tape;LPassagePapers$Register;I)V"⟩, prog_9_method_6_code, 6, none, []),
  (7, ⟨"PassagePapers$Steps", "kindOf", "(LPassagePapers$Tape;)I"⟩, prog_9_method_9_code, 1, (some .int), []),
  (7, ⟨"PassagePapers$Steps", "readHeld", "(LPassagePapers$Tape;LPassagePapers$Register;I)V"⟩, prog_9_method_7_code, 5, none, []),
  (7, ⟨"PassagePapers$Steps", "readNumbers", "(LPassagePapers$Tape;LPassagePapers$Register;I)V"⟩, prog_9_method_8_code, 5, none, []),
  (7, ⟨"PassagePapers$Steps", "begin", "()V"⟩, prog_9_method_10_code, 1, none, []),
  (7, ⟨"PassagePapers$Steps", "length", "()I"⟩, prog_9_method_2_code, 1, (some .int), []),
  (7, ⟨"PassagePapers$Steps", "runPart", "(LPassagePapers$Ledger;III)V"⟩, prog_9_method_11_code, 6, none, []),
  (7, ⟨"PassagePapers$Steps", "runAgain", "(LPassagePapers$Ledger;II)V"⟩, prog_9_method_12_code, 5, none, [])]
def pm_prog_6 : List (Nat × MethodName × ByteArray × Nat × Option FieldType × List (Nat × Nat × Nat × Nat)) := [
  (7, ⟨"PassagePapers$Steps", "refused", "()I"⟩, prog_9_method_4_code, 1, (some .int), []),
  (7, ⟨"PassagePapers$Steps", "done", "()I"⟩, prog_9_method_3_code, 1, (some .int), []),
  (8, ⟨"PassagePapers$Tape", "<init>", "()V"⟩, prog_10_method_1_code, 1, none, []),
  (8, ⟨"PassagePapers$Tape", "length", "()I"⟩, prog_10_method_2_code, 1, (some .int), []),
  (8, ⟨"PassagePapers$Tape", "add", "(I)V"⟩, prog_10_method_3_code, 3, none, []),
  (8, ⟨"PassagePapers$Tape", "faultPlace", "()I"⟩, prog_10_method_9_code, 1, (some .int), []),
  (8, ⟨"PassagePapers$Tape", "begin", "(I)V"⟩, prog_10_method_5_code, 2, none, []),
  (8, ⟨"PassagePapers$Tape", "forgetFault", "()V"⟩, prog_10_method_6_code, 1, none, []),
  (8, ⟨"PassagePapers$Tape", "step", "()V"⟩, prog_10_method_11_code, 3, none, []),
  (8, ⟨"PassagePapers$Tape", "byteAt", "(I)I"⟩, prog_10_method_20_code, 2, (some .int), []),
  (8, ⟨"PassagePapers$Tape", "kindAt", "(I)I"⟩, prog_10_method_12_code, 3, (some .int), []),
  (8, ⟨"PassagePapers$Tape", "hasMore", "()Z"⟩, prog_10_method_13_code, 1, (some .boolean), []),
  (8, ⟨"PassagePapers$Tape", "isWord", "(Ljava/lang/String;)Z"⟩, prog_10_method_17_code, 3, (some .boolean), []),
  (8, ⟨"PassagePapers$Tape", "blame", "(I)V"⟩, prog_10_method_10_code, 2, none, []),
  (8, ⟨"PassagePapers$Tape", "number", "(II)I"⟩, prog_10_method_19_code, 4, (some .int), []),
  (8, ⟨"PassagePapers$Tape", "pass", "(C)V"⟩, prog_10_method_18_code, 2, none, []),
  (8, ⟨"PassagePapers$Tape", "isSign", "(C)Z"⟩, prog_10_method_16_code, 2, (some .boolean), []),
  (8, ⟨"PassagePapers$Tape", "clear", "()V"⟩, prog_10_method_4_code, 1, none, []),
  (8, ⟨"PassagePapers$Tape", "isFaulty", "()Z"⟩, prog_10_method_7_code, 1, (some .boolean), []),
  (8, ⟨"PassagePapers$Tape", "faultAnswer", "()I"⟩, prog_10_method_8_code, 1, (some .int), [])]
def pm_prog_7 : List (Nat × MethodName × ByteArray × Nat × Option FieldType × List (Nat × Nat × Nat × Nat)) := [
  (8, ⟨"PassagePapers$Tape", "isNumber", "()Z"⟩, prog_10_method_14_code, 1, (some .boolean), []),
  (8, ⟨"PassagePapers$Tape", "value", "()I"⟩, prog_10_method_15_code, 1, (some .int), []),
  (9, ⟨"PassagePapers$Terms", "<init>", "()V"⟩, prog_11_method_1_code, 1, none, []),
  (9, ⟨"PassagePapers$Terms", "find", "(LPassagePapers$Ledger;LPassagePapers$Book;I)V"⟩, prog_11_method_8_code, 7, none, []),
  (9, ⟨"PassagePapers$Terms", "clear", "()V"⟩, prog_11_method_9_code, 2, none, []),
  (9, ⟨"PassagePapers$Terms", "note", "(II)V"⟩, prog_11_method_10_code, 3, none, []),
  (9, ⟨"PassagePapers$Terms", "many", "()I"⟩, prog_11_method_2_code, 1, (some .int), []),
  (9, ⟨"PassagePapers$Terms", "first", "()I"⟩, prog_11_method_3_code, 1, (some .int), []),
  (9, ⟨"PassagePapers$Terms", "least", "()I"⟩, prog_11_method_4_code, 1, (some .int), []),
  (9, ⟨"PassagePapers$Terms", "greatest", "()I"⟩, prog_11_method_5_code, 1, (some .int), []),
  (9, ⟨"PassagePapers$Terms", "chooseWeek", "(LPassagePapers$Book;)V"⟩, prog_11_method_11_code, 6, none, []),
  (9, ⟨"PassagePapers$Terms", "week", "()I"⟩, prog_11_method_6_code, 1, (some .int), []),
  (9, ⟨"PassagePapers$Terms", "leftAtWorst", "()I"⟩, prog_11_method_7_code, 1, (some .int), []),
  (10, ⟨"PassagePapers$Voyage", "<init>", "()V"⟩, prog_12_method_1_code, 1, none, []),
  (10, ⟨"PassagePapers$Voyage", "sail", "(LPassagePapers$Ledger;IIII)V"⟩, prog_12_method_5_code, 9, none, []),
  (10, ⟨"PassagePapers$Voyage", "hungry", "()I"⟩, prog_12_method_2_code, 1, (some .int), []),
  (10, ⟨"PassagePapers$Voyage", "storesLeft", "()I"⟩, prog_12_method_3_code, 1, (some .int), []),
  (10, ⟨"PassagePapers$Voyage", "spoiled", "()I"⟩, prog_12_method_4_code, 1, (some .int), []),
  (11, ⟨"PassagePapers", "<init>", "()V"⟩, prog_1_method_1_code, 1, none, []),
  (11, ⟨"PassagePapers", "put", "([III)V"⟩, prog_1_method_55_code, 3, none, [])]
def pm_prog_8 : List (Nat × MethodName × ByteArray × Nat × Option FieldType × List (Nat × Nat × Nat × Nat)) := [
  (11, ⟨"PassagePapers", "at", "([II)I"⟩, prog_1_method_54_code, 2, (some .int), []),
  (11, ⟨"PassagePapers", "feed", "(IIIII)I"⟩, prog_1_method_2_code, 6, (some .int), []),
  (11, ⟨"PassagePapers", "fault", "()I"⟩, prog_1_method_7_code, 1, (some .int), []),
  (11, ⟨"PassagePapers", "undo", "()I"⟩, prog_1_method_8_code, 1, (some .int), []),
  (11, ⟨"PassagePapers", "copyRow", "([I[I)V"⟩, prog_1_method_56_code, 2, none, []),
  (11, ⟨"PassagePapers", "held", "()I"⟩, prog_1_method_15_code, 1, (some .int), []),
  (11, ⟨"PassagePapers", "parted", "()I"⟩, prog_1_method_22_code, 1, (some .int), []),
  (11, ⟨"PassagePapers", "hunger", "()I"⟩, prog_1_method_28_code, 3, (some .int), []),
  (11, ⟨"PassagePapers", "image", "()I"⟩, prog_1_method_39_code, 1, (some .int), []),
  (11, ⟨"PassagePapers", "restore", "()I"⟩, prog_1_method_40_code, 1, (some .int), []),
  (11, ⟨"PassagePapers", "status", "(I)I"⟩, prog_1_method_41_code, 2, (some .int), []),
  (11, ⟨"PassagePapers", "count", "(I)I"⟩, prog_1_method_42_code, 2, (some .int), []),
  (11, ⟨"PassagePapers", "register", "(I)I"⟩, prog_1_method_3_code, 3, (some .int), []),
  (11, ⟨"PassagePapers", "needText", "(II)V"⟩, prog_1_method_44_code, 3, none, []),
  (11, ⟨"PassagePapers", "need", "(Z)V"⟩, prog_1_method_43_code, 2, none, []),
  (11, ⟨"PassagePapers", "law", "(II)I"⟩, prog_1_method_4_code, 3, (some .int), []),
  (11, ⟨"PassagePapers", "work", "(I)I"⟩, prog_1_method_5_code, 2, (some .int), []),
  (11, ⟨"PassagePapers", "book", "(I)I"⟩, prog_1_method_6_code, 3, (some .int), []),
  (11, ⟨"PassagePapers", "told", "(I)I"⟩, prog_1_method_9_code, 2, (some .int), []),
  (11, ⟨"PassagePapers", "signer", "(II)I"⟩, prog_1_method_10_code, 3, (some .int), [])]
def pm_prog_9 : List (Nat × MethodName × ByteArray × Nat × Option FieldType × List (Nat × Nat × Nat × Nat)) := [
  (11, ⟨"PassagePapers", "needSigner", "(I)V"⟩, prog_1_method_45_code, 2, none, []),
  (11, ⟨"PassagePapers", "taker", "(II)I"⟩, prog_1_method_11_code, 3, (some .int), []),
  (11, ⟨"PassagePapers", "needTaker", "(I)V"⟩, prog_1_method_46_code, 2, none, []),
  (11, ⟨"PassagePapers", "asks", "(II)I"⟩, prog_1_method_12_code, 3, (some .int), []),
  (11, ⟨"PassagePapers", "owes", "(I)I"⟩, prog_1_method_13_code, 2, (some .int), []),
  (11, ⟨"PassagePapers", "would", "(IIIIII)I"⟩, prog_1_method_14_code, 7, (some .int), []),
  (11, ⟨"PassagePapers", "freeIn", "(I)I"⟩, prog_1_method_16_code, 2, (some .int), []),
  (11, ⟨"PassagePapers", "otherwise", "(I)I"⟩, prog_1_method_17_code, 2, (some .int), []),
  (11, ⟨"PassagePapers", "ahead", "(II)I"⟩, prog_1_method_18_code, 3, (some .int), []),
  (11, ⟨"PassagePapers", "gives", "(II)I"⟩, prog_1_method_19_code, 3, (some .int), []),
  (11, ⟨"PassagePapers", "best", "(I)I"⟩, prog_1_method_20_code, 2, (some .int), []),
  (11, ⟨"PassagePapers", "bestFor", "(I)I"⟩, prog_1_method_21_code, 2, (some .int), []),
  (11, ⟨"PassagePapers", "kin", "(I)I"⟩, prog_1_method_23_code, 2, (some .int), []),
  (11, ⟨"PassagePapers", "fare", "(I)I"⟩, prog_1_method_24_code, 2, (some .int), []),
  (11, ⟨"PassagePapers", "canPay", "(I)Z"⟩, prog_1_method_25_code, 2, (some .boolean), []),
  (11, ⟨"PassagePapers", "enough", "(I)I"⟩, prog_1_method_26_code, 2, (some .int), []),
  (11, ⟨"PassagePapers", "level", "(I)I"⟩, prog_1_method_27_code, 3, (some .int), []),
  (11, ⟨"PassagePapers", "terms", "(II)I"⟩, prog_1_method_29_code, 3, (some .int), []),
  (11, ⟨"PassagePapers", "ask", "(II)I"⟩, prog_1_method_30_code, 3, (some .int), []),
  (11, ⟨"PassagePapers", "court", "(III)J"⟩, prog_1_method_31_code, 8, (some .long), [])]
def pm_prog_10 : List (Nat × MethodName × ByteArray × Nat × Option FieldType × List (Nat × Nat × Nat × Nat)) := [
  (11, ⟨"PassagePapers", "isWitnessCount", "(I)Z"⟩, prog_1_method_48_code, 1, (some .boolean), []),
  (11, ⟨"PassagePapers", "majorityAbove", "(II)J"⟩, prog_1_method_49_code, 5, (some .long), []),
  (11, ⟨"PassagePapers", "choices", "(II)J"⟩, prog_1_method_50_code, 5, (some .long), []),
  (11, ⟨"PassagePapers", "power", "(II)J"⟩, prog_1_method_51_code, 5, (some .long), []),
  (11, ⟨"PassagePapers", "witnesses", "(II)I"⟩, prog_1_method_32_code, 4, (some .int), []),
  (11, ⟨"PassagePapers", "loan", "(III)I"⟩, prog_1_method_33_code, 7, (some .int), []),
  (11, ⟨"PassagePapers", "land", "(II)I"⟩, prog_1_method_34_code, 3, (some .int), []),
  (11, ⟨"PassagePapers", "bids", "(IIII)I"⟩, prog_1_method_35_code, 12, (some .int), []),
  (11, ⟨"PassagePapers", "share", "(III)I"⟩, prog_1_method_52_code, 3, (some .int), []),
  (11, ⟨"PassagePapers", "bestShare", "(III)I"⟩, prog_1_method_53_code, 4, (some .int), []),
  (11, ⟨"PassagePapers", "has", "(III)I"⟩, prog_1_method_36_code, 4, (some .int), []),
  (11, ⟨"PassagePapers", "voyage", "(IIIII)I"⟩, prog_1_method_37_code, 6, (some .int), []),
  (11, ⟨"PassagePapers", "isVoyage", "(III)Z"⟩, prog_1_method_47_code, 3, (some .boolean), []),
  (11, ⟨"PassagePapers", "span", "(IIIIII)I"⟩, prog_1_method_38_code, 11, (some .int), []),
  (12, ⟨"PassagePapersModel", "thrown", "()I"⟩, prog_14_method_1_code, 1, (some .int), []),
  (12, ⟨"PassagePapersModel", "<init>", "()V"⟩, prog_14_method_4_code, 1, none, []),
  (12, ⟨"PassagePapersModel", "clears", "()V"⟩, prog_14_method_20_code, 1, none, []),
  (12, ⟨"PassagePapersModel", "sets", "()V"⟩, prog_14_method_22_code, 2, none, []),
  (12, ⟨"PassagePapersModel", "copies", "([I[II)V"⟩, prog_14_method_21_code, 5, none, []),
  (12, ⟨"PassagePapersModel", "feed", "(IIIII)I"⟩, prog_14_method_5_code, 8, (some .int), [])]
def pm_prog_11 : List (Nat × MethodName × ByteArray × Nat × Option FieldType × List (Nat × Nat × Nat × Nat)) := [
  (12, ⟨"PassagePapersModel", "fault", "()I"⟩, prog_14_method_19_code, 1, (some .int), []),
  (12, ⟨"PassagePapersModel", "register", "(I)I"⟩, prog_14_method_27_code, 5, (some .int), []),
  (12, ⟨"PassagePapersModel", "may", "(ZII)Z"⟩, prog_14_method_2_code, 4, (some .boolean), []),
  (12, ⟨"PassagePapersModel", "begins", "(I)V"⟩, prog_14_method_17_code, 2, none, []),
  (12, ⟨"PassagePapersModel", "fine", "()Z"⟩, prog_14_method_6_code, 1, (some .boolean), []),
  (12, ⟨"PassagePapersModel", "isMore", "()Z"⟩, prog_14_method_16_code, 1, (some .boolean), []),
  (12, ⟨"PassagePapersModel", "here", "()I"⟩, prog_14_method_8_code, 1, (some .int), []),
  (12, ⟨"PassagePapersModel", "standsHere", "(Ljava/lang/String;)Z"⟩, prog_14_method_25_code, 3, (some .boolean), []),
  (12, ⟨"PassagePapersModel", "isSmall", "(I)Z"⟩, prog_14_method_9_code, 1, (some .boolean), []),
  (12, ⟨"PassagePapersModel", "word", "()I"⟩, prog_14_method_11_code, 4, (some .int), []),
  (12, ⟨"PassagePapersModel", "isRow", "(I)Z"⟩, prog_14_method_26_code, 1, (some .boolean), []),
  (12, ⟨"PassagePapersModel", "of", "(Ljava/lang/String;)I"⟩, prog_14_method_12_code, 3, (some .int), []),
  (12, ⟨"PassagePapersModel", "wrong", "(II)V"⟩, prog_14_method_7_code, 3, none, []),
  (12, ⟨"PassagePapersModel", "pass", "()V"⟩, prog_14_method_13_code, 1, none, []),
  (12, ⟨"PassagePapersModel", "readKinsman", "()V"⟩, prog_14_method_24_code, 3, none, []),
  (12, ⟨"PassagePapersModel", "readNumber", "(II)I"⟩, prog_14_method_14_code, 6, (some .int), []),
  (12, ⟨"PassagePapersModel", "isDigit", "(I)Z"⟩, prog_14_method_10_code, 1, (some .boolean), []),
  (12, ⟨"PassagePapersModel", "readRow", "(I)V"⟩, prog_14_method_23_code, 3, none, []),
  (12, ⟨"PassagePapersModel", "sign", "(I)V"⟩, prog_14_method_15_code, 2, none, []),
  (12, ⟨"PassagePapersModel", "result", "(I)I"⟩, prog_14_method_18_code, 2, (some .int), [])]
def pm_prog_12 : List (Nat × MethodName × ByteArray × Nat × Option FieldType × List (Nat × Nat × Nat × Nat)) := [
  (12, ⟨"PassagePapersModel", "law", "(II)I"⟩, prog_14_method_35_code, 5, (some .int), []),
  (12, ⟨"PassagePapersModel", "within", "(III)Z"⟩, prog_14_method_3_code, 3, (some .boolean), []),
  (12, ⟨"PassagePapersModel", "readSum", "()V"⟩, prog_14_method_30_code, 2, none, []),
  (12, ⟨"PassagePapersModel", "readProduct", "()V"⟩, prog_14_method_31_code, 2, none, []),
  (12, ⟨"PassagePapersModel", "readUnit", "()V"⟩, prog_14_method_34_code, 2, none, []),
  (12, ⟨"PassagePapersModel", "opensOne", "(I)V"⟩, prog_14_method_29_code, 2, none, []),
  (12, ⟨"PassagePapersModel", "emit", "(II)V"⟩, prog_14_method_28_code, 3, none, []),
  (12, ⟨"PassagePapersModel", "readTwo", "(II)V"⟩, prog_14_method_32_code, 3, none, []),
  (12, ⟨"PassagePapersModel", "factHere", "()I"⟩, prog_14_method_33_code, 2, (some .int), []),
  (12, ⟨"PassagePapersModel", "work", "(I)I"⟩, prog_14_method_42_code, 4, (some .int), []),
  (12, ⟨"PassagePapersModel", "readStep", "()V"⟩, prog_14_method_41_code, 4, none, []),
  (12, ⟨"PassagePapersModel", "tellsStep", "(III)V"⟩, prog_14_method_39_code, 4, none, []),
  (12, ⟨"PassagePapersModel", "readOne", "()I"⟩, prog_14_method_40_code, 1, (some .int), []),
  (12, ⟨"PassagePapersModel", "take", "()V"⟩, prog_14_method_44_code, 1, none, []),
  (12, ⟨"PassagePapersModel", "goesSteps", "(II)V"⟩, prog_14_method_43_code, 6, none, []),
  (12, ⟨"PassagePapersModel", "goes", "(III)Z"⟩, prog_14_method_58_code, 5, (some .boolean), []),
  (12, ⟨"PassagePapersModel", "lands", "()Z"⟩, prog_14_method_52_code, 2, (some .boolean), []),
  (12, ⟨"PassagePapersModel", "many", "(I)I"⟩, prog_14_method_50_code, 4, (some .int), []),
  (12, ⟨"PassagePapersModel", "places", "(II)Z"⟩, prog_14_method_53_code, 3, (some .boolean), []),
  (12, ⟨"PassagePapersModel", "boundTo", "(I)I"⟩, prog_14_method_51_code, 4, (some .int), [])]
def pm_prog_13 : List (Nat × MethodName × ByteArray × Nat × Option FieldType × List (Nat × Nat × Nat × Nat)) := [
  (12, ⟨"PassagePapersModel", "loses", "(II)Z"⟩, prog_14_method_57_code, 3, (some .boolean), []),
  (12, ⟨"PassagePapersModel", "pays", "(I)Z"⟩, prog_14_method_56_code, 2, (some .boolean), []),
  (12, ⟨"PassagePapersModel", "canPayNow", "(I)Z"⟩, prog_14_method_55_code, 2, (some .boolean), []),
  (12, ⟨"PassagePapersModel", "owesOf", "(I)I"⟩, prog_14_method_49_code, 3, (some .int), []),
  (12, ⟨"PassagePapersModel", "asksBy", "(II)I"⟩, prog_14_method_48_code, 3, (some .int), []),
  (12, ⟨"PassagePapersModel", "asksOf", "(IIII)I"⟩, prog_14_method_47_code, 5, (some .int), []),
  (12, ⟨"PassagePapersModel", "kinMany", "(I)I"⟩, prog_14_method_46_code, 4, (some .int), []),
  (12, ⟨"PassagePapersModel", "areKin", "(II)Z"⟩, prog_14_method_45_code, 3, (some .boolean), []),
  (12, ⟨"PassagePapersModel", "asksNow", "(I)I"⟩, prog_14_method_38_code, 3, (some .int), []),
  (12, ⟨"PassagePapersModel", "valueOf", "(I)I"⟩, prog_14_method_36_code, 5, (some .int), []),
  (12, ⟨"PassagePapersModel", "both", "(III)I"⟩, prog_14_method_37_code, 3, (some .int), []),
  (12, ⟨"PassagePapersModel", "frees", "(I)V"⟩, prog_14_method_54_code, 2, none, []),
  (12, ⟨"PassagePapersModel", "passes", "()V"⟩, prog_14_method_59_code, 2, none, []),
  (12, ⟨"PassagePapersModel", "book", "(I)I"⟩, prog_14_method_60_code, 6, (some .int), []),
  (12, ⟨"PassagePapersModel", "undo", "()I"⟩, prog_14_method_61_code, 2, (some .int), []),
  (12, ⟨"PassagePapersModel", "told", "(I)I"⟩, prog_14_method_62_code, 2, (some .int), []),
  (12, ⟨"PassagePapersModel", "signer", "(II)I"⟩, prog_14_method_65_code, 3, (some .int), []),
  (12, ⟨"PassagePapersModel", "isSigner", "(II)Z"⟩, prog_14_method_63_code, 3, (some .boolean), []),
  (12, ⟨"PassagePapersModel", "taker", "(II)I"⟩, prog_14_method_66_code, 3, (some .int), []),
  (12, ⟨"PassagePapersModel", "isTaker", "(II)Z"⟩, prog_14_method_64_code, 3, (some .boolean), [])]
def pm_prog_14 : List (Nat × MethodName × ByteArray × Nat × Option FieldType × List (Nat × Nat × Nat × Nat)) := [
  (12, ⟨"PassagePapersModel", "asks", "(II)I"⟩, prog_14_method_67_code, 3, (some .int), []),
  (12, ⟨"PassagePapersModel", "owes", "(I)I"⟩, prog_14_method_68_code, 2, (some .int), []),
  (12, ⟨"PassagePapersModel", "would", "(IIIIII)I"⟩, prog_14_method_69_code, 7, (some .int), []),
  (12, ⟨"PassagePapersModel", "held", "()I"⟩, prog_14_method_70_code, 3, (some .int), []),
  (12, ⟨"PassagePapersModel", "freeIn", "(I)I"⟩, prog_14_method_72_code, 2, (some .int), []),
  (12, ⟨"PassagePapersModel", "freeBy", "(II)I"⟩, prog_14_method_71_code, 4, (some .int), []),
  (12, ⟨"PassagePapersModel", "otherwise", "(I)I"⟩, prog_14_method_73_code, 2, (some .int), []),
  (12, ⟨"PassagePapersModel", "ahead", "(II)I"⟩, prog_14_method_74_code, 4, (some .int), []),
  (12, ⟨"PassagePapersModel", "gives", "(II)I"⟩, prog_14_method_76_code, 3, (some .int), []),
  (12, ⟨"PassagePapersModel", "givesFor", "(II)I"⟩, prog_14_method_75_code, 4, (some .int), []),
  (12, ⟨"PassagePapersModel", "best", "(I)I"⟩, prog_14_method_80_code, 4, (some .int), []),
  (12, ⟨"PassagePapersModel", "findBest", "()V"⟩, prog_14_method_79_code, 3, none, []),
  (12, ⟨"PassagePapersModel", "waysOn", "(II)V"⟩, prog_14_method_78_code, 4, none, []),
  (12, ⟨"PassagePapersModel", "mayBeWith", "(II)Z"⟩, prog_14_method_77_code, 4, (some .boolean), []),
  (12, ⟨"PassagePapersModel", "bestFor", "(I)I"⟩, prog_14_method_81_code, 2, (some .int), []),
  (12, ⟨"PassagePapersModel", "parted", "()I"⟩, prog_14_method_82_code, 4, (some .int), []),
  (12, ⟨"PassagePapersModel", "kin", "(I)I"⟩, prog_14_method_83_code, 4, (some .int), []),
  (12, ⟨"PassagePapersModel", "fare", "(I)I"⟩, prog_14_method_84_code, 2, (some .int), []),
  (12, ⟨"PassagePapersModel", "canPay", "(I)Z"⟩, prog_14_method_85_code, 2, (some .boolean), []),
  (12, ⟨"PassagePapersModel", "enough", "(I)I"⟩, prog_14_method_86_code, 2, (some .int), [])]
def pm_prog_15 : List (Nat × MethodName × ByteArray × Nat × Option FieldType × List (Nat × Nat × Nat × Nat)) := [
  (12, ⟨"PassagePapersModel", "level", "(I)I"⟩, prog_14_method_87_code, 3, (some .int), []),
  (12, ⟨"PassagePapersModel", "hunger", "()I"⟩, prog_14_method_88_code, 2, (some .int), []),
  (12, ⟨"PassagePapersModel", "terms", "(II)I"⟩, prog_14_method_91_code, 8, (some .int), []),
  (12, ⟨"PassagePapersModel", "findTerms", "(I)V"⟩, prog_14_method_90_code, 4, none, []),
  (12, ⟨"PassagePapersModel", "moreBy", "(II)I"⟩, prog_14_method_89_code, 2, (some .int), []),
  (12, ⟨"PassagePapersModel", "ask", "(II)I"⟩, prog_14_method_94_code, 7, (some .int), []),
  (12, ⟨"PassagePapersModel", "isTold", "(I)Z"⟩, prog_14_method_92_code, 3, (some .boolean), []),
  (12, ⟨"PassagePapersModel", "worstAt", "(I)I"⟩, prog_14_method_93_code, 5, (some .int), []),
  (12, ⟨"PassagePapersModel", "court", "(III)J"⟩, prog_14_method_98_code, 4, (some .long), []),
  (12, ⟨"PassagePapersModel", "courtBy", "(II)J"⟩, prog_14_method_97_code, 7, (some .long), []),
  (12, ⟨"PassagePapersModel", "power", "(JI)J"⟩, prog_14_method_96_code, 6, (some .long), []),
  (12, ⟨"PassagePapersModel", "least", "(JJI)J"⟩, prog_14_method_95_code, 11, (some .long), []),
  (12, ⟨"PassagePapersModel", "witnesses", "(II)I"⟩, prog_14_method_99_code, 4, (some .int), []),
  (12, ⟨"PassagePapersModel", "loan", "(III)I"⟩, prog_14_method_100_code, 7, (some .int), []),
  (12, ⟨"PassagePapersModel", "land", "(II)I"⟩, prog_14_method_101_code, 6, (some .int), []),
  (12, ⟨"PassagePapersModel", "bids", "(IIII)I"⟩, prog_14_method_104_code, 8, (some .int), []),
  (12, ⟨"PassagePapersModel", "isRest", "(IIIII)Z"⟩, prog_14_method_103_code, 6, (some .boolean), []),
  (12, ⟨"PassagePapersModel", "hasBy", "(III)I"⟩, prog_14_method_102_code, 3, (some .int), []),
  (12, ⟨"PassagePapersModel", "has", "(III)I"⟩, prog_14_method_105_code, 4, (some .int), []),
  (12, ⟨"PassagePapersModel", "voyage", "(IIIII)I"⟩, prog_14_method_109_code, 6, (some .int), [])]
def pm_prog_16 : List (Nat × MethodName × ByteArray × Nat × Option FieldType × List (Nat × Nat × Nat × Nat)) := [
  (12, ⟨"PassagePapersModel", "isVoyage", "(III)Z"⟩, prog_14_method_108_code, 3, (some .boolean), []),
  (12, ⟨"PassagePapersModel", "sails", "(IIII)V"⟩, prog_14_method_107_code, 6, none, []),
  (12, ⟨"PassagePapersModel", "draws", "()I"⟩, prog_14_method_106_code, 1, (some .int), []),
  (12, ⟨"PassagePapersModel", "span", "(IIIIII)I"⟩, prog_14_method_110_code, 11, (some .int), []),
  (12, ⟨"PassagePapersModel", "image", "()I"⟩, prog_14_method_113_code, 1, (some .int), []),
  (12, ⟨"PassagePapersModel", "keepsAll", "(IZ)V"⟩, prog_14_method_112_code, 4, none, []),
  (12, ⟨"PassagePapersModel", "keepsRow", "(I[IIZ)I"⟩, prog_14_method_111_code, 6, (some .int), []),
  (12, ⟨"PassagePapersModel", "restore", "()I"⟩, prog_14_method_114_code, 1, (some .int), []),
  (12, ⟨"PassagePapersModel", "status", "(I)I"⟩, prog_14_method_115_code, 2, (some .int), []),
  (12, ⟨"PassagePapersModel", "count", "(I)I"⟩, prog_14_method_116_code, 2, (some .int), []),
  (13, ⟨"PassagePapersLaw", "register", "(LPassagePapers;I[J)I"⟩, method_3_code, 4, (some .int), [(0, 9, 12, 13)]),
  (13, ⟨"PassagePapersLaw", "law", "(LPassagePapers;II[J)I"⟩, method_4_code, 5, (some .int), [(0, 10, 13, 13)]),
  (13, ⟨"PassagePapersLaw", "work", "(LPassagePapers;I[J)I"⟩, method_5_code, 4, (some .int), [(0, 9, 12, 13)]),
  (13, ⟨"PassagePapersLaw", "book", "(LPassagePapers;I[J)I"⟩, method_6_code, 4, (some .int), [(0, 9, 12, 13)]),
  (13, ⟨"PassagePapersLaw", "told", "(LPassagePapers;I[J)I"⟩, method_7_code, 4, (some .int), [(0, 9, 12, 13)]),
  (13, ⟨"PassagePapersLaw", "signer", "(LPassagePapers;II[J)I"⟩, method_8_code, 5, (some .int), [(0, 10, 13, 31), (0, 10, 17, 13)]),
  (13, ⟨"PassagePapersLaw", "taker", "(LPassagePapers;II[J)I"⟩, method_9_code, 5, (some .int), [(0, 10, 13, 31), (0, 10, 17, 13)]),
  (13, ⟨"PassagePapersLaw", "asks", "(LPassagePapers;II[J)I"⟩, method_10_code, 5, (some .int), [(0, 10, 13, 31), (0, 10, 17, 13)]),
  (13, ⟨"PassagePapersLaw", "owes", "(LPassagePapers;I[J)I"⟩, method_11_code, 4, (some .int), [(0, 9, 12, 31)]),
  (13, ⟨"PassagePapersLaw", "would", "(LPassagePapers;IIIIII[J)I"⟩, method_12_code, 9, (some .int), [(0, 18, 21, 13)])]
def pm_prog_17 : List (Nat × MethodName × ByteArray × Nat × Option FieldType × List (Nat × Nat × Nat × Nat)) := [
  (13, ⟨"PassagePapersLaw", "freeIn", "(LPassagePapers;I[J)I"⟩, method_13_code, 4, (some .int), [(0, 9, 12, 31)]),
  (13, ⟨"PassagePapersLaw", "otherwise", "(LPassagePapers;I[J)I"⟩, method_14_code, 4, (some .int), [(0, 9, 12, 31)]),
  (13, ⟨"PassagePapersLaw", "ahead", "(LPassagePapers;II[J)I"⟩, method_15_code, 5, (some .int), [(0, 10, 13, 13)]),
  (13, ⟨"PassagePapersLaw", "gives", "(LPassagePapers;II[J)I"⟩, method_16_code, 5, (some .int), [(0, 10, 13, 31)]),
  (13, ⟨"PassagePapersLaw", "best", "(LPassagePapers;I[J)I"⟩, method_17_code, 4, (some .int), [(0, 9, 12, 13)]),
  (13, ⟨"PassagePapersLaw", "bestFor", "(LPassagePapers;I[J)I"⟩, method_18_code, 4, (some .int), [(0, 9, 12, 31)]),
  (13, ⟨"PassagePapersLaw", "kin", "(LPassagePapers;I[J)I"⟩, method_19_code, 4, (some .int), [(0, 9, 12, 31)]),
  (13, ⟨"PassagePapersLaw", "fare", "(LPassagePapers;I[J)I"⟩, method_20_code, 4, (some .int), [(0, 9, 12, 31)]),
  (13, ⟨"PassagePapersLaw", "canPay", "(LPassagePapers;I[J)I"⟩, method_21_code, 4, (some .int), [(0, 16, 19, 31)]),
  (13, ⟨"PassagePapersLaw", "enough", "(LPassagePapers;I[J)I"⟩, method_22_code, 4, (some .int), [(0, 9, 12, 13)]),
  (13, ⟨"PassagePapersLaw", "level", "(LPassagePapers;I[J)I"⟩, method_23_code, 4, (some .int), [(0, 9, 12, 13)]),
  (13, ⟨"PassagePapersLaw", "terms", "(LPassagePapers;II[J)I"⟩, method_24_code, 5, (some .int), [(0, 10, 13, 31), (0, 10, 17, 13)]),
  (13, ⟨"PassagePapersLaw", "ask", "(LPassagePapers;II[J)I"⟩, method_25_code, 5, (some .int), [(0, 10, 13, 31), (0, 10, 17, 13)]),
  (13, ⟨"PassagePapersLaw", "court", "(LPassagePapers;III[J)I"⟩, method_26_code, 6, (some .int), [(0, 11, 14, 13)]),
  (13, ⟨"PassagePapersLaw", "witnesses", "(LPassagePapers;II[J)I"⟩, method_27_code, 5, (some .int), [(0, 10, 13, 13)]),
  (13, ⟨"PassagePapersLaw", "loan", "(LPassagePapers;III[J)I"⟩, method_28_code, 6, (some .int), [(0, 12, 15, 13)]),
  (13, ⟨"PassagePapersLaw", "land", "(LPassagePapers;II[J)I"⟩, method_29_code, 5, (some .int), [(0, 10, 13, 31), (0, 10, 17, 13)]),
  (13, ⟨"PassagePapersLaw", "bids", "(LPassagePapers;IIII[J)I"⟩, method_30_code, 7, (some .int), [(0, 14, 17, 13)]),
  (13, ⟨"PassagePapersLaw", "has", "(LPassagePapers;III[J)I"⟩, method_31_code, 6, (some .int), [(0, 12, 15, 13)]),
  (13, ⟨"PassagePapersLaw", "voyage", "(LPassagePapers;IIIII[J)I"⟩, method_32_code, 8, (some .int), [(0, 16, 19, 13)])]
def pm_prog_18 : List (Nat × MethodName × ByteArray × Nat × Option FieldType × List (Nat × Nat × Nat × Nat)) := [
  (13, ⟨"PassagePapersLaw", "span", "(LPassagePapers;IIIIII[J)I"⟩, method_33_code, 9, (some .int), [(0, 18, 21, 13)]),
  (13, ⟨"PassagePapersLaw", "law", "([I)Z"⟩, code, 8, (some .boolean), []),
  (14, ⟨"java/lang/Math", "max", "(II)I"⟩, prog_21_method_65_code, 2, (some .int), []),
  (14, ⟨"java/lang/Math", "min", "(II)I"⟩, prog_21_method_69_code, 2, (some .int), []),
  (14, ⟨"java/lang/Math", "max", "(JJ)J"⟩, prog_21_method_66_code, 4, (some .long), []),
  (15, ⟨"java/lang/Integer", "bitCount", "(I)I"⟩, prog_20_method_49_code, 1, (some .int), []),
  (16, ⟨"java/lang/String", "length", "()I"⟩, prog_23_method_54_code, 1, (some .int), []),
  (16, ⟨"java/lang/String", "coder", "()B"⟩, prog_23_method_152_code, 1, (some .byte), []),
  (16, ⟨"java/lang/String", "charAt", "(I)C"⟩, prog_23_method_56_code, 2, (some .char), []),
  (16, ⟨"java/lang/String", "isLatin1", "()Z"⟩, prog_23_method_154_code, 1, (some .boolean), []),
  (17, ⟨"java/lang/StringLatin1", "charAt", "([BI)C"⟩, prog_24_method_2_code, 2, (some .char), []),
  (16, ⟨"java/lang/String", "checkIndex", "(II)V"⟩, prog_23_method_155_code, 2, none, []),
  (18, ⟨"jdk/internal/util/Preconditions", "checkIndex", "(IILjava/util/function/BiFunction;)I"⟩, prog_31_method_11_code, 3, (some .int), [])]
/-- the methods: class number, name, code, locals, answer, rows of the exception table -/
def pm_prog : List (Nat × MethodName × ByteArray × Nat × Option FieldType × List (Nat × Nat × Nat × Nat)) := pm_prog_0 ++ (pm_prog_1 ++ (pm_prog_2 ++ (pm_prog_3 ++ (pm_prog_4 ++ (pm_prog_5 ++ (pm_prog_6 ++ (pm_prog_7 ++ (pm_prog_8 ++ (pm_prog_9 ++ (pm_prog_10 ++ (pm_prog_11 ++ (pm_prog_12 ++ (pm_prog_13 ++ (pm_prog_14 ++ (pm_prog_15 ++ (pm_prog_16 ++ (pm_prog_17 ++ (pm_prog_18))))))))))))))))))
def pm_ftf_0 : List ((Nat × Nat) × (Nat × Nat × Nat) × (Nat × Nat)) := [((0, 13), (0, 0, 2), (1, 210)), ((0, 18), (0, 1, 2), (1, 211)), ((0, 21), (0, 2, 2), (1, 212)), ((0, 25), (0, 3, 0), (1, 213)), ((0, 29), (0, 4, 0), (1, 214)), ((1, 9), (1, 0, 2), (2, 118)), ((1, 15), (1, 1, 2), (2, 119)), ((1, 18), (1, 2, 0), (2, 120)), ((2, 9), (2, 0, 2), (1, 102)), ((2, 15), (2, 1, 2), (1, 103)), ((2, 18), (2, 2, 0), (1, 104)), ((3, 12), (3, 0, 2), (1, 180)), ((3, 21), (3, 1, 2), (1, 181)), ((3, 25), (3, 2, 2), (1, 182)), ((3, 28), (3, 3, 2), (1, 183)), ((3, 32), (3, 4, 2), (1, 184)), ((3, 35), (3, 5, 2), (1, 185)), ((3, 41), (3, 6, 2), (1, 186)), ((4, 11), (4, 0, 2), (2, 53)), ((4, 15), (4, 1, 2), (2, 54)), ((4, 19), (4, 2, 2), (2, 55)), ((4, 22), (4, 3, 2), (2, 56)), ((4, 25), (4, 4, 2), (2, 57)), ((4, 28), (4, 5, 2), (2, 58)), ((4, 31), (4, 6, 2), (2, 59)), ((4, 34), (4, 7, 0), (2, 60)), ((4, 38), (4, 8, 0), (2, 61)), ((4, 41), (4, 9, 0), (2, 62)), ((4, 44), (4, 10, 0), (2, 63)), ((4, 47), (4, 11, 0), (2, 64))]
def pm_ftf_1 : List ((Nat × Nat) × (Nat × Nat × Nat) × (Nat × Nat)) := [((4, 50), (4, 12, 0), (2, 65)), ((5, 9), (5, 0, 2), (1, 118)), ((5, 15), (5, 1, 2), (1, 119)), ((5, 18), (5, 2, 2), (1, 120)), ((5, 21), (5, 3, 2), (1, 121)), ((5, 24), (5, 4, 2), (1, 122)), ((5, 27), (5, 5, 2), (1, 123)), ((5, 30), (5, 6, 2), (1, 124)), ((5, 33), (5, 7, 0), (1, 125)), ((5, 37), (5, 8, 0), (1, 126)), ((5, 40), (5, 9, 0), (1, 127)), ((5, 43), (5, 10, 0), (1, 128)), ((6, 11), (6, 0, 2), (1, 81)), ((7, 9), (7, 0, 2), (1, 234)), ((7, 15), (7, 1, 2), (1, 235)), ((7, 18), (7, 2, 2), (1, 236)), ((7, 21), (7, 3, 2), (1, 237)), ((7, 24), (7, 4, 0), (1, 238)), ((7, 28), (7, 5, 0), (1, 239)), ((7, 31), (7, 6, 0), (2, 0)), ((7, 34), (7, 7, 0), (2, 1)), ((8, 9), (8, 0, 2), (1, 40)), ((8, 15), (8, 1, 0), (1, 41)), ((8, 19), (8, 2, 0), (1, 42)), ((8, 22), (8, 3, 0), (1, 43)), ((8, 25), (8, 4, 0), (1, 44)), ((8, 28), (8, 5, 0), (1, 45)), ((8, 31), (8, 6, 0), (1, 46)), ((8, 34), (8, 7, 0), (1, 47)), ((8, 37), (8, 8, 0), (1, 48))]
def pm_ftf_2 : List ((Nat × Nat) × (Nat × Nat × Nat) × (Nat × Nat)) := [((9, 9), (9, 0, 2), (2, 25)), ((9, 15), (9, 1, 0), (2, 26)), ((9, 19), (9, 2, 0), (2, 27)), ((9, 22), (9, 3, 0), (2, 28)), ((9, 25), (9, 4, 0), (2, 29)), ((9, 28), (9, 5, 0), (2, 30)), ((9, 31), (9, 6, 0), (2, 31)), ((10, 9), (10, 0, 0), (2, 100)), ((10, 15), (10, 1, 0), (2, 101)), ((10, 18), (10, 2, 0), (2, 102)), ((11, 10), (11, 0, 2), (2, 128)), ((11, 19), (11, 1, 2), (2, 129)), ((11, 26), (11, 2, 2), (2, 130)), ((11, 33), (11, 3, 2), (2, 131)), ((11, 40), (11, 4, 2), (2, 132)), ((11, 47), (11, 5, 2), (2, 133)), ((11, 54), (11, 6, 2), (2, 134)), ((11, 61), (11, 7, 2), (2, 135)), ((11, 68), (11, 8, 2), (2, 136)), ((11, 75), (11, 9, 2), (2, 137)), ((11, 79), (11, 10, 2), (2, 138)), ((11, 82), (11, 11, 0), (2, 139)), ((11, 86), (11, 12, 0), (2, 140)), ((11, 89), (11, 13, 0), (2, 141)), ((12, 3), (12, 0, 0), (7, 112)), ((12, 7), (12, 1, 2), (7, 113)), ((12, 17), (12, 8, 0), (7, 120)), ((12, 20), (12, 9, 2), (7, 121)), ((12, 23), (12, 10, 2), (7, 122)), ((12, 26), (12, 11, 2), (7, 123))]
def pm_ftf_3 : List ((Nat × Nat) × (Nat × Nat × Nat) × (Nat × Nat)) := [((12, 29), (12, 12, 2), (7, 124)), ((12, 32), (12, 13, 2), (7, 125)), ((12, 35), (12, 21, 2), (7, 133)), ((12, 38), (12, 22, 2), (7, 134)), ((12, 41), (12, 23, 2), (7, 135)), ((12, 44), (12, 24, 2), (7, 136)), ((12, 47), (12, 25, 2), (7, 137)), ((12, 50), (12, 26, 2), (7, 138)), ((12, 53), (12, 28, 2), (7, 140)), ((12, 56), (12, 29, 2), (7, 141)), ((12, 59), (12, 30, 2), (7, 142)), ((12, 62), (12, 37, 2), (7, 149)), ((12, 65), (12, 38, 2), (7, 150)), ((12, 68), (12, 39, 2), (7, 151)), ((12, 71), (12, 43, 2), (7, 155)), ((12, 74), (12, 44, 2), (7, 156)), ((12, 77), (12, 46, 2), (7, 158)), ((12, 80), (12, 47, 2), (7, 159)), ((12, 83), (12, 48, 2), (7, 160)), ((12, 86), (12, 49, 2), (7, 161)), ((12, 89), (12, 51, 2), (7, 163)), ((12, 93), (12, 52, 2), (7, 164)), ((12, 96), (12, 53, 2), (7, 165)), ((12, 99), (12, 54, 2), (7, 166)), ((12, 102), (12, 57, 2), (7, 169)), ((12, 111), (12, 2, 0), (7, 114)), ((12, 114), (12, 5, 0), (7, 117)), ((12, 117), (12, 6, 0), (7, 118)), ((12, 120), (12, 4, 0), (7, 116)), ((12, 123), (12, 3, 0), (7, 115))]
def pm_ftf_4 : List ((Nat × Nat) × (Nat × Nat × Nat) × (Nat × Nat)) := [((12, 154), (12, 7, 0), (7, 119)), ((12, 157), (12, 14, 0), (7, 126)), ((12, 160), (12, 15, 0), (7, 127)), ((12, 163), (12, 16, 0), (7, 128)), ((12, 166), (12, 17, 0), (7, 129)), ((12, 169), (12, 18, 0), (7, 130)), ((12, 172), (12, 19, 0), (7, 131)), ((12, 175), (12, 20, 0), (7, 132)), ((12, 182), (12, 45, 0), (7, 157)), ((12, 185), (12, 32, 0), (7, 144)), ((12, 188), (12, 58, 0), (7, 170)), ((12, 191), (12, 33, 0), (7, 145)), ((12, 246), (12, 27, 0), (7, 139)), ((12, 301), (12, 31, 0), (7, 143)), ((12, 333), (12, 34, 0), (7, 146)), ((12, 336), (12, 35, 0), (7, 147)), ((12, 339), (12, 36, 0), (7, 148)), ((12, 348), (12, 40, 0), (7, 152)), ((12, 351), (12, 41, 0), (7, 153)), ((12, 354), (12, 42, 0), (7, 154)), ((12, 416), (12, 50, 0), (7, 162)), ((12, 464), (12, 55, 0), (7, 167)), ((12, 468), (12, 56, 0), (7, 168))]
/-- fields by class and entry: class, field, kind; where the word stands -/
def pm_ftf : List ((Nat × Nat) × (Nat × Nat × Nat) × (Nat × Nat)) := pm_ftf_0 ++ (pm_ftf_1 ++ (pm_ftf_2 ++ (pm_ftf_3 ++ (pm_ftf_4))))
def pm_ttf_0 : List ((Nat × Nat) × (Nat × Nat × Nat × Bool) × ((Nat × Nat) × (Nat × Nat) × (Nat × Nat))) := [((0, 32), (109, 1, 1, false), ((3, 90), (3, 91), (3, 92))), ((0, 36), (105, 1, 1, false), ((2, 208), (2, 209), (2, 210))), ((0, 39), (164, 2, 0, true), ((3, 94), (2, 213), (1, 1))), ((0, 43), (159, 3, 0, true), ((3, 95), (1, 100), (1, 1))), ((0, 47), (160, 2, 0, true), ((3, 104), (1, 166), (1, 1))), ((1, 22), (131, 0, 1, false), ((5, 85), (3, 223), (3, 224))), ((1, 28), (11, 1, 1, false), ((5, 86), (5, 88), (0, 28))), ((1, 32), (140, 0, 1, false), ((5, 90), (4, 152), (4, 153))), ((1, 35), (133, 1, 1, false), ((5, 91), (4, 51), (4, 52))), ((1, 39), (141, 0, 1, false), ((5, 92), (5, 93), (5, 94))), ((1, 43), (12, 1, 1, false), ((5, 96), (5, 97), (5, 98))), ((1, 47), (159, 3, 0, true), ((5, 101), (1, 100), (1, 1))), ((1, 51), (128, 0, 1, false), ((5, 102), (3, 206), (3, 207))), ((1, 54), (134, 2, 1, false), ((5, 103), (4, 60), (4, 61))), ((1, 58), (135, 1, 1, false), ((5, 104), (4, 74), (4, 75))), ((1, 62), (160, 2, 0, true), ((5, 100), (1, 166), (1, 1))), ((1, 66), (362, 2, 0, false), ((6, 176), (3, 46), (1, 18))), ((2, 22), (16, 0, 1, false), ((1, 91), (1, 92), (1, 93))), ((2, 25), (17, 1, 1, false), ((1, 95), (1, 97), (0, 0))), ((2, 29), (164, 2, 0, true), ((4, 166), (2, 213), (1, 1))), ((2, 33), (19, 3, 0, false), ((3, 41), (3, 42), (1, 5))), ((2, 37), (160, 2, 0, true), ((3, 48), (1, 166), (1, 1))), ((2, 41), (363, 2, 0, false), ((3, 44), (2, 216), (1, 18))), ((2, 47), (362, 2, 0, false), ((3, 45), (3, 46), (1, 18))), ((2, 50), (21, 2, 1, false), ((4, 122), (4, 124), (0, 11))), ((2, 54), (131, 0, 1, false), ((4, 160), (3, 223), (3, 224))), ((2, 60), (133, 1, 1, false), ((4, 158), (4, 51), (4, 52))), ((2, 63), (159, 3, 0, true), ((1, 99), (1, 100), (1, 1))), ((2, 67), (22, 2, 1, false), ((4, 126), (4, 128), (0, 12))), ((2, 70), (136, 1, 1, false), ((4, 157), (4, 78), (4, 79)))]
def pm_ttf_1 : List ((Nat × Nat) × (Nat × Nat × Nat × Bool) × ((Nat × Nat) × (Nat × Nat) × (Nat × Nat))) := [((2, 74), (128, 0, 1, false), ((4, 156), (3, 206), (3, 207))), ((2, 77), (23, 2, 1, false), ((4, 130), (4, 132), (0, 13))), ((2, 80), (24, 1, 0, false), ((4, 134), (4, 135), (1, 5))), ((2, 84), (25, 1, 0, false), ((4, 140), (4, 141), (1, 5))), ((2, 87), (140, 0, 1, false), ((4, 151), (4, 152), (4, 153))), ((2, 90), (134, 2, 1, false), ((4, 155), (4, 60), (4, 61))), ((2, 93), (135, 1, 1, false), ((4, 159), (4, 74), (4, 75))), ((2, 99), (132, 1, 1, false), ((4, 138), (3, 235), (3, 236))), ((3, 11), (100, 0, 2, true), ((1, 77), (1, 78), (1, 78))), ((3, 20), (15, 0, 2, false), ((1, 87), (1, 88), (1, 88))), ((3, 40), (78, 0, 2, true), ((1, 114), (1, 115), (1, 115))), ((3, 45), (101, 1, 1, false), ((1, 152), (1, 153), (1, 154))), ((3, 49), (16, 0, 1, false), ((4, 101), (1, 92), (1, 93))), ((3, 52), (106, 2, 1, false), ((2, 237), (2, 238), (2, 239))), ((3, 56), (81, 0, 1, false), ((2, 229), (2, 230), (2, 231))), ((3, 60), (30, 2, 1, false), ((2, 233), (2, 234), (2, 235))), ((3, 64), (94, 1, 1, false), ((5, 21), (5, 22), (5, 23))), ((3, 68), (42, 1, 1, false), ((5, 17), (5, 18), (5, 19))), ((3, 71), (362, 2, 0, false), ((5, 46), (3, 46), (1, 18))), ((3, 76), (82, 1, 1, false), ((3, 10), (3, 11), (3, 12))), ((3, 79), (159, 3, 0, true), ((3, 14), (1, 100), (1, 1))), ((3, 83), (83, 1, 1, false), ((3, 15), (3, 16), (3, 17))), ((3, 86), (84, 1, 1, false), ((3, 19), (3, 20), (3, 21))), ((3, 89), (365, 1, 0, false), ((3, 23), (3, 24), (1, 24))), ((3, 94), (107, 0, 1, false), ((3, 29), (3, 30), (3, 31))), ((3, 97), (32, 1, 1, false), ((3, 6), (3, 7), (3, 8))), ((3, 101), (33, 1, 1, false), ((3, 33), (3, 34), (3, 35))), ((3, 105), (18, 1, 1, false), ((3, 37), (3, 38), (3, 39))), ((3, 109), (31, 2, 1, false), ((3, 2), (3, 3), (3, 4))), ((3, 112), (36, 1, 1, false), ((5, 7), (3, 71), (3, 72)))]
def pm_ttf_2 : List ((Nat × Nat) × (Nat × Nat × Nat × Bool) × ((Nat × Nat) × (Nat × Nat) × (Nat × Nat))) := [((3, 115), (53, 3, 1, false), ((6, 0), (5, 219), (5, 220))), ((3, 119), (99, 1, 1, false), ((6, 17), (5, 179), (5, 180))), ((3, 122), (98, 1, 1, false), ((6, 18), (5, 175), (5, 176))), ((3, 125), (35, 2, 1, false), ((3, 57), (3, 59), (0, 1))), ((3, 128), (85, 2, 1, false), ((3, 61), (3, 62), (3, 63))), ((3, 131), (47, 1, 1, false), ((5, 42), (5, 43), (5, 44))), ((3, 134), (61, 0, 1, false), ((7, 26), (7, 28), (0, 43))), ((3, 137), (160, 2, 0, true), ((7, 31), (1, 166), (1, 1))), ((3, 141), (92, 0, 1, false), ((7, 30), (4, 215), (4, 216))), ((3, 144), (40, 0, 1, false), ((5, 3), (5, 5), (0, 19))), ((3, 148), (41, 2, 1, false), ((5, 13), (5, 15), (0, 20))), ((3, 151), (43, 2, 1, false), ((5, 25), (5, 27), (0, 21))), ((3, 154), (44, 1, 1, false), ((5, 30), (5, 32), (0, 22))), ((3, 158), (45, 2, 1, false), ((5, 34), (5, 36), (0, 23))), ((3, 161), (46, 1, 1, false), ((5, 38), (5, 40), (0, 24))), ((3, 164), (50, 0, 1, false), ((5, 55), (5, 57), (0, 26))), ((3, 167), (93, 0, 1, false), ((5, 8), (5, 9), (5, 10))), ((3, 170), (102, 3, 1, false), ((5, 12), (1, 157), (1, 158))), ((3, 174), (363, 2, 0, false), ((5, 29), (2, 216), (1, 18))), ((3, 177), (48, 2, 1, false), ((5, 47), (5, 48), (5, 49))), ((3, 180), (49, 1, 1, false), ((5, 51), (5, 53), (0, 25))), ((3, 183), (51, 1, 1, false), ((5, 59), (5, 61), (0, 27))), ((3, 186), (103, 1, 1, false), ((5, 65), (1, 169), (1, 170))), ((3, 189), (108, 0, 1, false), ((5, 63), (3, 75), (3, 76))), ((3, 192), (104, 1, 1, false), ((5, 64), (1, 177), (1, 178))), ((4, 53), (74, 1, 1, false), ((6, 88), (6, 90), (0, 40))), ((4, 57), (64, 1, 1, false), ((6, 30), (6, 32), (0, 31))), ((4, 61), (67, 1, 1, false), ((6, 51), (6, 53), (0, 34))), ((4, 65), (36, 1, 1, false), ((6, 55), (3, 71), (3, 72))), ((4, 70), (160, 2, 0, true), ((6, 48), (1, 166), (1, 1)))]
def pm_ttf_3 : List ((Nat × Nat) × (Nat × Nat × Nat × Bool) × ((Nat × Nat) × (Nat × Nat) × (Nat × Nat))) := [((4, 74), (68, 3, 1, false), ((6, 61), (6, 63), (0, 35))), ((4, 78), (73, 1, 1, false), ((6, 83), (6, 85), (0, 39))), ((4, 82), (37, 0, 1, false), ((6, 34), (4, 94), (4, 95))), ((4, 86), (92, 0, 1, false), ((6, 35), (4, 215), (4, 216))), ((4, 91), (159, 3, 0, true), ((6, 36), (1, 100), (1, 1))), ((4, 95), (81, 0, 1, false), ((6, 37), (2, 230), (2, 231))), ((4, 98), (30, 2, 1, false), ((6, 38), (2, 234), (2, 235))), ((4, 102), (65, 2, 1, false), ((6, 39), (6, 41), (0, 32))), ((4, 106), (66, 2, 1, false), ((6, 43), (6, 45), (0, 33))), ((4, 110), (47, 1, 1, false), ((6, 49), (5, 43), (5, 44))), ((4, 113), (56, 3, 1, false), ((6, 50), (6, 14), (6, 15))), ((4, 117), (85, 2, 1, false), ((6, 47), (3, 62), (3, 63))), ((4, 120), (57, 1, 1, false), ((6, 56), (6, 57), (6, 58))), ((4, 123), (363, 2, 0, false), ((6, 60), (2, 216), (1, 18))), ((4, 129), (69, 2, 1, false), ((6, 65), (6, 67), (0, 36))), ((4, 133), (72, 0, 1, false), ((6, 79), (6, 81), (0, 38))), ((4, 136), (70, 1, 1, false), ((6, 69), (6, 71), (0, 37))), ((4, 140), (71, 1, 0, false), ((6, 73), (6, 74), (1, 10))), ((4, 143), (364, 2, 0, false), ((6, 76), (6, 77), (1, 18))), ((5, 46), (160, 2, 0, true), ((1, 165), (1, 166), (1, 1))), ((5, 50), (84, 1, 1, false), ((3, 65), (3, 20), (3, 21))), ((5, 54), (131, 0, 1, false), ((3, 222), (3, 223), (3, 224))), ((5, 60), (87, 2, 1, false), ((3, 226), (3, 228), (0, 7))), ((5, 64), (88, 1, 0, false), ((3, 230), (3, 231), (1, 6))), ((5, 68), (133, 1, 1, false), ((4, 50), (4, 51), (4, 52))), ((5, 72), (128, 0, 1, false), ((4, 54), (3, 206), (3, 207))), ((5, 75), (89, 1, 1, false), ((4, 55), (4, 57), (0, 8))), ((5, 79), (90, 1, 1, false), ((4, 65), (4, 67), (0, 9))), ((5, 82), (91, 1, 1, false), ((4, 69), (4, 71), (0, 10))), ((5, 85), (134, 2, 1, false), ((4, 59), (4, 60), (4, 61)))]
def pm_ttf_4 : List ((Nat × Nat) × (Nat × Nat × Nat × Bool) × ((Nat × Nat) × (Nat × Nat) × (Nat × Nat))) := [((5, 89), (135, 1, 1, false), ((4, 73), (4, 74), (4, 75))), ((5, 95), (132, 1, 1, false), ((3, 234), (3, 235), (3, 236))), ((5, 106), (159, 3, 0, true), ((4, 64), (1, 100), (1, 1))), ((6, 15), (102, 3, 1, false), ((1, 156), (1, 157), (1, 158))), ((6, 19), (79, 1, 1, false), ((1, 161), (1, 162), (1, 163))), ((6, 25), (103, 1, 1, false), ((1, 168), (1, 169), (1, 170))), ((6, 29), (80, 0, 1, false), ((1, 172), (1, 173), (1, 174))), ((6, 33), (104, 1, 1, false), ((1, 176), (1, 177), (1, 178))), ((6, 36), (160, 2, 0, true), ((3, 1), (1, 166), (1, 1))), ((6, 40), (159, 3, 0, true), ((1, 160), (1, 100), (1, 1))), ((6, 44), (164, 2, 0, true), ((2, 212), (2, 213), (1, 1))), ((7, 37), (131, 0, 1, false), ((4, 179), (3, 223), (3, 224))), ((7, 43), (112, 3, 1, false), ((4, 180), (4, 182), (0, 14))), ((7, 47), (113, 1, 0, false), ((4, 184), (4, 185), (1, 8))), ((7, 51), (133, 1, 1, false), ((4, 197), (4, 51), (4, 52))), ((7, 55), (128, 0, 1, false), ((4, 198), (3, 206), (3, 207))), ((7, 58), (159, 3, 0, true), ((4, 199), (1, 100), (1, 1))), ((7, 62), (134, 2, 1, false), ((4, 200), (4, 60), (4, 61))), ((7, 66), (114, 3, 1, false), ((4, 201), (4, 203), (0, 15))), ((7, 69), (115, 3, 1, false), ((4, 208), (4, 210), (0, 16))), ((7, 72), (135, 1, 1, false), ((4, 205), (4, 74), (4, 75))), ((7, 76), (138, 0, 1, false), ((4, 206), (4, 86), (4, 87))), ((7, 79), (136, 1, 1, false), ((4, 207), (4, 78), (4, 79))), ((7, 83), (160, 2, 0, true), ((4, 212), (1, 166), (1, 1))), ((7, 87), (81, 0, 1, false), ((4, 213), (2, 230), (2, 231))), ((7, 92), (92, 0, 1, false), ((4, 214), (4, 215), (4, 216))), ((7, 97), (132, 1, 1, false), ((4, 188), (3, 235), (3, 236))), ((7, 117), (119, 3, 1, false), ((4, 234), (4, 236), (0, 18))), ((7, 121), (39, 3, 1, false), ((4, 239), (5, 0), (5, 1))), ((7, 127), (118, 4, 1, false), ((4, 238), (4, 232), (0, 17)))]
def pm_ttf_5 : List ((Nat × Nat) × (Nat × Nat × Nat × Bool) × ((Nat × Nat) × (Nat × Nat) × (Nat × Nat))) := [((8, 40), (159, 3, 0, true), ((2, 183), (1, 100), (1, 1))), ((8, 44), (127, 0, 1, false), ((3, 200), (3, 201), (3, 202))), ((8, 47), (363, 2, 0, false), ((3, 204), (2, 216), (1, 18))), ((8, 53), (128, 0, 1, false), ((3, 205), (3, 206), (3, 207))), ((8, 56), (129, 1, 1, false), ((3, 209), (3, 211), (0, 5))), ((8, 60), (130, 1, 1, false), ((3, 213), (3, 215), (0, 6))), ((8, 64), (366, 0, 1, false), ((3, 238), (3, 239), (4, 0))), ((8, 69), (368, 1, 1, false), ((4, 8), (4, 9), (4, 10))), ((8, 73), (136, 1, 1, false), ((4, 77), (4, 78), (4, 79))), ((8, 77), (133, 1, 1, false), ((4, 63), (4, 51), (4, 52))), ((9, 34), (144, 0, 1, false), ((6, 163), (6, 165), (0, 41))), ((9, 37), (32, 1, 1, false), ((6, 167), (3, 7), (3, 8))), ((9, 43), (59, 2, 1, false), ((6, 168), (6, 169), (6, 170))), ((9, 47), (14, 1, 1, false), ((6, 172), (6, 173), (6, 174))), ((9, 53), (145, 2, 1, false), ((6, 177), (6, 179), (0, 42))), ((9, 57), (363, 2, 0, false), ((6, 181), (2, 216), (1, 18))), ((9, 62), (362, 2, 0, false), ((6, 182), (3, 46), (1, 18))), ((9, 65), (160, 2, 0, true), ((6, 183), (1, 166), (1, 1))), ((9, 69), (159, 3, 0, true), ((6, 184), (1, 100), (1, 1))), ((9, 73), (12, 1, 1, false), ((6, 212), (5, 97), (5, 98))), ((10, 21), (36, 1, 1, false), ((7, 66), (3, 71), (3, 72))), ((10, 27), (28, 0, 1, false), ((7, 67), (2, 201), (2, 202))), ((10, 31), (108, 0, 1, false), ((7, 68), (3, 75), (3, 76))), ((10, 38), (362, 2, 0, false), ((7, 70), (3, 46), (1, 18))), ((11, 9), (122, 0, 2, true), ((1, 36), (1, 37), (1, 37))), ((11, 18), (27, 0, 2, false), ((1, 71), (1, 72), (1, 72))), ((11, 25), (0, 0, 2, true), ((1, 204), (1, 205), (1, 205))), ((11, 32), (15, 0, 2, false), ((1, 227), (1, 88), (1, 88))), ((11, 39), (110, 0, 2, true), ((1, 230), (1, 231), (1, 231))), ((11, 46), (142, 0, 2, true), ((2, 21), (2, 22), (2, 22)))]
def pm_ttf_6 : List ((Nat × Nat) × (Nat × Nat × Nat × Bool) × ((Nat × Nat) × (Nat × Nat) × (Nat × Nat))) := [((11, 53), (62, 0, 2, true), ((2, 49), (2, 50), (2, 50))), ((11, 60), (153, 0, 2, true), ((2, 96), (2, 97), (2, 97))), ((11, 67), (78, 0, 2, true), ((2, 111), (1, 115), (1, 115))), ((11, 74), (8, 0, 2, true), ((2, 114), (2, 115), (2, 115))), ((11, 92), (123, 0, 1, false), ((2, 175), (2, 176), (2, 177))), ((11, 96), (124, 1, 1, false), ((2, 179), (2, 180), (2, 181))), ((11, 100), (173, 2, 1, false), ((3, 121), (3, 123), (0, 2))), ((11, 104), (126, 1, 1, false), ((3, 196), (3, 197), (3, 198))), ((11, 107), (86, 1, 1, false), ((3, 218), (3, 219), (3, 220))), ((11, 111), (137, 0, 1, false), ((4, 81), (4, 82), (4, 83))), ((11, 114), (138, 0, 1, false), ((4, 85), (4, 86), (4, 87))), ((11, 118), (139, 0, 1, false), ((4, 89), (4, 90), (4, 91))), ((11, 121), (37, 0, 1, false), ((4, 93), (4, 94), (4, 95))), ((11, 125), (38, 1, 1, false), ((4, 97), (4, 98), (4, 99))), ((11, 129), (9, 0, 1, false), ((4, 102), (4, 103), (4, 104))), ((11, 130), (6, 0, 1, false), ((4, 106), (4, 107), (4, 108))), ((11, 131), (81, 0, 1, false), ((4, 110), (2, 230), (2, 231))), ((11, 134), (174, 1, 1, false), ((3, 125), (3, 127), (0, 3))), ((11, 138), (20, 1, 1, false), ((4, 118), (4, 119), (4, 120))), ((11, 139), (33, 1, 1, false), ((4, 161), (3, 34), (3, 35))), ((11, 143), (26, 1, 1, false), ((4, 162), (4, 163), (4, 164))), ((11, 147), (1, 0, 1, false), ((2, 196), (2, 197), (2, 198))), ((11, 150), (127, 0, 1, false), ((4, 174), (3, 201), (3, 202))), ((11, 153), (111, 2, 1, false), ((4, 175), (4, 176), (4, 177))), ((11, 156), (28, 0, 1, false), ((2, 200), (2, 201), (2, 202))), ((11, 160), (7, 1, 1, false), ((4, 218), (4, 219), (4, 220))), ((11, 164), (116, 0, 1, false), ((4, 222), (4, 223), (4, 224))), ((11, 166), (117, 0, 1, false), ((4, 226), (4, 227), (4, 228))), ((11, 167), (118, 4, 1, true), ((4, 230), (4, 232), (0, 17))), ((11, 171), (120, 0, 1, false), ((5, 66), (5, 67), (5, 68)))]
def pm_ttf_7 : List ((Nat × Nat) × (Nat × Nat × Nat × Bool) × ((Nat × Nat) × (Nat × Nat) × (Nat × Nat))) := [((11, 174), (121, 0, 1, false), ((5, 70), (5, 71), (5, 72))), ((11, 177), (10, 1, 1, false), ((5, 81), (5, 82), (5, 83))), ((11, 178), (13, 0, 1, false), ((5, 105), (5, 106), (5, 107))), ((11, 181), (125, 0, 1, false), ((2, 188), (2, 189), (2, 190))), ((11, 184), (2, 1, 1, false), ((2, 204), (2, 205), (2, 206))), ((11, 187), (92, 0, 1, false), ((5, 116), (4, 215), (4, 216))), ((11, 190), (107, 0, 1, false), ((5, 117), (3, 30), (3, 31))), ((11, 195), (108, 0, 1, false), ((3, 74), (3, 75), (3, 76))), ((11, 198), (36, 1, 1, false), ((3, 70), (3, 71), (3, 72))), ((11, 202), (93, 0, 1, false), ((5, 118), (5, 9), (5, 10))), ((11, 205), (180, 1, 1, false), ((5, 127), (5, 129), (0, 29))), ((11, 208), (82, 1, 1, false), ((5, 151), (3, 11), (3, 12))), ((11, 211), (83, 1, 1, false), ((5, 152), (3, 16), (3, 17))), ((11, 214), (96, 1, 1, false), ((5, 153), (5, 154), (5, 155))), ((11, 217), (106, 2, 1, false), ((5, 157), (2, 238), (2, 239))), ((11, 221), (182, 1, 1, false), ((5, 165), (5, 167), (0, 30))), ((11, 224), (98, 1, 1, false), ((5, 174), (5, 175), (5, 176))), ((11, 227), (99, 1, 1, false), ((5, 178), (5, 179), (5, 180))), ((11, 230), (94, 1, 1, false), ((5, 182), (5, 22), (5, 23))), ((11, 233), (42, 1, 1, false), ((5, 183), (5, 18), (5, 19))), ((11, 236), (31, 2, 1, false), ((5, 191), (3, 3), (3, 4))), ((11, 239), (47, 1, 1, false), ((5, 199), (5, 43), (5, 44))), ((11, 242), (52, 6, 1, false), ((5, 207), (5, 208), (5, 209))), ((11, 246), (29, 0, 1, false), ((2, 225), (2, 226), (2, 227))), ((11, 249), (53, 3, 1, false), ((5, 218), (5, 219), (5, 220))), ((11, 253), (54, 1, 1, false), ((5, 236), (5, 237), (5, 238))), ((11, 256), (55, 1, 1, false), ((6, 1), (6, 2), (6, 3))), ((11, 259), (362, 2, 0, false), ((6, 5), (3, 46), (1, 18))), ((11, 264), (56, 3, 1, false), ((6, 13), (6, 14), (6, 15))), ((11, 267), (63, 1, 1, false), ((6, 26), (6, 27), (6, 28)))]
def pm_ttf_8 : List ((Nat × Nat) × (Nat × Nat × Nat × Bool) × ((Nat × Nat) × (Nat × Nat) × (Nat × Nat))) := [((11, 271), (75, 0, 1, false), ((6, 92), (6, 93), (6, 94))), ((11, 274), (76, 0, 1, false), ((6, 96), (6, 97), (6, 98))), ((11, 277), (77, 1, 1, false), ((6, 107), (6, 108), (6, 109))), ((11, 280), (34, 0, 1, false), ((3, 53), (3, 54), (3, 55))), ((11, 283), (84, 1, 1, false), ((6, 118), (3, 20), (3, 21))), ((11, 286), (58, 1, 1, false), ((6, 126), (6, 127), (6, 128))), ((11, 289), (48, 2, 1, false), ((6, 137), (5, 48), (5, 49))), ((11, 293), (363, 2, 0, false), ((2, 215), (2, 216), (1, 18))), ((11, 296), (143, 3, 1, false), ((6, 159), (6, 160), (6, 161))), ((11, 299), (146, 0, 1, false), ((6, 185), (6, 186), (6, 187))), ((11, 302), (147, 0, 1, false), ((6, 189), (6, 190), (6, 191))), ((11, 305), (148, 0, 1, false), ((6, 193), (6, 194), (6, 195))), ((11, 308), (149, 0, 1, false), ((6, 197), (6, 198), (6, 199))), ((11, 311), (150, 1, 1, false), ((6, 208), (6, 209), (6, 210))), ((11, 315), (151, 0, 1, false), ((6, 213), (6, 214), (6, 215))), ((11, 316), (152, 0, 1, false), ((6, 217), (6, 218), (6, 219))), ((11, 319), (200, 1, 0, false), ((6, 228), (6, 229), (1, 1))), ((11, 323), (201, 2, 0, false), ((6, 231), (6, 232), (1, 1))), ((11, 329), (60, 2, 1, false), ((7, 22), (7, 23), (7, 24))), ((11, 332), (208, 3, 0, false), ((7, 39), (7, 40), (1, 1))), ((11, 335), (209, 3, 0, false), ((7, 42), (7, 43), (1, 1))), ((11, 338), (212, 3, 0, false), ((7, 59), (7, 60), (1, 1))), ((11, 342), (154, 5, 1, false), ((7, 62), (7, 63), (7, 64))), ((11, 346), (155, 0, 1, false), ((7, 71), (7, 72), (7, 73))), ((11, 349), (156, 0, 1, false), ((7, 75), (7, 76), (7, 77))), ((11, 352), (157, 0, 1, false), ((7, 79), (7, 80), (7, 81))), ((11, 355), (3, 0, 1, false), ((3, 82), (3, 83), (3, 84))), ((11, 358), (4, 1, 1, false), ((3, 86), (3, 87), (3, 88))), ((11, 361), (5, 1, 1, false), ((3, 100), (3, 101), (3, 102))), ((11, 371), (95, 1, 1, false), ((5, 131), (5, 132), (5, 133)))]
def pm_ttf_9 : List ((Nat × Nat) × (Nat × Nat × Nat × Bool) × ((Nat × Nat) × (Nat × Nat) × (Nat × Nat))) := [((11, 379), (97, 1, 1, false), ((5, 169), (5, 170), (5, 171))), ((11, 384), (202, 2, 0, false), ((6, 234), (6, 235), (1, 1))), ((11, 387), (203, 2, 0, false), ((6, 237), (6, 238), (1, 1))), ((12, 105), (216, 0, 1, false), ((7, 100), (7, 102), (0, 44))), ((12, 108), (217, 0, 1, false), ((7, 104), (7, 106), (0, 45))), ((12, 126), (226, 0, 1, false), ((8, 79), (8, 81), (0, 51))), ((12, 130), (228, 1, 0, false), ((8, 90), (8, 91), (1, 13))), ((12, 134), (366, 0, 1, false), ((8, 88), (3, 239), (4, 0))), ((12, 139), (368, 1, 1, false), ((8, 89), (4, 9), (4, 10))), ((12, 143), (224, 0, 1, false), ((8, 71), (8, 73), (0, 49))), ((12, 147), (236, 1, 0, false), ((8, 123), (8, 124), (1, 13))), ((12, 150), (232, 2, 1, false), ((8, 107), (8, 109), (0, 54))), ((12, 178), (218, 3, 1, false), ((7, 108), (7, 110), (0, 46))), ((12, 195), (231, 1, 0, false), ((8, 101), (8, 102), (1, 13))), ((12, 199), (235, 2, 1, false), ((8, 119), (8, 121), (0, 57))), ((12, 207), (222, 3, 1, false), ((8, 63), (8, 65), (0, 47))), ((12, 211), (223, 1, 1, false), ((8, 67), (8, 69), (0, 48))), ((12, 215), (225, 0, 1, false), ((8, 75), (8, 77), (0, 50))), ((12, 220), (227, 1, 1, false), ((8, 84), (8, 86), (0, 52))), ((12, 224), (229, 0, 1, false), ((8, 93), (8, 95), (0, 53))), ((12, 227), (230, 1, 0, false), ((8, 97), (8, 98), (1, 13))), ((12, 230), (233, 0, 1, false), ((8, 111), (8, 113), (0, 55))), ((12, 233), (234, 0, 1, false), ((8, 115), (8, 117), (0, 56))), ((12, 236), (237, 1, 1, false), ((8, 126), (8, 128), (0, 58))), ((12, 239), (238, 1, 1, false), ((8, 130), (8, 132), (0, 59))), ((12, 242), (239, 1, 1, false), ((8, 134), (8, 136), (0, 60))), ((12, 249), (243, 0, 1, false), ((8, 149), (8, 151), (0, 62))), ((12, 252), (246, 2, 1, false), ((8, 161), (8, 163), (0, 65))), ((12, 255), (244, 0, 1, false), ((8, 153), (8, 155), (0, 63))), ((12, 258), (245, 1, 1, false), ((8, 157), (8, 159), (0, 64)))]
def pm_ttf_10 : List ((Nat × Nat) × (Nat × Nat × Nat × Bool) × ((Nat × Nat) × (Nat × Nat) × (Nat × Nat))) := [((12, 261), (242, 0, 1, false), ((8, 145), (8, 147), (0, 61))), ((12, 282), (247, 2, 1, false), ((8, 166), (8, 168), (0, 66))), ((12, 287), (248, 0, 1, false), ((8, 171), (8, 173), (0, 67))), ((12, 290), (241, 3, 0, false), ((8, 142), (8, 143), (1, 13))), ((12, 294), (270, 3, 0, false), ((9, 35), (9, 36), (1, 13))), ((12, 298), (269, 1, 1, false), ((9, 31), (9, 33), (0, 87))), ((12, 306), (251, 3, 1, false), ((8, 192), (8, 194), (0, 69))), ((12, 312), (252, 0, 1, false), ((8, 197), (8, 199), (0, 70))), ((12, 327), (250, 0, 1, false), ((8, 187), (8, 189), (0, 68))), ((12, 330), (253, 0, 1, false), ((8, 207), (8, 209), (0, 71))), ((12, 342), (254, 2, 1, false), ((8, 211), (8, 213), (0, 72))), ((12, 345), (255, 3, 1, false), ((8, 215), (8, 217), (0, 73))), ((12, 357), (267, 2, 1, false), ((9, 23), (9, 25), (0, 85))), ((12, 361), (266, 1, 1, false), ((9, 19), (9, 21), (0, 84))), ((12, 364), (268, 1, 1, false), ((9, 27), (9, 29), (0, 86))), ((12, 367), (265, 4, 1, false), ((9, 15), (9, 17), (0, 83))), ((12, 371), (264, 2, 1, false), ((9, 11), (9, 13), (0, 82))), ((12, 374), (257, 1, 1, false), ((8, 223), (8, 225), (0, 75))), ((12, 377), (259, 1, 1, false), ((8, 231), (8, 233), (0, 77))), ((12, 380), (263, 1, 1, false), ((9, 7), (9, 9), (0, 81))), ((12, 383), (262, 1, 1, false), ((9, 3), (9, 5), (0, 80))), ((12, 386), (271, 1, 1, false), ((9, 38), (9, 40), (0, 88))), ((12, 389), (256, 0, 1, false), ((8, 219), (8, 221), (0, 74))), ((12, 392), (258, 2, 1, false), ((8, 227), (8, 229), (0, 76))), ((12, 395), (260, 2, 1, false), ((8, 235), (8, 237), (0, 78))), ((12, 398), (261, 1, 1, false), ((8, 239), (9, 1), (0, 79))), ((12, 401), (272, 0, 1, false), ((9, 42), (9, 44), (0, 89))), ((12, 404), (277, 2, 1, false), ((9, 62), (9, 64), (0, 90))), ((12, 407), (279, 2, 1, false), ((9, 70), (9, 72), (0, 91))), ((12, 410), (285, 2, 1, false), ((9, 94), (9, 96), (0, 92)))]
def pm_ttf_11 : List ((Nat × Nat) × (Nat × Nat × Nat × Bool) × ((Nat × Nat) × (Nat × Nat) × (Nat × Nat))) := [((12, 413), (289, 2, 1, false), ((9, 110), (9, 112), (0, 93))), ((12, 419), (292, 2, 1, false), ((9, 122), (9, 124), (0, 95))), ((12, 422), (293, 2, 1, false), ((9, 126), (9, 128), (0, 96))), ((12, 425), (291, 0, 1, false), ((9, 118), (9, 120), (0, 94))), ((12, 428), (304, 2, 0, false), ((9, 170), (9, 171), (1, 13))), ((12, 431), (303, 1, 1, false), ((9, 166), (9, 168), (0, 97))), ((12, 434), (306, 1, 1, false), ((9, 177), (9, 179), (0, 98))), ((12, 437), (307, 1, 1, false), ((9, 181), (9, 183), (0, 99))), ((12, 440), (310, 2, 0, false), ((9, 192), (9, 193), (1, 13))), ((12, 444), (309, 2, 0, false), ((9, 189), (9, 190), (1, 13))), ((12, 450), (311, 3, 0, false), ((9, 196), (9, 197), (1, 13))), ((12, 457), (317, 3, 0, false), ((9, 220), (9, 221), (1, 13))), ((12, 460), (316, 5, 0, false), ((9, 217), (9, 218), (1, 13))), ((12, 471), (322, 0, 1, false), ((9, 238), (10, 0), (0, 101))), ((12, 474), (320, 3, 0, false), ((9, 231), (9, 232), (1, 13))), ((12, 477), (321, 4, 1, false), ((9, 234), (9, 236), (0, 100))), ((12, 481), (326, 4, 1, false), ((10, 15), (10, 17), (0, 103))), ((12, 485), (325, 2, 1, false), ((10, 11), (10, 13), (0, 102))), ((13, 7), (172, 1, 1, false), ((3, 117), (3, 118), (3, 119))), ((13, 15), (175, 2, 1, false), ((4, 114), (4, 115), (4, 116))), ((13, 19), (176, 1, 1, false), ((4, 170), (4, 171), (4, 172))), ((13, 22), (177, 1, 1, false), ((5, 77), (5, 78), (5, 79))), ((13, 25), (178, 1, 1, false), ((5, 112), (5, 113), (5, 114))), ((13, 28), (179, 2, 1, false), ((5, 123), (5, 124), (5, 125))), ((13, 33), (181, 2, 1, false), ((5, 161), (5, 162), (5, 163))), ((13, 36), (183, 2, 1, false), ((5, 187), (5, 188), (5, 189))), ((13, 39), (184, 1, 1, false), ((5, 195), (5, 196), (5, 197))), ((13, 42), (185, 6, 1, false), ((5, 203), (5, 204), (5, 205))), ((13, 46), (186, 1, 1, false), ((5, 214), (5, 215), (5, 216))), ((13, 49), (187, 1, 1, false), ((5, 225), (5, 226), (5, 227)))]
def pm_ttf_12 : List ((Nat × Nat) × (Nat × Nat × Nat × Bool) × ((Nat × Nat) × (Nat × Nat) × (Nat × Nat))) := [((13, 52), (188, 2, 1, false), ((5, 232), (5, 233), (5, 234))), ((13, 55), (189, 2, 1, false), ((6, 9), (6, 10), (6, 11))), ((13, 58), (190, 1, 1, false), ((6, 22), (6, 23), (6, 24))), ((13, 61), (191, 1, 1, false), ((6, 103), (6, 104), (6, 105))), ((13, 64), (192, 1, 1, false), ((6, 114), (6, 115), (6, 116))), ((13, 67), (193, 1, 1, false), ((6, 122), (6, 123), (6, 124))), ((13, 70), (194, 1, 1, false), ((6, 133), (6, 134), (6, 135))), ((13, 74), (195, 1, 1, false), ((6, 141), (6, 142), (6, 143))), ((13, 77), (196, 1, 1, false), ((6, 148), (6, 149), (6, 150))), ((13, 80), (197, 2, 1, false), ((6, 155), (6, 156), (6, 157))), ((13, 83), (198, 2, 1, false), ((6, 204), (6, 205), (6, 206))), ((13, 86), (199, 3, 1, false), ((6, 224), (6, 225), (6, 226))), ((13, 90), (204, 2, 1, false), ((7, 3), (7, 4), (7, 5))), ((13, 93), (205, 3, 1, false), ((7, 11), (7, 12), (7, 13))), ((13, 97), (206, 2, 1, false), ((7, 18), (7, 19), (7, 20))), ((13, 100), (207, 4, 1, false), ((7, 35), (7, 36), (7, 37))), ((13, 104), (210, 3, 1, false), ((7, 48), (7, 49), (7, 50))), ((13, 107), (211, 5, 1, false), ((7, 55), (7, 56), (7, 57))), ((13, 111), (213, 6, 1, false), ((7, 86), (7, 87), (7, 88))), ((13, 114), (158, 0, 2, false), ((1, 28), (1, 29), (1, 29))), ((13, 117), (215, 0, 2, false), ((7, 96), (7, 97), (7, 97))), ((13, 118), (161, 5, 1, false), ((2, 171), (2, 172), (2, 173))), ((13, 121), (219, 5, 1, false), ((8, 51), (8, 52), (8, 53))), ((13, 122), (330, 3, 0, false), ((3, 113), (3, 114), (1, 0))), ((13, 127), (221, 1, 1, false), ((8, 59), (8, 60), (8, 61))), ((13, 128), (214, 0, 1, false), ((7, 90), (7, 91), (7, 92))), ((13, 132), (331, 4, 0, false), ((4, 111), (4, 112), (1, 0))), ((13, 135), (240, 2, 1, false), ((8, 138), (8, 139), (8, 140))), ((13, 136), (332, 3, 0, false), ((4, 167), (4, 168), (1, 0))), ((13, 138), (249, 1, 1, false), ((8, 183), (8, 184), (8, 185)))]
def pm_ttf_13 : List ((Nat × Nat) × (Nat × Nat × Nat × Bool) × ((Nat × Nat) × (Nat × Nat) × (Nat × Nat))) := [((13, 139), (333, 3, 0, false), ((5, 74), (5, 75), (1, 0))), ((13, 141), (273, 1, 1, false), ((9, 46), (9, 47), (9, 48))), ((13, 142), (162, 0, 1, false), ((2, 184), (2, 185), (2, 186))), ((13, 145), (220, 0, 1, false), ((8, 55), (8, 56), (8, 57))), ((13, 146), (163, 0, 1, false), ((2, 192), (2, 193), (2, 194))), ((13, 149), (274, 0, 1, false), ((9, 50), (9, 51), (9, 52))), ((13, 150), (334, 3, 0, false), ((5, 109), (5, 110), (1, 0))), ((13, 152), (275, 1, 1, false), ((9, 54), (9, 55), (9, 56))), ((13, 153), (335, 4, 0, false), ((5, 119), (5, 120), (1, 0))), ((13, 155), (276, 2, 1, false), ((9, 58), (9, 59), (9, 60))), ((13, 156), (336, 4, 0, false), ((5, 158), (5, 159), (1, 0))), ((13, 158), (278, 2, 1, false), ((9, 66), (9, 67), (9, 68))), ((13, 159), (337, 4, 0, false), ((5, 184), (5, 185), (1, 0))), ((13, 161), (280, 2, 1, false), ((9, 74), (9, 75), (9, 76))), ((13, 162), (338, 3, 0, false), ((5, 192), (5, 193), (1, 0))), ((13, 164), (281, 1, 1, false), ((9, 78), (9, 79), (9, 80))), ((13, 165), (339, 8, 0, false), ((5, 200), (5, 201), (1, 0))), ((13, 168), (282, 6, 1, false), ((9, 82), (9, 83), (9, 84))), ((13, 169), (165, 0, 1, false), ((2, 221), (2, 222), (2, 223))), ((13, 172), (283, 0, 1, false), ((9, 86), (9, 87), (9, 88))), ((13, 173), (340, 3, 0, false), ((5, 211), (5, 212), (1, 0))), ((13, 175), (284, 1, 1, false), ((9, 90), (9, 91), (9, 92))), ((13, 176), (341, 3, 0, false), ((5, 222), (5, 223), (1, 0))), ((13, 178), (286, 1, 1, false), ((9, 98), (9, 99), (9, 100))), ((13, 179), (342, 4, 0, false), ((5, 229), (5, 230), (1, 0))), ((13, 181), (287, 2, 1, false), ((9, 102), (9, 103), (9, 104))), ((13, 182), (343, 4, 0, false), ((6, 6), (6, 7), (1, 0))), ((13, 184), (288, 2, 1, false), ((9, 106), (9, 107), (9, 108))), ((13, 185), (344, 3, 0, false), ((6, 19), (6, 20), (1, 0))), ((13, 187), (290, 1, 1, false), ((9, 114), (9, 115), (9, 116)))]
def pm_ttf_14 : List ((Nat × Nat) × (Nat × Nat × Nat × Bool) × ((Nat × Nat) × (Nat × Nat) × (Nat × Nat))) := [((13, 188), (345, 3, 0, false), ((6, 100), (6, 101), (1, 0))), ((13, 190), (294, 1, 1, false), ((9, 130), (9, 131), (9, 132))), ((13, 191), (166, 0, 1, false), ((3, 49), (3, 50), (3, 51))), ((13, 194), (295, 0, 1, false), ((9, 134), (9, 135), (9, 136))), ((13, 195), (346, 3, 0, false), ((6, 111), (6, 112), (1, 0))), ((13, 197), (296, 1, 1, false), ((9, 138), (9, 139), (9, 140))), ((13, 198), (347, 3, 0, false), ((6, 119), (6, 120), (1, 0))), ((13, 200), (297, 1, 1, false), ((9, 142), (9, 143), (9, 144))), ((13, 201), (348, 3, 0, false), ((6, 130), (6, 131), (1, 0))), ((13, 203), (298, 1, 1, false), ((9, 146), (9, 147), (9, 148))), ((13, 204), (349, 3, 0, false), ((6, 138), (6, 139), (1, 0))), ((13, 206), (299, 1, 1, false), ((9, 150), (9, 151), (9, 152))), ((13, 207), (350, 3, 0, false), ((6, 145), (6, 146), (1, 0))), ((13, 209), (300, 1, 1, false), ((9, 154), (9, 155), (9, 156))), ((13, 210), (167, 0, 1, false), ((3, 66), (3, 67), (3, 68))), ((13, 213), (301, 0, 1, false), ((9, 158), (9, 159), (9, 160))), ((13, 214), (351, 4, 0, false), ((6, 152), (6, 153), (1, 0))), ((13, 216), (302, 2, 1, false), ((9, 162), (9, 163), (9, 164))), ((13, 217), (352, 4, 0, false), ((6, 201), (6, 202), (1, 0))), ((13, 219), (305, 2, 1, false), ((9, 173), (9, 174), (9, 175))), ((13, 220), (353, 5, 0, false), ((6, 221), (6, 222), (1, 0))), ((13, 223), (308, 3, 1, false), ((9, 185), (9, 186), (9, 187))), ((13, 224), (354, 4, 0, false), ((7, 0), (7, 1), (1, 0))), ((13, 226), (312, 2, 1, false), ((9, 199), (9, 200), (9, 201))), ((13, 227), (355, 5, 0, false), ((7, 8), (7, 9), (1, 0))), ((13, 229), (313, 3, 1, false), ((9, 203), (9, 204), (9, 205))), ((13, 230), (356, 4, 0, false), ((7, 15), (7, 16), (1, 0))), ((13, 232), (314, 2, 1, false), ((9, 209), (9, 210), (9, 211))), ((13, 233), (357, 6, 0, false), ((7, 32), (7, 33), (1, 0))), ((13, 236), (315, 4, 1, false), ((9, 213), (9, 214), (9, 215)))]
def pm_ttf_15 : List ((Nat × Nat) × (Nat × Nat × Nat × Bool) × ((Nat × Nat) × (Nat × Nat) × (Nat × Nat))) := [((13, 237), (358, 5, 0, false), ((7, 45), (7, 46), (1, 0))), ((13, 239), (318, 3, 1, false), ((9, 223), (9, 224), (9, 225))), ((13, 240), (359, 7, 0, false), ((7, 52), (7, 53), (1, 0))), ((13, 243), (319, 5, 1, false), ((9, 227), (9, 228), (9, 229))), ((13, 244), (360, 8, 0, false), ((7, 83), (7, 84), (1, 0))), ((13, 246), (323, 6, 1, false), ((10, 3), (10, 4), (10, 5))), ((13, 247), (168, 0, 1, false), ((3, 78), (3, 79), (3, 80))), ((13, 250), (324, 0, 1, false), ((10, 7), (10, 8), (10, 9))), ((13, 251), (169, 0, 1, false), ((3, 96), (3, 97), (3, 98))), ((13, 254), (327, 0, 1, false), ((10, 19), (10, 20), (10, 21))), ((13, 255), (170, 1, 1, false), ((3, 105), (3, 106), (3, 107))), ((13, 258), (328, 1, 1, false), ((10, 23), (10, 24), (10, 25))), ((13, 259), (171, 1, 1, false), ((3, 109), (3, 110), (3, 111))), ((13, 262), (329, 1, 1, false), ((10, 27), (10, 28), (10, 29))), ((16, 335), (367, 0, 1, false), ((4, 2), (4, 3), (4, 4))), ((16, 492), (369, 0, 1, false), ((4, 12), (4, 13), (4, 14))), ((16, 495), (370, 2, 0, false), ((4, 16), (4, 17), (1, 20))), ((16, 1059), (372, 3, 0, false), ((4, 24), (4, 25), (1, 21))), ((17, 9), (371, 2, 0, false), ((4, 19), (4, 20), (1, 19)))]
/-- methods by class and entry: method, parameters, kind (static 0, virtual 1, special 2), by the nest; where the words stand -/
def pm_ttf : List ((Nat × Nat) × (Nat × Nat × Nat × Bool) × ((Nat × Nat) × (Nat × Nat) × (Nat × Nat))) := pm_ttf_0 ++ (pm_ttf_1 ++ (pm_ttf_2 ++ (pm_ttf_3 ++ (pm_ttf_4 ++ (pm_ttf_5 ++ (pm_ttf_6 ++ (pm_ttf_7 ++ (pm_ttf_8 ++ (pm_ttf_9 ++ (pm_ttf_10 ++ (pm_ttf_11 ++ (pm_ttf_12 ++ (pm_ttf_13 ++ (pm_ttf_14 ++ (pm_ttf_15)))))))))))))))
def pm_clf_0 : List ((Nat × Nat) × (Nat × Nat) × ((Nat × Nat) × (Nat × Nat) × (Nat × Nat))) := [((3, 9), (6, 1), ((1, 75), (1, 76), (1, 4))), ((3, 18), (2, 3), ((1, 85), (1, 86), (1, 5))), ((3, 38), (5, 11), ((1, 112), (1, 113), (1, 6))), ((11, 7), (8, 9), ((1, 34), (1, 35), (1, 2))), ((11, 16), (3, 7), ((1, 69), (1, 70), (1, 3))), ((11, 23), (0, 5), ((1, 202), (1, 203), (1, 7))), ((11, 30), (2, 3), ((1, 226), (1, 86), (1, 5))), ((11, 37), (7, 8), ((1, 228), (1, 229), (1, 8))), ((11, 44), (9, 7), ((2, 19), (2, 20), (1, 9))), ((11, 51), (4, 13), ((2, 47), (2, 48), (1, 10))), ((11, 58), (10, 3), ((2, 94), (2, 95), (1, 11))), ((11, 65), (5, 11), ((2, 110), (1, 113), (1, 6))), ((11, 72), (1, 3), ((2, 112), (2, 113), (1, 12))), ((13, 8), (11, 14), ((1, 26), (1, 27), (1, 1))), ((13, 115), (12, 59), ((7, 94), (7, 95), (1, 13)))]
/-- classes by class and entry: class, fields; where the words stand -/
def pm_clf : List ((Nat × Nat) × (Nat × Nat) × ((Nat × Nat) × (Nat × Nat) × (Nat × Nat))) := pm_clf_0
def pm_ctf_0 : List ((Nat × Nat) × Value × (Nat × Nat)) := [((2, 97), .retAddr 14, (0, 0)), ((2, 103), .retAddr 16, (0, 0)), ((2, 105), .retAddr 18, (0, 0)), ((2, 107), .retAddr 20, (0, 0)), ((2, 109), .retAddr 22, (0, 0)), ((2, 111), .retAddr 24, (0, 0)), ((2, 113), .retAddr 26, (0, 0)), ((2, 115), .retAddr 28, (0, 0)), ((2, 117), .retAddr 30, (0, 0)), ((2, 119), .retAddr 32, (0, 0)), ((4, 147), .long 16777215, (6, 87)), ((5, 93), .retAddr 4, (0, 0)), ((5, 99), .retAddr 6, (0, 0)), ((5, 101), .retAddr 8, (0, 0)), ((5, 103), .retAddr 10, (0, 0)), ((5, 104), .retAddr 12, (0, 0)), ((7, 95), .retAddr 34, (0, 0)), ((7, 101), .retAddr 36, (0, 0)), ((7, 103), .retAddr 38, (0, 0)), ((7, 105), .retAddr 40, (0, 0)), ((7, 107), .retAddr 42, (0, 0)), ((7, 109), .retAddr 44, (0, 0)), ((7, 111), .retAddr 46, (0, 0)), ((7, 113), .retAddr 32, (0, 0)), ((7, 115), .retAddr 48, (0, 0)), ((8, 63), .int 1000000, (3, 217)), ((10, 37), .int 1103515245, (7, 69)), ((11, 327), .long 16, (7, 7)), ((11, 366), .retAddr 2, (0, 0)), ((11, 376), .retAddr 50, (0, 0))]
def pm_ctf_1 : List ((Nat × Nat) × Value × (Nat × Nat)) := [((11, 382), .retAddr 52, (0, 0)), ((12, 194), .retAddr 4, (0, 0)), ((12, 203), .retAddr 6, (0, 0)), ((12, 204), .retAddr 10, (0, 0)), ((12, 206), .retAddr 12, (0, 0)), ((12, 218), .retAddr 8, (0, 0)), ((12, 264), .retAddr 18, (0, 0)), ((12, 266), .retAddr 20, (0, 0)), ((12, 268), .retAddr 22, (0, 0)), ((12, 270), .retAddr 24, (0, 0)), ((12, 272), .retAddr 26, (0, 0)), ((12, 274), .retAddr 28, (0, 0)), ((12, 276), .retAddr 30, (0, 0)), ((12, 278), .retAddr 32, (0, 0)), ((12, 280), .retAddr 14, (0, 0)), ((12, 285), .retAddr 16, (0, 0)), ((12, 304), .retAddr 34, (0, 0)), ((12, 310), .retAddr 36, (0, 0)), ((12, 315), .retAddr 38, (0, 0)), ((12, 317), .retAddr 40, (0, 0)), ((12, 319), .retAddr 42, (0, 0)), ((12, 321), .retAddr 44, (0, 0)), ((12, 323), .retAddr 46, (0, 0)), ((12, 325), .retAddr 48, (0, 0)), ((12, 448), .long 16, (9, 195)), ((12, 453), .long 1000000000, (9, 207)), ((12, 455), .long 1000, (9, 208)), ((12, 467), .int 1103515245, (10, 2)), ((15, 265), .int 1431655765, (3, 26)), ((15, 266), .int 858993459, (3, 27))]
def pm_ctf_2 : List ((Nat × Nat) × Value × (Nat × Nat)) := [((15, 267), .int 252645135, (3, 28))]
/-- constants by class and entry; where the word stands -/
def pm_ctf : List ((Nat × Nat) × Value × (Nat × Nat)) := pm_ctf_0 ++ (pm_ctf_1 ++ (pm_ctf_2))
/-- where a method's code stands -/
def pm_cdh : List (Nat × Nat) := [(1, 206), (2, 199), (2, 207), (3, 85), (3, 89), (3, 103), (4, 109), (4, 221), (2, 116), (4, 105), (5, 84), (5, 89), (5, 99), (5, 108), (6, 175), (1, 89), (1, 94), (1, 98), (3, 40), (3, 43), (4, 121), (4, 125), (4, 129), (4, 133), (4, 136), (4, 142), (4, 165), (1, 73), (2, 203), (2, 228), (2, 236), (3, 5), (3, 9), (3, 36), (3, 56), (3, 60), (3, 73), (4, 96), (4, 100), (5, 2), (5, 6), (5, 16), (5, 20), (5, 28), (5, 33), (5, 37), (5, 41), (5, 45), (5, 50), (5, 54), (5, 58), (5, 62), (5, 210), (5, 221), (5, 239), (6, 4), (6, 16), (6, 59), (6, 129), (6, 171), (7, 25), (7, 29), (2, 51), (6, 29), (6, 33), (6, 42), (6, 46), (6, 54), (6, 64), (6, 68), (6, 72), (6, 75), (6, 82), (6, 86), (6, 91), (6, 95), (6, 99), (6, 110), (1, 116), (1, 164), (1, 175), (2, 232), (3, 13), (3, 18), (3, 22), (3, 64), (3, 221), (3, 229), (3, 232), (4, 58), (4, 68), (4, 72), (4, 217), (5, 11), (5, 24), (5, 134), (5, 156), (5, 172), (5, 177), (5, 181), (1, 79), (1, 155), (1, 159), (1, 171), (1, 179), (2, 211), (3, 0), (3, 32), (3, 77), (3, 93), (1, 232), (4, 178), (4, 183), (4, 186), (4, 204), (4, 211), (4, 225), (4, 229), (4, 233), (4, 237), (5, 69), (5, 73), (1, 38), (2, 178), (2, 182), (2, 191), (3, 199), (3, 203), (3, 208), (3, 212), (3, 216), (3, 225), (3, 237), (4, 53), (4, 62), (4, 76), (4, 80), (4, 84), (4, 88), (4, 92), (4, 154), (5, 95), (2, 23), (6, 162), (6, 166), (6, 180), (6, 188), (6, 192), (6, 196), (6, 200), (6, 211), (6, 216), (6, 220), (2, 98), (7, 65), (7, 74), (7, 78), (7, 82), (1, 30), (1, 101), (1, 167), (2, 174), (2, 187), (2, 195), (2, 214), (2, 224), (3, 52), (3, 69), (3, 81), (3, 99), (3, 108), (3, 112), (3, 120), (3, 124), (3, 128), (4, 117), (4, 173), (5, 80), (5, 115), (5, 126), (5, 130), (5, 164), (5, 168), (5, 190), (5, 198), (5, 206), (5, 217), (5, 228), (5, 235), (6, 12), (6, 25), (6, 106), (6, 117), (6, 125), (6, 136), (6, 144), (6, 151), (6, 158), (6, 207), (6, 227), (6, 230), (6, 233), (6, 236), (6, 239), (7, 6), (7, 14), (7, 21), (7, 38), (7, 41), (7, 44), (7, 51), (7, 58), (7, 61), (7, 89), (7, 93), (7, 98), (7, 103), (7, 107), (7, 111), (8, 54), (8, 58), (8, 62), (8, 66), (8, 70), (8, 74), (8, 78), (8, 82), (8, 87), (8, 92), (8, 96), (8, 99), (8, 103), (8, 110), (8, 114), (8, 118), (8, 122), (8, 125), (8, 129), (8, 133), (8, 137), (8, 141), (8, 144), (8, 148), (8, 152), (8, 156), (8, 160), (8, 164), (8, 169), (8, 174), (8, 186), (8, 190), (8, 195), (8, 200), (8, 210), (8, 214), (8, 218), (8, 222), (8, 226), (8, 230), (8, 234), (8, 238), (9, 2), (9, 6), (9, 10), (9, 14), (9, 18), (9, 22), (9, 26), (9, 30), (9, 34), (9, 37), (9, 41), (9, 45), (9, 49), (9, 53), (9, 57), (9, 61), (9, 65), (9, 69), (9, 73), (9, 77), (9, 81), (9, 85), (9, 89), (9, 93), (9, 97), (9, 101), (9, 105), (9, 109), (9, 113), (9, 117), (9, 121), (9, 125), (9, 129), (9, 133), (9, 137), (9, 141), (9, 145), (9, 149), (9, 153), (9, 157), (9, 161), (9, 165), (9, 169), (9, 172), (9, 176), (9, 180), (9, 184), (9, 188), (9, 191), (9, 194), (9, 198), (9, 202), (9, 206), (9, 212), (9, 216), (9, 219), (9, 222), (9, 226), (9, 230), (9, 233), (9, 237), (10, 1), (10, 6), (10, 10), (10, 14), (10, 18), (10, 22), (10, 26), (10, 30), (3, 115), (4, 113), (4, 169), (5, 76), (5, 111), (5, 121), (5, 160), (5, 186), (5, 194), (5, 202), (5, 213), (5, 224), (5, 231), (6, 8), (6, 21), (6, 102), (6, 113), (6, 121), (6, 132), (6, 140), (6, 147), (6, 154), (6, 203), (6, 223), (7, 2), (7, 10), (7, 17), (7, 34), (7, 47), (7, 54), (7, 85), (99, 0), (3, 47), (2, 217), (6, 78), (3, 25), (4, 1), (4, 5), (4, 11), (4, 15), (4, 18), (4, 21), (4, 26)]
def pm_ftl : List ((Nat × Nat) × (Nat × Nat × Nat)) := pm_ftf.map (fun q => (q.1, q.2.1))
def pm_ttl : List ((Nat × Nat) × (Nat × Nat × Nat × Bool)) := pm_ttf.map (fun q => (q.1, q.2.1))
def pm_cll : List ((Nat × Nat) × (Nat × Nat)) := pm_clf.map (fun q => (q.1, q.2.1))
def pm_ctl : List ((Nat × Nat) × Value) := pm_ctf.map (fun q => (q.1, q.2.1))
def pm_oil : List (Nat × Nat) := [(0, 3), (1, 3), (2, 3), (3, 3), (4, 3), (5, 3), (6, 5), (7, 3), (8, 3), (9, 3), (10, 3), (11, 1), (12, 11)]
def pm_acl : List (Nat × Nat) := [(11, 390)]
def pm_tx : List (List Nat) := [[97, 110, 32, 97, 114, 103, 117, 109, 101, 110, 116, 32, 105, 115, 32, 111, 117, 116, 115, 105, 100, 101, 32, 105, 116, 115, 32, 114, 97, 110, 103, 101], [115, 105, 103, 110, 101, 114], [116, 97, 107, 101, 114], [107, 105, 110, 115, 109, 97, 110], [115, 116, 111, 114, 101, 115], [118, 111, 121, 97, 103, 101], [108, 101, 97, 115, 116], [109, 111, 115, 116], [121, 101, 97, 114, 115], [97, 100, 100, 101, 100], [116, 114, 97, 100, 101], [104, 117, 110, 103, 114, 121], [107, 105, 110], [108, 111, 115, 116], [112, 108, 97, 99, 101, 100], [119, 101, 101, 107], [108, 97, 110, 100], [112, 108, 97, 99, 101], [97, 100, 100], [115, 116, 114, 105, 107, 101], [108, 111, 115, 101], [99, 111, 112, 121], [112, 97, 121], [97, 103, 97, 105, 110], [110, 111, 32, 115, 117, 99, 104, 32, 115, 105, 103, 110, 101, 114], [110, 111, 32, 115, 117, 99, 104, 32, 116, 97, 107, 101, 114]]
/-- the throws: method, place; kind, entries of the exception, of its text, of its constructor -/
def pm_twl : List ((Nat × Nat) × Nat × Nat × Nat × Nat) := [((174, 14), 2, 364, 366, 368), ((180, 24), 1, 374, 376, 378), ((182, 24), 1, 374, 382, 378)]
def pm_fkl : List (List Nat) := [[2, 2, 2, 0, 0], [2, 2, 0], [2, 2, 0], [2, 2, 2, 2, 2, 2, 2], [2, 2, 2, 2, 2, 2, 2, 0, 0, 0, 0, 0, 0], [2, 2, 2, 2, 2, 2, 2, 0, 0, 0, 0], [2], [2, 2, 2, 2, 0, 0, 0, 0], [2, 0, 0, 0, 0, 0, 0, 0, 0], [2, 0, 0, 0, 0, 0, 0], [0, 0, 0], [2, 2, 2, 2, 2, 2, 2, 2, 2, 2, 2, 0, 0, 0], [0, 2, 0, 0, 0, 0, 0, 0, 0, 2, 2, 2, 2, 2, 0, 0, 0, 0, 0, 0, 0, 2, 2, 2, 2, 2, 2, 0, 2, 2, 2, 0, 0, 0, 0, 0, 0, 2, 2, 2, 0, 0, 0, 2, 2, 0, 2, 2, 2, 2, 0, 2, 2, 2, 2, 0, 0, 2, 0]]
def pm_fnl : List (List Bool) := [[true, true, true, false, false], [true, true, false], [true, true, false], [true, true, true, true, true, true, false], [true, true, true, true, true, true, true, false, false, false, false, false, false], [true, true, true, true, true, true, true, false, false, false, false], [true], [true, true, true, true, false, false, false, false], [true, false, false, false, false, false, false, false, false], [true, false, false, false, false, false, false], [false, false, false], [true, true, true, true, true, true, true, true, false, false, false, false, false, false], [false, true, false, false, false, false, false, false, false, true, true, true, true, true, false, false, false, false, false, false, false, true, true, true, true, true, true, false, true, true, true, false, false, false, false, false, false, true, true, true, false, false, false, true, true, false, true, true, true, true, false, true, true, true, true, false, false, true, false]]
