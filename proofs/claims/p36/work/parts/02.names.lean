-- the classes of which the run makes objects (names and tables as the claim prints them)
def RJ0 : String := "java/lang/String"
def TJ0 : u_T := fun k => match k with
  | 0 => ("java/lang/String", "value", "[B", true)
  | 1 => ("java/lang/String", "coder", "B", true)
  | 2 => ("java/lang/String", "hash", "I", false)
  | _ => ("java/lang/String", "hashIsZero", "Z", false)
def tyJ0 : Nat → FieldType := fun k => match k with
  | 0 => .array .byte
  | 1 => .byte
  | 2 => .int
  | _ => .boolean
theorem nmJ0 : ∀ a, a < 4 → ∀ b, b < 4 → a ≠ b → (TJ0 a).2.1 ≠ (TJ0 b).2.1 := by decide +kernel
theorem tyJ0_ok : ∀ k, k < 4 → parseFieldDescriptor (TJ0 k).2.2.1 = some (tyJ0 k) := by decide +kernel
def RJ4 : String := "java/lang/StringBuilder"
def TJ4 : u_T := fun k => match k with
  | 0 => ("java/lang/AbstractStringBuilder", "value", "[B", false)
  | 1 => ("java/lang/AbstractStringBuilder", "coder", "B", false)
  | 2 => ("java/lang/AbstractStringBuilder", "maybeLatin1", "Z", false)
  | _ => ("java/lang/AbstractStringBuilder", "count", "I", false)
def tyJ4 : Nat → FieldType := fun k => match k with
  | 0 => .array .byte
  | 1 => .byte
  | 2 => .boolean
  | _ => .int
theorem nmJ4 : ∀ a, a < 4 → ∀ b, b < 4 → a ≠ b → (TJ4 a).2.1 ≠ (TJ4 b).2.1 := by decide +kernel
theorem tyJ4_ok : ∀ k, k < 4 → parseFieldDescriptor (TJ4 k).2.2.1 = some (tyJ4 k) := by decide +kernel
def RJx35411 : String := "java/util/ArrayList$Itr"
def TJx35411 : u_T := fun k => match k with
  | 0 => ("java/util/ArrayList$Itr", "cursor", "I", false)
  | 1 => ("java/util/ArrayList$Itr", "lastRet", "I", false)
  | 2 => ("java/util/ArrayList$Itr", "expectedModCount", "I", false)
  | _ => ("java/util/ArrayList$Itr", "this$0", "Ljava/util/ArrayList;", true)
def tyJx35411 : Nat → FieldType := fun k => match k with
  | 0 => .int
  | 1 => .int
  | 2 => .int
  | _ => .object "java/util/ArrayList"
theorem nmJx35411 : ∀ a, a < 4 → ∀ b, b < 4 → a ≠ b → (TJx35411 a).2.1 ≠ (TJx35411 b).2.1 := by decide +kernel
theorem tyJx35411_ok : ∀ k, k < 4 → parseFieldDescriptor (TJx35411 k).2.2.1 = some (tyJx35411 k) := by decide +kernel
def RJx4a65c : String := "java/util/ArrayList"
def TJx4a65c : u_T := fun k => match k with
  | 0 => ("java/util/AbstractList", "modCount", "I", false)
  | 1 => ("java/util/ArrayList", "elementData", "[Ljava/lang/Object;", false)
  | _ => ("java/util/ArrayList", "size", "I", false)
def tyJx4a65c : Nat → FieldType := fun k => match k with
  | 0 => .int
  | 1 => .array (.object "java/lang/Object")
  | _ => .int
theorem nmJx4a65c : ∀ a, a < 3 → ∀ b, b < 3 → a ≠ b → (TJx4a65c a).2.1 ≠ (TJx4a65c b).2.1 := by decide +kernel
theorem tyJx4a65c_ok : ∀ k, k < 3 → parseFieldDescriptor (TJx4a65c k).2.2.1 = some (tyJx4a65c k) := by decide +kernel
def RX0 : String := "Carcasswright$Board"
def TX0 : u_T := fun k => match k with
  | 0 => ("Carcasswright$Board", "colour", "I", false)
  | 1 => ("Carcasswright$Board", "thick", "I", false)
  | 2 => ("Carcasswright$Board", "length", "I", false)
  | 3 => ("Carcasswright$Board", "width", "I", false)
  | 4 => ("Carcasswright$Board", "isOffcut", "Z", false)
  | 5 => ("Carcasswright$Board", "isOpened", "Z", false)
  | _ => ("Carcasswright$Board", "stripsEnd", "I", false)
def tyX0 : Nat → FieldType := fun k => match k with
  | 0 => .int
  | 1 => .int
  | 2 => .int
  | 3 => .int
  | 4 => .boolean
  | 5 => .boolean
  | _ => .int
theorem nmX0 : ∀ a, a < 7 → ∀ b, b < 7 → a ≠ b → (TX0 a).2.1 ≠ (TX0 b).2.1 := by decide +kernel
theorem tyX0_ok : ∀ k, k < 7 → parseFieldDescriptor (TX0 k).2.2.1 = some (tyX0 k) := by decide +kernel
def RX1 : String := "Carcasswright$Jobs"
def TX1 : u_T := fun k => match k with
  | 0 => ("Carcasswright$Jobs", "colours", "[I", true)
  | 1 => ("Carcasswright$Jobs", "hours", "[I", true)
  | 2 => ("Carcasswright$Jobs", "dues", "[I", true)
  | 3 => ("Carcasswright$Jobs", "order", "[I", true)
  | 4 => ("Carcasswright$Jobs", "best", "[I", true)
  | 5 => ("Carcasswright$Jobs", "count", "I", false)
  | 6 => ("Carcasswright$Jobs", "setup", "I", false)
  | _ => ("Carcasswright$Jobs", "leastLate", "I", false)
def tyX1 : Nat → FieldType := fun k => match k with
  | 0 => .array .int
  | 1 => .array .int
  | 2 => .array .int
  | 3 => .array .int
  | 4 => .array .int
  | 5 => .int
  | 6 => .int
  | _ => .int
theorem nmX1 : ∀ a, a < 8 → ∀ b, b < 8 → a ≠ b → (TX1 a).2.1 ≠ (TX1 b).2.1 := by decide +kernel
theorem tyX1_ok : ∀ k, k < 8 → parseFieldDescriptor (TX1 k).2.2.1 = some (tyX1 k) := by decide +kernel
def RX2 : String := "Carcasswright$ModuleType"
def TX2 : u_T := fun k => match k with
  | 0 => ("Carcasswright$ModuleType", "body", "C", false)
  | 1 => ("Carcasswright$ModuleType", "high", "I", false)
  | 2 => ("Carcasswright$ModuleType", "deep", "I", false)
  | 3 => ("Carcasswright$ModuleType", "lowest", "I", false)
  | 4 => ("Carcasswright$ModuleType", "highest", "I", false)
  | 5 => ("Carcasswright$ModuleType", "width", "I", false)
  | 6 => ("Carcasswright$ModuleType", "doors", "I", false)
  | 7 => ("Carcasswright$ModuleType", "shelves", "I", false)
  | _ => ("Carcasswright$ModuleType", "drawers", "I", false)
def tyX2 : Nat → FieldType := fun k => match k with
  | 0 => .char
  | 1 => .int
  | 2 => .int
  | 3 => .int
  | 4 => .int
  | 5 => .int
  | 6 => .int
  | 7 => .int
  | _ => .int
theorem nmX2 : ∀ a, a < 9 → ∀ b, b < 9 → a ≠ b → (TX2 a).2.1 ≠ (TX2 b).2.1 := by decide +kernel
theorem tyX2_ok : ∀ k, k < 9 → parseFieldDescriptor (TX2 k).2.2.1 = some (tyX2 k) := by decide +kernel
def RX3 : String := "Carcasswright$Obstacle"
def TX3 : u_T := fun k => match k with
  | 0 => ("Carcasswright$Obstacle", "wall", "I", false)
  | 1 => ("Carcasswright$Obstacle", "from", "I", false)
  | 2 => ("Carcasswright$Obstacle", "to", "I", false)
  | 3 => ("Carcasswright$Obstacle", "low", "I", false)
  | _ => ("Carcasswright$Obstacle", "high", "I", false)
def tyX3 : Nat → FieldType := fun k => match k with
  | 0 => .int
  | 1 => .int
  | 2 => .int
  | 3 => .int
  | _ => .int
theorem nmX3 : ∀ a, a < 5 → ∀ b, b < 5 → a ≠ b → (TX3 a).2.1 ≠ (TX3 b).2.1 := by decide +kernel
theorem tyX3_ok : ∀ k, k < 5 → parseFieldDescriptor (TX3 k).2.2.1 = some (tyX3 k) := by decide +kernel
def RX4 : String := "Carcasswright$Packer"
def TX4 : u_T := fun k => match k with
  | 0 => ("Carcasswright$Packer", "weights", "[I", true)
  | 1 => ("Carcasswright$Packer", "packs", "[I", true)
  | 2 => ("Carcasswright$Packer", "loads", "[I", true)
  | _ => ("Carcasswright$Packer", "packCount", "I", false)
def tyX4 : Nat → FieldType := fun k => match k with
  | 0 => .array .int
  | 1 => .array .int
  | 2 => .array .int
  | _ => .int
theorem nmX4 : ∀ a, a < 4 → ∀ b, b < 4 → a ≠ b → (TX4 a).2.1 ≠ (TX4 b).2.1 := by decide +kernel
theorem tyX4_ok : ∀ k, k < 4 → parseFieldDescriptor (TX4 k).2.2.1 = some (tyX4 k) := by decide +kernel
def RX5 : String := "Carcasswright$PlacedModule"
def TX5 : u_T := fun k => match k with
  | 0 => ("Carcasswright$PlacedModule", "type", "LCarcasswright$ModuleType;", false)
  | 1 => ("Carcasswright$PlacedModule", "wall", "I", false)
  | 2 => ("Carcasswright$PlacedModule", "from", "I", false)
  | 3 => ("Carcasswright$PlacedModule", "colour", "I", false)
  | _ => ("Carcasswright$PlacedModule", "cutBits", "I", false)
def tyX5 : Nat → FieldType := fun k => match k with
  | 0 => .object "Carcasswright$ModuleType"
  | 1 => .int
  | 2 => .int
  | 3 => .int
  | _ => .int
theorem nmX5 : ∀ a, a < 5 → ∀ b, b < 5 → a ≠ b → (TX5 a).2.1 ≠ (TX5 b).2.1 := by decide +kernel
theorem tyX5_ok : ∀ k, k < 5 → parseFieldDescriptor (TX5 k).2.2.1 = some (tyX5 k) := by decide +kernel
def RX6 : String := "Carcasswright$Room"
def TX6 : u_T := fun k => match k with
  | 0 => ("Carcasswright$Room", "walls", "[LCarcasswright$Wall;", true)
  | 1 => ("Carcasswright$Room", "obstacles", "[LCarcasswright$Obstacle;", true)
  | 2 => ("Carcasswright$Room", "modules", "[LCarcasswright$PlacedModule;", true)
  | 3 => ("Carcasswright$Room", "trial", "LCarcasswright$PlacedModule;", true)
  | 4 => ("Carcasswright$Room", "causes", "[C", true)
  | 5 => ("Carcasswright$Room", "causeNumbers", "[I", true)
  | 6 => ("Carcasswright$Room", "wallCount", "I", false)
  | 7 => ("Carcasswright$Room", "obstacleCount", "I", false)
  | 8 => ("Carcasswright$Room", "moduleCount", "I", false)
  | _ => ("Carcasswright$Room", "causeCount", "I", false)
def tyX6 : Nat → FieldType := fun k => match k with
  | 0 => .array (.object "Carcasswright$Wall")
  | 1 => .array (.object "Carcasswright$Obstacle")
  | 2 => .array (.object "Carcasswright$PlacedModule")
  | 3 => .object "Carcasswright$PlacedModule"
  | 4 => .array .char
  | 5 => .array .int
  | 6 => .int
  | 7 => .int
  | 8 => .int
  | _ => .int
theorem nmX6 : ∀ a, a < 10 → ∀ b, b < 10 → a ≠ b → (TX6 a).2.1 ≠ (TX6 b).2.1 := by decide +kernel
theorem tyX6_ok : ∀ k, k < 10 → parseFieldDescriptor (TX6 k).2.2.1 = some (tyX6 k) := by decide +kernel
def RX7 : String := "Carcasswright$Saw"
def TX7 : u_T := fun k => match k with
  | 0 => ("Carcasswright$Saw", "stock", "LCarcasswright$Stock;", true)
  | 1 => ("Carcasswright$Saw", "lengths", "[I", true)
  | 2 => ("Carcasswright$Saw", "widths", "[I", true)
  | 3 => ("Carcasswright$Saw", "pieceCount", "I", false)
  | 4 => ("Carcasswright$Saw", "opened", "[I", true)
  | 5 => ("Carcasswright$Saw", "openedCount", "I", false)
  | 6 => ("Carcasswright$Saw", "groupStart", "I", false)
  | 7 => ("Carcasswright$Saw", "stripBoards", "[I", true)
  | 8 => ("Carcasswright$Saw", "stripWidths", "[I", true)
  | 9 => ("Carcasswright$Saw", "stripEnds", "[I", true)
  | 10 => ("Carcasswright$Saw", "stripCount", "I", false)
  | 11 => ("Carcasswright$Saw", "left", "[LCarcasswright$Board;", true)
  | _ => ("Carcasswright$Saw", "leftCount", "I", false)
def tyX7 : Nat → FieldType := fun k => match k with
  | 0 => .object "Carcasswright$Stock"
  | 1 => .array .int
  | 2 => .array .int
  | 3 => .int
  | 4 => .array .int
  | 5 => .int
  | 6 => .int
  | 7 => .array .int
  | 8 => .array .int
  | 9 => .array .int
  | 10 => .int
  | 11 => .array (.object "Carcasswright$Board")
  | _ => .int
theorem nmX7 : ∀ a, a < 13 → ∀ b, b < 13 → a ≠ b → (TX7 a).2.1 ≠ (TX7 b).2.1 := by decide +kernel
theorem tyX7_ok : ∀ k, k < 13 → parseFieldDescriptor (TX7 k).2.2.1 = some (tyX7 k) := by decide +kernel
def RX8 : String := "Carcasswright$Stock"
def TX8 : u_T := fun k => match k with
  | 0 => ("Carcasswright$Stock", "boards", "[LCarcasswright$Board;", true)
  | 1 => ("Carcasswright$Stock", "count", "I", false)
  | 2 => ("Carcasswright$Stock", "came", "J", false)
  | 3 => ("Carcasswright$Stock", "dust", "J", false)
  | _ => ("Carcasswright$Stock", "scrap", "J", false)
def tyX8 : Nat → FieldType := fun k => match k with
  | 0 => .array (.object "Carcasswright$Board")
  | 1 => .int
  | 2 => .long
  | 3 => .long
  | _ => .long
theorem nmX8 : ∀ a, a < 5 → ∀ b, b < 5 → a ≠ b → (TX8 a).2.1 ≠ (TX8 b).2.1 := by decide +kernel
theorem tyX8_ok : ∀ k, k < 5 → parseFieldDescriptor (TX8 k).2.2.1 = some (tyX8 k) := by decide +kernel
def RX9 : String := "Carcasswright$Types"
def TX9 : u_T := fun k => match k with
  | 0 => ("Carcasswright$Types", "signs", "[C", true)
  | 1 => ("Carcasswright$Types", "types", "[LCarcasswright$ModuleType;", true)
  | 2 => ("Carcasswright$Types", "draft", "LCarcasswright$ModuleType;", true)
  | 3 => ("Carcasswright$Types", "signCount", "I", false)
  | 4 => ("Carcasswright$Types", "typeCount", "I", false)
  | 5 => ("Carcasswright$Types", "faultPlace", "I", false)
  | 6 => ("Carcasswright$Types", "faultLetter", "C", false)
  | 7 => ("Carcasswright$Types", "awaited", "C", false)
  | 8 => ("Carcasswright$Types", "item", "C", false)
  | _ => ("Carcasswright$Types", "digits", "I", false)
def tyX9 : Nat → FieldType := fun k => match k with
  | 0 => .array .char
  | 1 => .array (.object "Carcasswright$ModuleType")
  | 2 => .object "Carcasswright$ModuleType"
  | 3 => .int
  | 4 => .int
  | 5 => .int
  | 6 => .char
  | 7 => .char
  | 8 => .char
  | _ => .int
theorem nmX9 : ∀ a, a < 10 → ∀ b, b < 10 → a ≠ b → (TX9 a).2.1 ≠ (TX9 b).2.1 := by decide +kernel
theorem tyX9_ok : ∀ k, k < 10 → parseFieldDescriptor (TX9 k).2.2.1 = some (tyX9 k) := by decide +kernel
def RX10 : String := "Carcasswright$Wall"
def TX10 : u_T := fun k => match k with
  | 0 => ("Carcasswright$Wall", "way", "C", false)
  | 1 => ("Carcasswright$Wall", "measured", "I", false)
  | 2 => ("Carcasswright$Wall", "length", "I", false)
  | 3 => ("Carcasswright$Wall", "settled", "I", false)
  | 4 => ("Carcasswright$Wall", "left", "I", false)
  | _ => ("Carcasswright$Wall", "right", "I", false)
def tyX10 : Nat → FieldType := fun k => match k with
  | 0 => .char
  | 1 => .int
  | 2 => .int
  | 3 => .int
  | 4 => .int
  | _ => .int
theorem nmX10 : ∀ a, a < 6 → ∀ b, b < 6 → a ≠ b → (TX10 a).2.1 ≠ (TX10 b).2.1 := by decide +kernel
theorem tyX10_ok : ∀ k, k < 6 → parseFieldDescriptor (TX10 k).2.2.1 = some (tyX10 k) := by decide +kernel
def RX11 : String := "Carcasswright"
def TX11 : u_T := fun k => match k with
  | 0 => ("Carcasswright", "types", "LCarcasswright$Types;", true)
  | 1 => ("Carcasswright", "room", "LCarcasswright$Room;", true)
  | 2 => ("Carcasswright", "stock", "LCarcasswright$Stock;", true)
  | 3 => ("Carcasswright", "saw", "LCarcasswright$Saw;", true)
  | 4 => ("Carcasswright", "packer", "LCarcasswright$Packer;", true)
  | 5 => ("Carcasswright", "jobs", "LCarcasswright$Jobs;", true)
  | _ => ("Carcasswright", "rates", "[I", true)
def tyX11 : Nat → FieldType := fun k => match k with
  | 0 => .object "Carcasswright$Types"
  | 1 => .object "Carcasswright$Room"
  | 2 => .object "Carcasswright$Stock"
  | 3 => .object "Carcasswright$Saw"
  | 4 => .object "Carcasswright$Packer"
  | 5 => .object "Carcasswright$Jobs"
  | _ => .array .int
theorem nmX11 : ∀ a, a < 7 → ∀ b, b < 7 → a ≠ b → (TX11 a).2.1 ≠ (TX11 b).2.1 := by decide +kernel
theorem tyX11_ok : ∀ k, k < 7 → parseFieldDescriptor (TX11 k).2.2.1 = some (tyX11 k) := by decide +kernel
def RX12 : String := "CarcasswrightModel$Board"
def TX12 : u_T := fun k => match k with
  | 0 => ("CarcasswrightModel$Board", "colour", "I", true)
  | 1 => ("CarcasswrightModel$Board", "thick", "I", true)
  | 2 => ("CarcasswrightModel$Board", "length", "I", true)
  | 3 => ("CarcasswrightModel$Board", "width", "I", true)
  | 4 => ("CarcasswrightModel$Board", "isOffcut", "Z", true)
  | 5 => ("CarcasswrightModel$Board", "wide", "Ljava/util/ArrayList;", true)
  | _ => ("CarcasswrightModel$Board", "used", "Ljava/util/ArrayList;", true)
def tyX12 : Nat → FieldType := fun k => match k with
  | 0 => .int
  | 1 => .int
  | 2 => .int
  | 3 => .int
  | 4 => .boolean
  | 5 => .object "java/util/ArrayList"
  | _ => .object "java/util/ArrayList"
theorem nmX12 : ∀ a, a < 7 → ∀ b, b < 7 → a ≠ b → (TX12 a).2.1 ≠ (TX12 b).2.1 := by decide +kernel
theorem tyX12_ok : ∀ k, k < 7 → parseFieldDescriptor (TX12 k).2.2.1 = some (tyX12 k) := by decide +kernel
def RX14 : String := "CarcasswrightModel$Job"
def TX14 : u_T := fun k => match k with
  | 0 => ("CarcasswrightModel$Job", "colour", "I", true)
  | 1 => ("CarcasswrightModel$Job", "hours", "I", true)
  | _ => ("CarcasswrightModel$Job", "due", "I", true)
def tyX14 : Nat → FieldType := fun k => match k with
  | 0 => .int
  | 1 => .int
  | _ => .int
theorem nmX14 : ∀ a, a < 3 → ∀ b, b < 3 → a ≠ b → (TX14 a).2.1 ≠ (TX14 b).2.1 := by decide +kernel
theorem tyX14_ok : ∀ k, k < 3 → parseFieldDescriptor (TX14 k).2.2.1 = some (tyX14 k) := by decide +kernel
def RX19 : String := "CarcasswrightModel$Type"
def TX19 : u_T := fun k => match k with
  | 0 => ("CarcasswrightModel$Type", "kind", "C", false)
  | 1 => ("CarcasswrightModel$Type", "width", "I", false)
  | 2 => ("CarcasswrightModel$Type", "doors", "I", false)
  | 3 => ("CarcasswrightModel$Type", "shelves", "I", false)
  | _ => ("CarcasswrightModel$Type", "drawers", "I", false)
def tyX19 : Nat → FieldType := fun k => match k with
  | 0 => .char
  | 1 => .int
  | 2 => .int
  | 3 => .int
  | _ => .int
theorem nmX19 : ∀ a, a < 5 → ∀ b, b < 5 → a ≠ b → (TX19 a).2.1 ≠ (TX19 b).2.1 := by decide +kernel
theorem tyX19_ok : ∀ k, k < 5 → parseFieldDescriptor (TX19 k).2.2.1 = some (tyX19 k) := by decide +kernel
def RX20 : String := "CarcasswrightModel$Wall"
def TX20 : u_T := fun k => match k with
  | 0 => ("CarcasswrightModel$Wall", "way", "C", true)
  | 1 => ("CarcasswrightModel$Wall", "measured", "I", true)
  | 2 => ("CarcasswrightModel$Wall", "length", "I", false)
  | 3 => ("CarcasswrightModel$Wall", "left", "I", false)
  | _ => ("CarcasswrightModel$Wall", "right", "I", false)
def tyX20 : Nat → FieldType := fun k => match k with
  | 0 => .char
  | 1 => .int
  | 2 => .int
  | 3 => .int
  | _ => .int
theorem nmX20 : ∀ a, a < 5 → ∀ b, b < 5 → a ≠ b → (TX20 a).2.1 ≠ (TX20 b).2.1 := by decide +kernel
theorem tyX20_ok : ∀ k, k < 5 → parseFieldDescriptor (TX20 k).2.2.1 = some (tyX20 k) := by decide +kernel
def RX21 : String := "CarcasswrightModel"
def TX21 : u_T := fun k => match k with
  | 0 => ("CarcasswrightModel", "thrown", "I", false)
  | 1 => ("CarcasswrightModel", "walls", "Ljava/util/ArrayList;", true)
  | 2 => ("CarcasswrightModel", "obstacles", "Ljava/util/ArrayList;", true)
  | 3 => ("CarcasswrightModel", "text", "Ljava/lang/String;", false)
  | 4 => ("CarcasswrightModel", "types", "Ljava/util/ArrayList;", true)
  | 5 => ("CarcasswrightModel", "modules", "Ljava/util/ArrayList;", true)
  | 6 => ("CarcasswrightModel", "stock", "Ljava/util/ArrayList;", false)
  | 7 => ("CarcasswrightModel", "jobs", "Ljava/util/ArrayList;", true)
  | 8 => ("CarcasswrightModel", "rates", "[I", true)
  | 9 => ("CarcasswrightModel", "setup", "I", false)
  | 10 => ("CarcasswrightModel", "came", "J", false)
  | 11 => ("CarcasswrightModel", "dust", "J", false)
  | 12 => ("CarcasswrightModel", "scrap", "J", false)
  | 13 => ("CarcasswrightModel", "clashes", "Ljava/lang/String;", false)
  | 14 => ("CarcasswrightModel", "clashNumbers", "[I", false)
  | 15 => ("CarcasswrightModel", "read", "LCarcasswrightModel$Type;", false)
  | 16 => ("CarcasswrightModel", "fault", "C", false)
  | 17 => ("CarcasswrightModel", "faultAt", "I", false)
  | 18 => ("CarcasswrightModel", "least", "I", false)
  | _ => ("CarcasswrightModel", "order", "[I", false)
def tyX21 : Nat → FieldType := fun k => match k with
  | 0 => .int
  | 1 => .object "java/util/ArrayList"
  | 2 => .object "java/util/ArrayList"
  | 3 => .object "java/lang/String"
  | 4 => .object "java/util/ArrayList"
  | 5 => .object "java/util/ArrayList"
  | 6 => .object "java/util/ArrayList"
  | 7 => .object "java/util/ArrayList"
  | 8 => .array .int
  | 9 => .int
  | 10 => .long
  | 11 => .long
  | 12 => .long
  | 13 => .object "java/lang/String"
  | 14 => .array .int
  | 15 => .object "CarcasswrightModel$Type"
  | 16 => .char
  | 17 => .int
  | 18 => .int
  | _ => .array .int
theorem nmX21 : ∀ a, a < 20 → ∀ b, b < 20 → a ≠ b → (TX21 a).2.1 ≠ (TX21 b).2.1 := by decide +kernel
theorem tyX21_ok : ∀ k, k < 20 → parseFieldDescriptor (TX21 k).2.2.1 = some (tyX21 k) := by decide +kernel
/-- the classes of the objects, by number -/
abbrev ce_cl : List vw_C := [(RJ0, TJ0, 4), (RJ4, TJ4, 4), (RJx35411, TJx35411, 4), (RJx4a65c, TJx4a65c, 3), (RX0, TX0, 7), (RX1, TX1, 8), (RX2, TX2, 9), (RX3, TX3, 5), (RX4, TX4, 4), (RX5, TX5, 5), (RX6, TX6, 10), (RX7, TX7, 13), (RX8, TX8, 5), (RX9, TX9, 10), (RX10, TX10, 6), (RX11, TX11, 7), (RX12, TX12, 7), (RX14, TX14, 3), (RX19, TX19, 5), (RX20, TX20, 5), (RX21, TX21, 20)]
/-- the element types of the arrays, by number -/
abbrev ce_at : List FieldType := [.int, .char, .byte, .boolean, .long, .double, (.object "java/lang/Object"), (.object "Carcasswright$Wall"), (.object "Carcasswright$Obstacle"), (.object "Carcasswright$PlacedModule"), (.object "Carcasswright$ModuleType"), (.object "Carcasswright$Board")]
theorem ce_vJ0 : ∀ w ∈ u_ws RJ0 TJ0 4, w ∈ lw_tbl.filter goodWord := by decide +kernel
theorem ce_vJ4 : ∀ w ∈ u_ws RJ4 TJ4 4, w ∈ lw_tbl.filter goodWord := by decide +kernel
theorem ce_vJx35411 : ∀ w ∈ u_ws RJx35411 TJx35411 4, w ∈ lw_tbl.filter goodWord := by decide +kernel
theorem ce_vJx4a65c : ∀ w ∈ u_ws RJx4a65c TJx4a65c 3, w ∈ lw_tbl.filter goodWord := by decide +kernel
theorem ce_vX0 : ∀ w ∈ u_ws RX0 TX0 7, w ∈ lw_tbl.filter goodWord := by decide +kernel
theorem ce_vX1 : ∀ w ∈ u_ws RX1 TX1 8, w ∈ lw_tbl.filter goodWord := by decide +kernel
theorem ce_vX2 : ∀ w ∈ u_ws RX2 TX2 9, w ∈ lw_tbl.filter goodWord := by decide +kernel
theorem ce_vX3 : ∀ w ∈ u_ws RX3 TX3 5, w ∈ lw_tbl.filter goodWord := by decide +kernel
theorem ce_vX4 : ∀ w ∈ u_ws RX4 TX4 4, w ∈ lw_tbl.filter goodWord := by decide +kernel
theorem ce_vX5 : ∀ w ∈ u_ws RX5 TX5 5, w ∈ lw_tbl.filter goodWord := by decide +kernel
theorem ce_vX6 : ∀ w ∈ u_ws RX6 TX6 10, w ∈ lw_tbl.filter goodWord := by decide +kernel
theorem ce_vX7 : ∀ w ∈ u_ws RX7 TX7 13, w ∈ lw_tbl.filter goodWord := by decide +kernel
theorem ce_vX8 : ∀ w ∈ u_ws RX8 TX8 5, w ∈ lw_tbl.filter goodWord := by decide +kernel
theorem ce_vX9 : ∀ w ∈ u_ws RX9 TX9 10, w ∈ lw_tbl.filter goodWord := by decide +kernel
theorem ce_vX10 : ∀ w ∈ u_ws RX10 TX10 6, w ∈ lw_tbl.filter goodWord := by decide +kernel
theorem ce_vX11 : ∀ w ∈ u_ws RX11 TX11 7, w ∈ lw_tbl.filter goodWord := by decide +kernel
theorem ce_vX12 : ∀ w ∈ u_ws RX12 TX12 7, w ∈ lw_tbl.filter goodWord := by decide +kernel
theorem ce_vX14 : ∀ w ∈ u_ws RX14 TX14 3, w ∈ lw_tbl.filter goodWord := by decide +kernel
theorem ce_vX19 : ∀ w ∈ u_ws RX19 TX19 5, w ∈ lw_tbl.filter goodWord := by decide +kernel
theorem ce_vX20 : ∀ w ∈ u_ws RX20 TX20 5, w ∈ lw_tbl.filter goodWord := by decide +kernel
theorem ce_vX21 : ∀ w ∈ u_ws RX21 TX21 20, w ∈ lw_tbl.filter goodWord := by decide +kernel
/-- the words that go along with every call -/
def ce_XS : List Cond := [Cond.selects "java/lang/StringBuilder" ⟨"java/lang/AbstractStringBuilder", "ensureCapacityInternal", "(I)V"⟩ ⟨"java/lang/AbstractStringBuilder", "ensureCapacityInternal", "(I)V"⟩, Cond.selects "java/lang/StringBuilder" ⟨"java/lang/AbstractStringBuilder", "putStringAt", "(ILjava/lang/String;)V"⟩ ⟨"java/lang/AbstractStringBuilder", "putStringAt", "(ILjava/lang/String;)V"⟩, Cond.selects "java/lang/StringBuilder" ⟨"java/lang/AbstractStringBuilder", "inflateIfNeededFor", "(Ljava/lang/String;)V"⟩ ⟨"java/lang/AbstractStringBuilder", "inflateIfNeededFor", "(Ljava/lang/String;)V"⟩, Cond.selects "java/lang/StringBuilder" ⟨"java/lang/AbstractStringBuilder", "inflate", "()V"⟩ ⟨"java/lang/AbstractStringBuilder", "inflate", "()V"⟩, Cond.selects "java/lang/StringBuilder" ⟨"java/lang/AbstractStringBuilder", "newCapacity", "(I)I"⟩ ⟨"java/lang/AbstractStringBuilder", "newCapacity", "(I)I"⟩, Cond.selects "java/lang/StringBuilder" ⟨"java/lang/AbstractStringBuilder", "appendNull", "()Ljava/lang/AbstractStringBuilder;"⟩ ⟨"java/lang/AbstractStringBuilder", "appendNull", "()Ljava/lang/AbstractStringBuilder;"⟩]
def ce_GW : List Cond := ce_XS ++ lw_tbl.filter goodWord
theorem ce_inF {w : Cond} (h : w ∈ lw_tbl.filter goodWord) : w ∈ ce_GW := List.mem_append_right _ h
theorem ce_in (i : Nat) {w : Cond} (h : lw_tbl[i]? = some w) (g : goodWord w = true) : w ∈ ce_GW := ce_inF (List.mem_filter.mpr ⟨List.mem_of_getElem? h, g⟩)
theorem ce_XSg : ∀ w ∈ ce_XS, goodWord w = true := by decide +kernel
theorem ce_good {w : Cond} (h : w ∈ ce_GW) : goodWord w = true := by
  rcases List.mem_append.mp h with h | h
  · exact ce_XSg w h
  · exact (List.mem_filter.mp h).2
theorem ce_uJ0 : ∀ w ∈ u_ws RJ0 TJ0 4, w ∈ ce_GW := fun w h => ce_inF (ce_vJ0 w h)
theorem ce_uJ4 : ∀ w ∈ u_ws RJ4 TJ4 4, w ∈ ce_GW := fun w h => ce_inF (ce_vJ4 w h)
theorem ce_uJx35411 : ∀ w ∈ u_ws RJx35411 TJx35411 4, w ∈ ce_GW := fun w h => ce_inF (ce_vJx35411 w h)
theorem ce_uJx4a65c : ∀ w ∈ u_ws RJx4a65c TJx4a65c 3, w ∈ ce_GW := fun w h => ce_inF (ce_vJx4a65c w h)
theorem ce_uX0 : ∀ w ∈ u_ws RX0 TX0 7, w ∈ ce_GW := fun w h => ce_inF (ce_vX0 w h)
theorem ce_uX1 : ∀ w ∈ u_ws RX1 TX1 8, w ∈ ce_GW := fun w h => ce_inF (ce_vX1 w h)
theorem ce_uX2 : ∀ w ∈ u_ws RX2 TX2 9, w ∈ ce_GW := fun w h => ce_inF (ce_vX2 w h)
theorem ce_uX3 : ∀ w ∈ u_ws RX3 TX3 5, w ∈ ce_GW := fun w h => ce_inF (ce_vX3 w h)
theorem ce_uX4 : ∀ w ∈ u_ws RX4 TX4 4, w ∈ ce_GW := fun w h => ce_inF (ce_vX4 w h)
theorem ce_uX5 : ∀ w ∈ u_ws RX5 TX5 5, w ∈ ce_GW := fun w h => ce_inF (ce_vX5 w h)
theorem ce_uX6 : ∀ w ∈ u_ws RX6 TX6 10, w ∈ ce_GW := fun w h => ce_inF (ce_vX6 w h)
theorem ce_uX7 : ∀ w ∈ u_ws RX7 TX7 13, w ∈ ce_GW := fun w h => ce_inF (ce_vX7 w h)
theorem ce_uX8 : ∀ w ∈ u_ws RX8 TX8 5, w ∈ ce_GW := fun w h => ce_inF (ce_vX8 w h)
theorem ce_uX9 : ∀ w ∈ u_ws RX9 TX9 10, w ∈ ce_GW := fun w h => ce_inF (ce_vX9 w h)
theorem ce_uX10 : ∀ w ∈ u_ws RX10 TX10 6, w ∈ ce_GW := fun w h => ce_inF (ce_vX10 w h)
theorem ce_uX11 : ∀ w ∈ u_ws RX11 TX11 7, w ∈ ce_GW := fun w h => ce_inF (ce_vX11 w h)
theorem ce_uX12 : ∀ w ∈ u_ws RX12 TX12 7, w ∈ ce_GW := fun w h => ce_inF (ce_vX12 w h)
theorem ce_uX14 : ∀ w ∈ u_ws RX14 TX14 3, w ∈ ce_GW := fun w h => ce_inF (ce_vX14 w h)
theorem ce_uX19 : ∀ w ∈ u_ws RX19 TX19 5, w ∈ ce_GW := fun w h => ce_inF (ce_vX19 w h)
theorem ce_uX20 : ∀ w ∈ u_ws RX20 TX20 5, w ∈ ce_GW := fun w h => ce_inF (ce_vX20 w h)
theorem ce_uX21 : ∀ w ∈ u_ws RX21 TX21 20, w ∈ ce_GW := fun w h => ce_inF (ce_vX21 w h)
theorem ce_gi {a b : Cond} (h : b ∈ ce_GW) : GoodIn (a :: ce_GW) (b :: ce_GW) := by
  intro w hw
  have h2 : w ∈ ce_GW := by
    rcases List.mem_cons.mp hw with e | e
    · rw [e]; exact h
    · exact e
  exact ⟨List.mem_cons_of_mem _ h2, good_of_word (ce_good h2)⟩
/-- words that no row carries along: they stand in the facts of the world -/
def ce_NG : List Cond := [.castable "java/lang/IllegalArgumentException" "java/lang/IllegalArgumentException", .castable "java/lang/IndexOutOfBoundsException" "java/lang/IndexOutOfBoundsException", .castable "java/util/NoSuchElementException" "java/util/NoSuchElementException", .castable "java/lang/UnsupportedOperationException" "java/lang/UnsupportedOperationException", .castable "CarcasswrightModel$Wall" "java/lang/Object", .castable "CarcasswrightModel$Job" "java/lang/Object", .castable "CarcasswrightModel$Board" "java/lang/Object", .castable "[I" "java/lang/Cloneable", .methodLinkNest "Carcasswright$Types" 19 ⟨"Carcasswright$ModuleType", "<init>", "()V"⟩ "Carcasswright", .methodLinkNest "Carcasswright$Room" 35 ⟨"Carcasswright$Wall", "<init>", "()V"⟩ "Carcasswright", .methodLinkNest "Carcasswright$Room" 36 ⟨"Carcasswright$Obstacle", "<init>", "()V"⟩ "Carcasswright", .methodLinkNest "Carcasswright$Stock" 15 ⟨"Carcasswright$Board", "<init>", "()V"⟩ "Carcasswright", .methodLinkNest "Carcasswright$Saw" 40 ⟨"Carcasswright$Board", "<init>", "()V"⟩ "Carcasswright", .methodLinkNest "Carcasswright" 47 ⟨"Carcasswright$Packer", "<init>", "()V"⟩ "Carcasswright", .methodLinkNest "Carcasswright" 54 ⟨"Carcasswright$Jobs", "<init>", "()V"⟩ "Carcasswright", .declares ⟨"java/lang/RuntimeException", "<init>", "()V"⟩, .declares ⟨"java/lang/RuntimeException", "<init>", "(Ljava/lang/String;)V"⟩, .declares ⟨"java/lang/Exception", "<init>", "()V"⟩, .declares ⟨"java/lang/Exception", "<init>", "(Ljava/lang/String;)V"⟩, .declares ⟨"java/lang/Throwable", "<init>", "()V"⟩, .declares ⟨"java/lang/Throwable", "<init>", "(Ljava/lang/String;)V"⟩, .fieldLinkNest "java/util/ArrayList$Itr" 28 "java/util/ArrayList" "size" "I" "java/util/ArrayList", .declares ⟨"java/util/Iterator", "hasNext", "()Z"⟩, .declares ⟨"java/util/Iterator", "next", "()Ljava/lang/Object;"⟩, .methodLinkNest "CarcasswrightModel" 184 ⟨"CarcasswrightModel$Type", "<init>", "()V"⟩ "CarcasswrightModel", .declares ⟨"java/util/Collection", "toArray", "()[Ljava/lang/Object;"⟩, .declares ⟨"java/lang/Object", "getClass", "()Ljava/lang/Class;"⟩, .fieldLinkNest "CarcasswrightModel" 103 "CarcasswrightModel$Wall" "length" "I" "CarcasswrightModel"]
