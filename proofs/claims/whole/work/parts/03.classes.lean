/-! ===== the classes: fields in the order of their slots ===== -/
def tx_0 : u_T := fun k => match k with
  | _ => ("", "", "", false)
def ty_0 : Nat → FieldType := fun k => match k with
  | _ => .int
def tx_1 : u_T := fun k => match k with
  | _ => ("", "", "", false)
def ty_1 : Nat → FieldType := fun k => match k with
  | _ => .int
def tx_2 : u_T := fun k => match k with
  | _ => ("", "", "", false)
def ty_2 : Nat → FieldType := fun k => match k with
  | _ => .int
def tx_3 : u_T := fun k => match k with
  | 0 => ("DoorSold$Chase", "moves", "[I", true)
  | 1 => ("DoorSold$Chase", "had", "[I", true)
  | _ => ("DoorSold$Chase", "hadThen", "[I", true)
def ty_3 : Nat → FieldType := fun k => match k with
  | 0 => .array (.int)
  | 1 => .array (.int)
  | _ => .array (.int)
def tx_4 : u_T := fun k => match k with
  | 0 => ("DoorSold$Country", "allKinds", "[LDoorSold$Kind;", true)
  | 1 => ("DoorSold$Country", "kind", "[I", true)
  | 2 => ("DoorSold$Country", "price", "[I", true)
  | 3 => ("DoorSold$Country", "stands", "[I", true)
  | 4 => ("DoorSold$Country", "leads", "[I", true)
  | 5 => ("DoorSold$Country", "firstStands", "[I", true)
  | 6 => ("DoorSold$Country", "firstLeads", "[I", true)
  | 7 => ("DoorSold$Country", "log", "[I", true)
  | 8 => ("DoorSold$Country", "places", "I", false)
  | 9 => ("DoorSold$Country", "doors", "I", false)
  | 10 => ("DoorSold$Country", "firstPurse", "I", false)
  | 11 => ("DoorSold$Country", "purse", "I", false)
  | 12 => ("DoorSold$Country", "place", "I", false)
  | 13 => ("DoorSold$Country", "hour", "I", false)
  | 14 => ("DoorSold$Country", "bought", "I", false)
  | _ => ("DoorSold$Country", "deeds", "I", false)
def ty_4 : Nat → FieldType := fun k => match k with
  | 0 => .array (.object "DoorSold$Kind")
  | 1 => .array (.int)
  | 2 => .array (.int)
  | 3 => .array (.int)
  | 4 => .array (.int)
  | 5 => .array (.int)
  | 6 => .array (.int)
  | 7 => .array (.int)
  | 8 => .int
  | 9 => .int
  | 10 => .int
  | 11 => .int
  | 12 => .int
  | 13 => .int
  | 14 => .int
  | _ => .int
def tx_5 : u_T := fun k => match k with
  | _ => ("", "", "", false)
def ty_5 : Nat → FieldType := fun k => match k with
  | _ => .int
def tx_6 : u_T := fun k => match k with
  | _ => ("", "", "", false)
def ty_6 : Nat → FieldType := fun k => match k with
  | _ => .int
def tx_7 : u_T := fun k => match k with
  | _ => ("DoorSold$Reader", "next", "I", false)
def ty_7 : Nat → FieldType := fun k => match k with
  | _ => .int
def tx_8 : u_T := fun k => match k with
  | 0 => ("DoorSold$Row", "cells", "[I", true)
  | _ => ("DoorSold$Row", "size", "I", false)
def ty_8 : Nat → FieldType := fun k => match k with
  | 0 => .array (.int)
  | _ => .int
def tx_9 : u_T := fun k => match k with
  | _ => ("", "", "", false)
def ty_9 : Nat → FieldType := fun k => match k with
  | _ => .int
def tx_10 : u_T := fun k => match k with
  | 0 => ("DoorSold$Ways", "reach", "[I", true)
  | _ => ("DoorSold$Ways", "inTime", "[I", true)
def ty_10 : Nat → FieldType := fun k => match k with
  | 0 => .array (.int)
  | _ => .array (.int)
def tx_11 : u_T := fun k => match k with
  | 0 => ("DoorSold", "rows", "[LDoorSold$Row;", true)
  | 1 => ("DoorSold", "texts", "[LDoorSold$Row;", true)
  | 2 => ("DoorSold", "allKinds", "[LDoorSold$Kind;", true)
  | 3 => ("DoorSold", "now", "LDoorSold$Country;", true)
  | 4 => ("DoorSold", "draft", "LDoorSold$Country;", true)
  | 5 => ("DoorSold", "kept", "[LDoorSold$Country;", true)
  | 6 => ("DoorSold", "reader", "LDoorSold$Reader;", true)
  | 7 => ("DoorSold", "ways", "LDoorSold$Ways;", true)
  | 8 => ("DoorSold", "hunt", "LDoorSold$Chase;", true)
  | 9 => ("DoorSold", "seenAfter", "[I", true)
  | 10 => ("DoorSold", "found", "[I", true)
  | 11 => ("DoorSold", "lastFound", "I", false)
  | 12 => ("DoorSold", "told", "I", false)
  | 13 => ("DoorSold", "over", "J", false)
  | _ => ("DoorSold", "under", "J", false)
def ty_11 : Nat → FieldType := fun k => match k with
  | 0 => .array (.object "DoorSold$Row")
  | 1 => .array (.object "DoorSold$Row")
  | 2 => .array (.object "DoorSold$Kind")
  | 3 => .object "DoorSold$Country"
  | 4 => .object "DoorSold$Country"
  | 5 => .array (.object "DoorSold$Country")
  | 6 => .object "DoorSold$Reader"
  | 7 => .object "DoorSold$Ways"
  | 8 => .object "DoorSold$Chase"
  | 9 => .array (.int)
  | 10 => .array (.int)
  | 11 => .int
  | 12 => .int
  | 13 => .long
  | _ => .long
def tx_12 : u_T := fun k => match k with
  | 0 => ("DoorSoldModel", "rowSizes", "[I", true)
  | 1 => ("DoorSoldModel", "rows", "[I", true)
  | 2 => ("DoorSoldModel", "textSizes", "[I", true)
  | 3 => ("DoorSoldModel", "texts", "[I", true)
  | 4 => ("DoorSoldModel", "doors", "I", false)
  | 5 => ("DoorSoldModel", "places", "I", false)
  | 6 => ("DoorSoldModel", "kinds", "[I", true)
  | 7 => ("DoorSoldModel", "prices", "[I", true)
  | 8 => ("DoorSoldModel", "now", "[I", true)
  | 9 => ("DoorSoldModel", "deeds", "I", false)
  | 10 => ("DoorSoldModel", "before", "[I", true)
  | 11 => ("DoorSoldModel", "keeps", "[I", true)
  | 12 => ("DoorSoldModel", "kept", "[Z", true)
  | 13 => ("DoorSoldModel", "asked", "I", false)
  | 14 => ("DoorSoldModel", "upper", "J", false)
  | 15 => ("DoorSoldModel", "lower", "J", false)
  | 16 => ("DoorSoldModel", "finding", "I", false)
  | 17 => ("DoorSoldModel", "findings", "[I", true)
  | 18 => ("DoorSoldModel", "here", "I", false)
  | 19 => ("DoorSoldModel", "readPlaces", "I", false)
  | 20 => ("DoorSoldModel", "readDoors", "I", false)
  | 21 => ("DoorSoldModel", "readPurse", "I", false)
  | 22 => ("DoorSoldModel", "readDoor", "[I", true)
  | 23 => ("DoorSoldModel", "figure", "I", false)
  | 24 => ("DoorSoldModel", "hours", "[I", true)
  | 25 => ("DoorSoldModel", "inTime", "[I", true)
  | 26 => ("DoorSoldModel", "had", "[I", true)
  | _ => ("DoorSoldModel", "hadThen", "[I", true)
def ty_12 : Nat → FieldType := fun k => match k with
  | 0 => .array (.int)
  | 1 => .array (.int)
  | 2 => .array (.int)
  | 3 => .array (.int)
  | 4 => .int
  | 5 => .int
  | 6 => .array (.int)
  | 7 => .array (.int)
  | 8 => .array (.int)
  | 9 => .int
  | 10 => .array (.int)
  | 11 => .array (.int)
  | 12 => .array (.boolean)
  | 13 => .int
  | 14 => .long
  | 15 => .long
  | 16 => .int
  | 17 => .array (.int)
  | 18 => .int
  | 19 => .int
  | 20 => .int
  | 21 => .int
  | 22 => .array (.int)
  | 23 => .int
  | 24 => .array (.int)
  | 25 => .array (.int)
  | 26 => .array (.int)
  | _ => .array (.int)
def clx : List vw_C := [("DoorSold$Back", tx_0, 0), ("DoorSold$Bricked", tx_1, 0), ("DoorSold$Cart", tx_2, 0), ("DoorSold$Chase", tx_3, 3), ("DoorSold$Country", tx_4, 16), ("DoorSold$Dutch", tx_5, 0), ("DoorSold$Kind", tx_6, 0), ("DoorSold$Reader", tx_7, 1), ("DoorSold$Row", tx_8, 2), ("DoorSold$Study", tx_9, 0), ("DoorSold$Ways", tx_10, 2), ("DoorSold", tx_11, 15), ("DoorSoldModel", tx_12, 28)]
def tyx : List (Nat → FieldType) := [ty_0, ty_1, ty_2, ty_3, ty_4, ty_5, ty_6, ty_7, ty_8, ty_9, ty_10, ty_11, ty_12]
/-- a field is 0 an int, 1 a long, 2 a reference -/
def fkx : List (List Nat) := [[], [], [], [2, 2, 2], [2, 2, 2, 2, 2, 2, 2, 2, 0, 0, 0, 0, 0, 0, 0, 0], [], [], [0], [2, 0], [], [2, 2], [2, 2, 2, 2, 2, 2, 2, 2, 2, 2, 2, 0, 0, 1, 1], [2, 2, 2, 2, 0, 0, 2, 2, 2, 0, 2, 2, 2, 0, 1, 1, 0, 2, 0, 0, 0, 0, 2, 0, 2, 2, 2, 2]]
def dcl : vw_C := ("", tx_0, 0)
