/-- how many fields the objects of a class have -/
def bd_nf (c : Nat) : Nat := [3, 14, 5, 16, 9, 2, 6, 4, 5, 10, 14, 64].getD c 0
def F_0 : u_T := fun k => match k with
  | 0 => ("BitingDoors$Day", "acts", "[I", true)
  | 1 => ("BitingDoors$Day", "times", "[I", true)
  | _ => ("BitingDoors$Day", "size", "I", false)
def ty_0 : Nat → FieldType := fun k => match k with
  | 0 => (.array .int)
  | 1 => (.array .int)
  | _ => .int
def F_1 : u_T := fun k => match k with
  | 0 => ("BitingDoors$Door", "low", "[J", true)
  | 1 => ("BitingDoors$Door", "high", "[J", true)
  | 2 => ("BitingDoors$Door", "sweptLow", "[J", true)
  | 3 => ("BitingDoors$Door", "sweptHigh", "[J", true)
  | 4 => ("BitingDoors$Door", "angles", "[I", true)
  | 5 => ("BitingDoors$Door", "name", "J", false)
  | 6 => ("BitingDoors$Door", "x", "I", false)
  | 7 => ("BitingDoors$Door", "y", "I", false)
  | 8 => ("BitingDoors$Door", "across", "Z", false)
  | 9 => ("BitingDoors$Door", "length", "I", false)
  | 10 => ("BitingDoors$Door", "first", "I", false)
  | 11 => ("BitingDoors$Door", "toldHangings", "I", false)
  | 12 => ("BitingDoors$Door", "costs", "I", false)
  | _ => ("BitingDoors$Door", "whole", "Z", false)
def ty_1 : Nat → FieldType := fun k => match k with
  | 0 => (.array .long)
  | 1 => (.array .long)
  | 2 => (.array .long)
  | 3 => (.array .long)
  | 4 => (.array .int)
  | 5 => .long
  | 6 => .int
  | 7 => .int
  | 8 => .boolean
  | 9 => .int
  | 10 => .int
  | 11 => .int
  | 12 => .int
  | _ => .boolean
def F_2 : u_T := fun k => match k with
  | 0 => ("BitingDoors$Forcing", "order", "[I", true)
  | 1 => ("BitingDoors$Forcing", "hangings", "[I", true)
  | 2 => ("BitingDoors$Forcing", "size", "I", false)
  | 3 => ("BitingDoors$Forcing", "set", "I", false)
  | _ => ("BitingDoors$Forcing", "dead", "I", false)
def ty_2 : Nat → FieldType := fun k => match k with
  | 0 => (.array .int)
  | 1 => (.array .int)
  | 2 => .int
  | 3 => .int
  | _ => .int
def F_3 : u_T := fun k => match k with
  | 0 => ("BitingDoors$Hanger", "spares", "[J", true)
  | 1 => ("BitingDoors$Hanger", "fitting", "J", false)
  | 2 => ("BitingDoors$Hanger", "house", "LBitingDoors$House;", false)
  | 3 => ("BitingDoors$Hanger", "current", "[I", true)
  | 4 => ("BitingDoors$Hanger", "cheap", "[I", true)
  | 5 => ("BitingDoors$Hanger", "cheapKey", "I", false)
  | 6 => ("BitingDoors$Hanger", "few", "[I", true)
  | 7 => ("BitingDoors$Hanger", "fewKey", "I", false)
  | 8 => ("BitingDoors$Hanger", "order", "[I", true)
  | 9 => ("BitingDoors$Hanger", "orderSize", "I", false)
  | 10 => ("BitingDoors$Hanger", "weights", "[I", true)
  | 11 => ("BitingDoors$Hanger", "chosen", "[I", true)
  | 12 => ("BitingDoors$Hanger", "best", "[I", true)
  | 13 => ("BitingDoors$Hanger", "bestKey", "I", false)
  | 14 => ("BitingDoors$Hanger", "among", "I", false)
  | _ => ("BitingDoors$Hanger", "peaks", "[I", false)
def ty_3 : Nat → FieldType := fun k => match k with
  | 0 => (.array .long)
  | 1 => .long
  | 2 => (.object "BitingDoors$House")
  | 3 => (.array .int)
  | 4 => (.array .int)
  | 5 => .int
  | 6 => (.array .int)
  | 7 => .int
  | 8 => (.array .int)
  | 9 => .int
  | 10 => (.array .int)
  | 11 => (.array .int)
  | 12 => (.array .int)
  | 13 => .int
  | 14 => .int
  | _ => (.array .int)
def F_4 : u_T := fun k => match k with
  | 0 => ("BitingDoors$House", "cells", "[I", true)
  | 1 => ("BitingDoors$House", "doors", "[LBitingDoors$Door;", true)
  | 2 => ("BitingDoors$House", "draughts", "[I", true)
  | 3 => ("BitingDoors$House", "columns", "I", false)
  | 4 => ("BitingDoors$House", "rows", "I", false)
  | 5 => ("BitingDoors$House", "doorCount", "I", false)
  | 6 => ("BitingDoors$House", "draughtCount", "I", false)
  | 7 => ("BitingDoors$House", "bed", "I", false)
  | _ => ("BitingDoors$House", "lines", "I", false)
def ty_4 : Nat → FieldType := fun k => match k with
  | 0 => (.array .int)
  | 1 => (.array (.object "BitingDoors$Door"))
  | 2 => (.array .int)
  | 3 => .int
  | 4 => .int
  | 5 => .int
  | 6 => .int
  | 7 => .int
  | _ => .int
def F_5 : u_T := fun k => match k with
  | 0 => ("BitingDoors$HouseReader", "text", "LBitingDoors$Text;", true)
  | _ => ("BitingDoors$HouseReader", "house", "LBitingDoors$House;", true)
def ty_5 : Nat → FieldType := fun k => match k with
  | 0 => (.object "BitingDoors$Text")
  | _ => (.object "BitingDoors$House")
def F_6 : u_T := fun k => match k with
  | 0 => ("BitingDoors$Paths", "acts", "[I", false)
  | 1 => ("BitingDoors$Paths", "length", "I", false)
  | 2 => ("BitingDoors$Paths", "scene", "LBitingDoors$Scene;", true)
  | 3 => ("BitingDoors$Paths", "origins", "[I", false)
  | 4 => ("BitingDoors$Paths", "queue", "[I", false)
  | _ => ("BitingDoors$Paths", "tail", "I", false)
def ty_6 : Nat → FieldType := fun k => match k with
  | 0 => (.array .int)
  | 1 => .int
  | 2 => (.object "BitingDoors$Scene")
  | 3 => (.array .int)
  | 4 => (.array .int)
  | _ => .int
def F_7 : u_T := fun k => match k with
  | 0 => ("BitingDoors$Scene", "hanging", "[I", true)
  | 1 => ("BitingDoors$Scene", "angle", "[I", true)
  | 2 => ("BitingDoors$Scene", "house", "LBitingDoors$House;", false)
  | _ => ("BitingDoors$Scene", "place", "I", false)
def ty_7 : Nat → FieldType := fun k => match k with
  | 0 => (.array .int)
  | 1 => (.array .int)
  | 2 => (.object "BitingDoors$House")
  | _ => .int
def F_8 : u_T := fun k => match k with
  | 0 => ("BitingDoors$Sentence", "kinds", "[I", true)
  | 1 => ("BitingDoors$Sentence", "signs", "[I", true)
  | 2 => ("BitingDoors$Sentence", "numbers", "[I", true)
  | 3 => ("BitingDoors$Sentence", "size", "I", false)
  | _ => ("BitingDoors$Sentence", "ones", "I", false)
def ty_8 : Nat → FieldType := fun k => match k with
  | 0 => (.array .int)
  | 1 => (.array .int)
  | 2 => (.array .int)
  | 3 => .int
  | _ => .int
def F_9 : u_T := fun k => match k with
  | 0 => ("BitingDoors$Text", "bytes", "[I", true)
  | 1 => ("BitingDoors$Text", "size", "I", false)
  | 2 => ("BitingDoors$Text", "kind", "I", false)
  | 3 => ("BitingDoors$Text", "at", "I", false)
  | 4 => ("BitingDoors$Text", "number", "I", false)
  | 5 => ("BitingDoors$Text", "word", "J", false)
  | 6 => ("BitingDoors$Text", "faultKind", "I", false)
  | 7 => ("BitingDoors$Text", "faultAt", "I", false)
  | 8 => ("BitingDoors$Text", "limit", "I", false)
  | _ => ("BitingDoors$Text", "next", "I", false)
def ty_9 : Nat → FieldType := fun k => match k with
  | 0 => (.array .int)
  | 1 => .int
  | 2 => .int
  | 3 => .int
  | 4 => .int
  | 5 => .long
  | 6 => .int
  | 7 => .int
  | 8 => .int
  | _ => .int
def F_10 : u_T := fun k => match k with
  | 0 => ("BitingDoors", "text", "LBitingDoors$Text;", true)
  | 1 => ("BitingDoors", "now", "LBitingDoors$Scene;", true)
  | 2 => ("BitingDoors", "trial", "LBitingDoors$Scene;", true)
  | 3 => ("BitingDoors", "hanger", "LBitingDoors$Hanger;", true)
  | 4 => ("BitingDoors", "forcing", "LBitingDoors$Forcing;", true)
  | 5 => ("BitingDoors", "paths", "LBitingDoors$Paths;", true)
  | 6 => ("BitingDoors", "keptScenes", "[LBitingDoors$Scene;", true)
  | 7 => ("BitingDoors", "keptDays", "[LBitingDoors$Day;", true)
  | 8 => ("BitingDoors", "keptSentences", "[LBitingDoors$Sentence;", true)
  | 9 => ("BitingDoors", "report", "[I", true)
  | 10 => ("BitingDoors", "reported", "Z", false)
  | 11 => ("BitingDoors", "plan", "LBitingDoors$Day;", false)
  | 12 => ("BitingDoors", "saying", "LBitingDoors$Sentence;", false)
  | _ => ("BitingDoors", "gone", "I", false)
def ty_10 : Nat → FieldType := fun k => match k with
  | 0 => (.object "BitingDoors$Text")
  | 1 => (.object "BitingDoors$Scene")
  | 2 => (.object "BitingDoors$Scene")
  | 3 => (.object "BitingDoors$Hanger")
  | 4 => (.object "BitingDoors$Forcing")
  | 5 => (.object "BitingDoors$Paths")
  | 6 => (.array (.object "BitingDoors$Scene"))
  | 7 => (.array (.object "BitingDoors$Day"))
  | 8 => (.array (.object "BitingDoors$Sentence"))
  | 9 => (.array .int)
  | 10 => .boolean
  | 11 => (.object "BitingDoors$Day")
  | 12 => (.object "BitingDoors$Sentence")
  | _ => .int
def F_11 : u_T := fun k => match k with
  | 0 => ("BitingDoorsModel", "thrown", "I", false)
  | 1 => ("BitingDoorsModel", "tape", "[I", true)
  | 2 => ("BitingDoorsModel", "taped", "I", false)
  | 3 => ("BitingDoorsModel", "size", "I", false)
  | 4 => ("BitingDoorsModel", "limit", "I", false)
  | 5 => ("BitingDoorsModel", "to", "I", false)
  | 6 => ("BitingDoorsModel", "from", "I", false)
  | 7 => ("BitingDoorsModel", "kind", "I", false)
  | 8 => ("BitingDoorsModel", "number", "I", false)
  | 9 => ("BitingDoorsModel", "sign", "I", false)
  | 10 => ("BitingDoorsModel", "fault", "I", false)
  | 11 => ("BitingDoorsModel", "place", "I", false)
  | 12 => ("BitingDoorsModel", "word", "J", false)
  | 13 => ("BitingDoorsModel", "told", "I", false)
  | 14 => ("BitingDoorsModel", "now", "[I", true)
  | 15 => ("BitingDoorsModel", "read", "[I", true)
  | 16 => ("BitingDoorsModel", "line", "[I", true)
  | 17 => ("BitingDoorsModel", "kept", "[I", true)
  | 18 => ("BitingDoorsModel", "name", "[J", true)
  | 19 => ("BitingDoorsModel", "readName", "[J", true)
  | 20 => ("BitingDoorsModel", "keptName", "[J", true)
  | 21 => ("BitingDoorsModel", "isKept", "[Z", true)
  | 22 => ("BitingDoorsModel", "isBegun", "Z", false)
  | 23 => ("BitingDoorsModel", "minutes", "I", false)
  | 24 => ("BitingDoorsModel", "leafX", "[I", true)
  | 25 => ("BitingDoorsModel", "leafY", "[I", true)
  | 26 => ("BitingDoorsModel", "leafMany", "I", false)
  | 27 => ("BitingDoorsModel", "upper", "[J", true)
  | 28 => ("BitingDoorsModel", "lower", "[J", true)
  | 29 => ("BitingDoorsModel", "fits", "[I", true)
  | 30 => ("BitingDoorsModel", "trial", "[I", true)
  | 31 => ("BitingDoorsModel", "best", "[I", true)
  | 32 => ("BitingDoorsModel", "least", "I", false)
  | 33 => ("BitingDoorsModel", "waysMany", "I", false)
  | 34 => ("BitingDoorsModel", "left", "[I", true)
  | 35 => ("BitingDoorsModel", "forcedTo", "[I", true)
  | 36 => ("BitingDoorsModel", "forcedRow", "[I", true)
  | 37 => ("BitingDoorsModel", "forcedMany", "I", false)
  | 38 => ("BitingDoorsModel", "forcedDoors", "I", false)
  | 39 => ("BitingDoorsModel", "clash", "[I", true)
  | 40 => ("BitingDoorsModel", "worst", "[I", true)
  | 41 => ("BitingDoorsModel", "joined", "[I", true)
  | 42 => ("BitingDoorsModel", "joinedMany", "I", false)
  | 43 => ("BitingDoorsModel", "angle", "[I", true)
  | 44 => ("BitingDoorsModel", "leafOn", "[I", true)
  | 45 => ("BitingDoorsModel", "stands", "I", false)
  | 46 => ("BitingDoorsModel", "draughtShut", "I", false)
  | 47 => ("BitingDoorsModel", "lineMany", "I", false)
  | 48 => ("BitingDoorsModel", "judged", "[I", true)
  | 49 => ("BitingDoorsModel", "spent", "I", false)
  | 50 => ("BitingDoorsModel", "queue", "[I", true)
  | 51 => ("BitingDoorsModel", "cameFrom", "[I", true)
  | 52 => ("BitingDoorsModel", "cameBy", "[I", true)
  | 53 => ("BitingDoorsModel", "wayRow", "[I", true)
  | 54 => ("BitingDoorsModel", "wayTold", "[I", true)
  | 55 => ("BitingDoorsModel", "queued", "I", false)
  | 56 => ("BitingDoorsModel", "wayMany", "I", false)
  | 57 => ("BitingDoorsModel", "wayToldMany", "I", false)
  | 58 => ("BitingDoorsModel", "met", "[Z", true)
  | 59 => ("BitingDoorsModel", "node", "[I", true)
  | 60 => ("BitingDoorsModel", "nodes", "I", false)
  | 61 => ("BitingDoorsModel", "onesMany", "I", false)
  | 62 => ("BitingDoorsModel", "within", "I", false)
  | _ => ("BitingDoorsModel", "top", "I", false)
def ty_11 : Nat → FieldType := fun k => match k with
  | 0 => .int
  | 1 => (.array .int)
  | 2 => .int
  | 3 => .int
  | 4 => .int
  | 5 => .int
  | 6 => .int
  | 7 => .int
  | 8 => .int
  | 9 => .int
  | 10 => .int
  | 11 => .int
  | 12 => .long
  | 13 => .int
  | 14 => (.array .int)
  | 15 => (.array .int)
  | 16 => (.array .int)
  | 17 => (.array .int)
  | 18 => (.array .long)
  | 19 => (.array .long)
  | 20 => (.array .long)
  | 21 => (.array .boolean)
  | 22 => .boolean
  | 23 => .int
  | 24 => (.array .int)
  | 25 => (.array .int)
  | 26 => .int
  | 27 => (.array .long)
  | 28 => (.array .long)
  | 29 => (.array .int)
  | 30 => (.array .int)
  | 31 => (.array .int)
  | 32 => .int
  | 33 => .int
  | 34 => (.array .int)
  | 35 => (.array .int)
  | 36 => (.array .int)
  | 37 => .int
  | 38 => .int
  | 39 => (.array .int)
  | 40 => (.array .int)
  | 41 => (.array .int)
  | 42 => .int
  | 43 => (.array .int)
  | 44 => (.array .int)
  | 45 => .int
  | 46 => .int
  | 47 => .int
  | 48 => (.array .int)
  | 49 => .int
  | 50 => (.array .int)
  | 51 => (.array .int)
  | 52 => (.array .int)
  | 53 => (.array .int)
  | 54 => (.array .int)
  | 55 => .int
  | 56 => .int
  | 57 => .int
  | 58 => (.array .boolean)
  | 59 => (.array .int)
  | 60 => .int
  | 61 => .int
  | 62 => .int
  | _ => .int
abbrev clA : List vw_C := [("BitingDoors$Day", F_0, 3), ("BitingDoors$Door", F_1, 14), ("BitingDoors$Forcing", F_2, 5), ("BitingDoors$Hanger", F_3, 16), ("BitingDoors$House", F_4, 9), ("BitingDoors$HouseReader", F_5, 2), ("BitingDoors$Paths", F_6, 6), ("BitingDoors$Scene", F_7, 4), ("BitingDoors$Sentence", F_8, 5), ("BitingDoors$Text", F_9, 10), ("BitingDoors", F_10, 14), ("BitingDoorsModel", F_11, 64)]
def bd_T (c : Nat) : u_T := (clA.getD c ("", F_0, 0)).2.1
def bd_Cn (c : Nat) : String := (clA.getD c ("", F_0, 0)).1
def bd_ft (c : Nat) : List Nat := [[2, 2, 0], [2, 2, 2, 2, 2, 1, 0, 0, 3, 0, 0, 0, 0, 3], [2, 2, 0, 0, 0], [2, 1, 2, 2, 2, 0, 2, 0, 2, 0, 2, 2, 2, 0, 0, 2], [2, 2, 2, 0, 0, 0, 0, 0, 0], [2, 2], [2, 0, 2, 2, 2, 0], [2, 2, 2, 0], [2, 2, 2, 0, 0], [2, 0, 0, 0, 0, 1, 0, 0, 0, 0], [2, 2, 2, 2, 2, 2, 2, 2, 2, 2, 3, 2, 2, 0], [0, 2, 0, 0, 0, 0, 0, 0, 0, 0, 0, 0, 1, 0, 2, 2, 2, 2, 2, 2, 2, 2, 3, 0, 2, 2, 0, 2, 2, 2, 2, 2, 0, 0, 2, 2, 2, 0, 0, 2, 2, 2, 0, 2, 2, 0, 0, 0, 2, 0, 2, 2, 2, 2, 2, 0, 0, 0, 2, 2, 0, 0, 0, 0]].getD c []
def bd_wn : List String := ["ROW", "DOOR", "ALONG", "ACROSS", "MAY", "COSTS", "WHOLE", "DRAUGHT", "BED", "GO", "OPEN", "SHUT", "WAIT", "NORTH", "EAST", "SOUTH", "WEST", "OR", "AND", "NOT", "FIT", "AT", "BITES", "ANGLE", "LENGTH", "SWEEPS"]
def tbl : List Cond := lw_tbl.filter goodWord
theorem tbl_in {w : Cond} {i : Nat} (h : lw_tbl[i]? = some w) (g : goodWord w = true) : w ∈ tbl := List.mem_filter.mpr ⟨List.mem_of_getElem? h, g⟩
def bd_at (p : Nat) (w : Cond) : Bool := decide (lw_tbl[p]? = some w)
def bd_own (mi : Nat) : String := (mtM mi).1.cls
def bd_akn (res : Nat) : String := ["BitingDoors$Day", "BitingDoors$Door", "BitingDoors$Scene", "BitingDoors$Sentence"].getD (res - 15) ""
def bd_ary (t : ArrayType) : Nat := match newarray.typeOf t with
  | .int => 12
  | .long => 13
  | .boolean => 14
  | _ => 0
/-- how long an instruction is (the switches apart) -/
def bd_lenOf (raw : Instr) : Nat := match raw with
  | .aload _ | .iload _ | .lload _ | .astore _ | .istore _ | .lstore _ | .bipush _ | .ldc _ | .newarray _ => 2
  | .iinc _ _ | .sipush _ | .ldc_w _ | .ldc2_w _ | .ifCond _ _ | .if_icmp _ _ | .if_acmp _ _ | .ifnull _ | .ifnonnull _ | .goto _ | .getfield _ | .putfield _ | .getstatic _ | .new _ | .anewarray _ | .invokespecial _ | .invokestatic _ | .invokevirtual _ => 3
  | _ => 1
def bd_sw (raw : Instr) : Bool := match raw with
  | .tableswitch _ _ _ _ | .lookupswitch _ _ => true
  | _ => false
def bd_nest (res : Nat) (mi ix p : Nat) : Bool := bd_at p (.methodLink (bd_own mi) ix (mtM res).1) || bd_at p (.methodLinkNest (bd_own mi) ix (mtM res).1 "BitingDoors")
/-- the words on an instruction's links stand in the tables, at p -/
def bd_lk (mi : Nat) (raw : Instr) (res p : Nat) : Bool := match raw with
  | .getfield ix => if res / 64 % 32 = 19 then (res == 1 * 2048 + 19 * 64) && bd_at p (.fieldLink (bd_own mi) ix "BitingDoors$Word" "code" "J")
      else decide (res / 64 % 32 < 12) && decide (res % 64 < bd_nf (res / 64 % 32)) && decide ((bd_ft (res / 64 % 32))[res % 64]? = some (res / 2048)) && bd_at p (.fieldLink (bd_own mi) ix (bd_T (res / 64 % 32) (res % 64)).1 (bd_T (res / 64 % 32) (res % 64)).2.1 (bd_T (res / 64 % 32) (res % 64)).2.2.1)
  | .putfield ix => decide (res / 64 % 32 < 12) && decide (res % 64 < bd_nf (res / 64 % 32)) && decide ((bd_ft (res / 64 % 32))[res % 64]? = some (res / 2048)) && bd_at p (.fieldLink (bd_own mi) ix (bd_T (res / 64 % 32) (res % 64)).1 (bd_T (res / 64 % 32) (res % 64)).2.1 (bd_T (res / 64 % 32) (res % 64)).2.2.1)
      && (!(bd_T (res / 64 % 32) (res % 64)).2.2.2 || (decide ((mtM mi).1.name = "<init>") && decide ((bd_T (res / 64 % 32) (res % 64)).1 = bd_own mi)))
  | .getstatic ix => if res < 26 then bd_at p (.fieldLink (bd_own mi) ix "BitingDoors$Word" (bd_wn.getD res "") "LBitingDoors$Word;")
      else if res = 26 then bd_at p (.fieldLink (bd_own mi) ix "BitingDoors$Word" "ALL" "[LBitingDoors$Word;")
      else if res = 27 then bd_at p (.fieldLinkNest (bd_own mi) ix "BitingDoors" "STEP_X" "[I" "BitingDoors")
      else decide (res = 28) && bd_at p (.fieldLinkNest (bd_own mi) ix "BitingDoors" "STEP_Y" "[I" "BitingDoors")
  | .new ix => if res = 99 then decide (mi = 135) else decide (res < 12) && bd_at p (.classLink (bd_own mi) ix (bd_Cn res))
  | .newarray t => decide (bd_ary t = res) && decide (12 ≤ res)
  | .anewarray ix => decide (15 ≤ res) && decide (res ≤ 18) && bd_at p (.classLink (bd_own mi) ix (bd_akn res))
  | .ldc ix => bd_at p (.constant (bd_own mi) ix (Int32.ofNat res))
  | .ldc_w ix => bd_at p (.constant (bd_own mi) ix (Int32.ofNat res))
  | .ldc2_w ix => bd_at p (.constantLong (bd_own mi) ix (Int64.ofNat res))
  | .invokevirtual ix => decide (res < 309) && bd_at p (.methodLink (bd_own mi) ix (mtM res).1) && decide ((mtM res).2.2.2.2.2.1 = 1) && decide ((mtM res).1.name ≠ "<init>") && decide ((mtM res).2.2.2.2.2.2 < 12)
  | .invokespecial ix => if res = 900 then bd_at p (.methodLink (bd_own mi) ix objectInit) else if res = 999 then decide (mi = 135) else decide (res < 309) && bd_nest res mi ix p && decide ((mtM res).2.2.2.2.2.1 = 1) && decide ((mtM res).1.name = "<init>")
  | .invokestatic ix => if res = 901 then bd_at p (.methodLink (bd_own mi) ix arraycopyName) else decide (res < 309) && bd_at p (.methodLink (bd_own mi) ix (mtM res).1) && decide ((mtM res).2.2.2.2.2.1 = 0)
  | .lookupswitch _ ps => (ps.toList.zip (ps.toList.drop 1)).all (fun (a, next) => decide (a.1 < next.1))
  | _ => true
def bd_row (mi : Nat) (q : Nat × Instr × Nat × Nat) : Bool := (match decode (mtM mi).2.1 q.1 with
  | .ok (i, n) => decide (i = q.2.1) && (bd_sw i || decide (n = bd_lenOf i))
  | .error _ => false) && bd_lk mi q.2.1 q.2.2.1 q.2.2.2
/-- the words on a method itself -/
def bd_mw (mi : Nat) : Bool := plainName (mtM mi).1.cls && decide ((mtM mi).1.cls ≠ "java/lang/invoke/MethodHandle" ∧ (mtM mi).1.cls ≠ "java/lang/invoke/VarHandle") &&
  decide ((parseMethodDescriptor (mtM mi).1.desc).map (fun d => d.parameters.length + (mtM mi).2.2.2.2.2.1) = some (mtM mi).2.2.2.2.1) &&
  bd_at (mpM mi).2.1 (.initialized (mtM mi).1.cls) &&
  (if (mtM mi).2.2.2.2.2.1 = 0 then bd_at (mpM mi).2.2.1 (.static (mtM mi).1) else bd_at (mpM mi).2.2.1 (.instanceMethod (mtM mi).1) &&
    (if (mtM mi).1.name = "<init>" then decide ((mtM mi).2.2.2.1 = none) else bd_at (mpM mi).2.2.2 (.selects (mtM mi).1.cls (mtM mi).1 (mtM mi).1) && (decide ((mtM mi).2.2.2.2.2.2 = 98) || decide (bd_Cn (mtM mi).2.2.2.2.2.2 = (mtM mi).1.cls)))) && decide ((mtM mi).2.2.1 ≤ 20)
