def RX0 : String := "PictureHouse$Bits"
def TX0 : u_T := fun k => match k with
  | 0 => ("PictureHouse$Bits", "data", "[B", false)
  | 1 => ("PictureHouse$Bits", "at", "I", false)
  | 2 => ("PictureHouse$Bits", "end", "I", false)
  | _ => ("PictureHouse$Bits", "fault", "I", false)
def tyX0 : Nat → FieldType := fun k => match k with
  | 0 => .array .byte
  | 1 => .int
  | 2 => .int
  | _ => .int
def RX1 : String := "PictureHouse$BlocksMaker"
def TX1 : u_T := fun k => match k with
  | 0 => ("PictureHouse$BlocksMaker", "parts", "LPictureHouse$Parts;", true)
  | 1 => ("PictureHouse$BlocksMaker", "tally", "LPictureHouse$Bits;", true)
  | 2 => ("PictureHouse$BlocksMaker", "wanted", "[I", true)
  | 3 => ("PictureHouse$BlocksMaker", "bestMade", "[I", true)
  | 4 => ("PictureHouse$BlocksMaker", "bestLevels", "[I", true)
  | 5 => ("PictureHouse$BlocksMaker", "bestVector", "[I", true)
  | 6 => ("PictureHouse$BlocksMaker", "found", "[I", true)
  | 7 => ("PictureHouse$BlocksMaker", "bestWay", "I", false)
  | _ => ("PictureHouse$BlocksMaker", "bestCost", "I", false)
def tyX1 : Nat → FieldType := fun k => match k with
  | 0 => .object "PictureHouse$Parts"
  | 1 => .object "PictureHouse$Bits"
  | 2 => .array .int
  | 3 => .array .int
  | 4 => .array .int
  | 5 => .array .int
  | 6 => .array .int
  | 7 => .int
  | _ => .int
def RX2 : String := "PictureHouse$Film"
def TX2 : u_T := fun k => match k with
  | 0 => ("PictureHouse$Film", "coding", "I", false)
  | 1 => ("PictureHouse$Film", "width", "I", false)
  | 2 => ("PictureHouse$Film", "height", "I", false)
  | 3 => ("PictureHouse$Film", "rate", "I", false)
  | 4 => ("PictureHouse$Film", "many", "I", false)
  | 5 => ("PictureHouse$Film", "data", "[B", false)
  | 6 => ("PictureHouse$Film", "length", "I", false)
  | 7 => ("PictureHouse$Film", "kinds", "[I", true)
  | 8 => ("PictureHouse$Film", "places", "[I", true)
  | 9 => ("PictureHouse$Film", "steps", "[I", true)
  | 10 => ("PictureHouse$Film", "sizes", "[I", true)
  | 11 => ("PictureHouse$Film", "heads", "[I", true)
  | 12 => ("PictureHouse$Film", "order", "[I", true)
  | 13 => ("PictureHouse$Film", "begins", "[Z", true)
  | 14 => ("PictureHouse$Film", "kept", "[Z", true)
  | 15 => ("PictureHouse$Film", "pictures", "[LPictureHouse$Picture;", true)
  | 16 => ("PictureHouse$Film", "rules", "[I", true)
  | 17 => ("PictureHouse$Film", "spots", "[I", true)
  | _ => ("PictureHouse$Film", "facts", "[I", true)
def tyX2 : Nat → FieldType := fun k => match k with
  | 0 => .int
  | 1 => .int
  | 2 => .int
  | 3 => .int
  | 4 => .int
  | 5 => .array .byte
  | 6 => .int
  | 7 => .array .int
  | 8 => .array .int
  | 9 => .array .int
  | 10 => .array .int
  | 11 => .array .int
  | 12 => .array .int
  | 13 => .array .boolean
  | 14 => .array .boolean
  | 15 => .array (.object "PictureHouse$Picture")
  | 16 => .array .int
  | 17 => .array .int
  | _ => .array .int
def RX3 : String := "PictureHouse$Filter"
def TX3 : u_T := fun k => match k with
  | 0 => ("PictureHouse$Filter", "steps", "[I", true)
  | 1 => ("PictureHouse$Filter", "stepCount", "I", false)
  | 2 => ("PictureHouse$Filter", "pile", "[I", true)
  | 3 => ("PictureHouse$Filter", "text", "[B", false)
  | 4 => ("PictureHouse$Filter", "end", "I", false)
  | _ => ("PictureHouse$Filter", "at", "I", false)
def tyX3 : Nat → FieldType := fun k => match k with
  | 0 => .array .int
  | 1 => .int
  | 2 => .array .int
  | 3 => .array .byte
  | 4 => .int
  | _ => .int
def RX4 : String := "PictureHouse$Maker"
def TX4 : u_T := fun k => match k with
  | 0 => ("PictureHouse$Maker", "out", "LPictureHouse$Bits;", true)
  | 1 => ("PictureHouse$Maker", "blocks", "LPictureHouse$BlocksMaker;", true)
  | 2 => ("PictureHouse$Maker", "waves", "LPictureHouse$Waves;", true)
  | 3 => ("PictureHouse$Maker", "runs", "LPictureHouse$Runs;", true)
  | 4 => ("PictureHouse$Maker", "sources", "[LPictureHouse$Picture;", true)
  | 5 => ("PictureHouse$Maker", "many", "I", false)
  | 6 => ("PictureHouse$Maker", "settings", "[I", false)
  | 7 => ("PictureHouse$Maker", "groups", "[I", true)
  | 8 => ("PictureHouse$Maker", "need", "[I", true)
  | _ => ("PictureHouse$Maker", "marks", "[I", true)
def tyX4 : Nat → FieldType := fun k => match k with
  | 0 => .object "PictureHouse$Bits"
  | 1 => .object "PictureHouse$BlocksMaker"
  | 2 => .object "PictureHouse$Waves"
  | 3 => .object "PictureHouse$Runs"
  | 4 => .array (.object "PictureHouse$Picture")
  | 5 => .int
  | 6 => .array .int
  | 7 => .array .int
  | 8 => .array .int
  | _ => .array .int
def RX5 : String := "PictureHouse$Parts"
def TX5 : u_T := fun k => match k with
  | 0 => ("PictureHouse$Parts", "kind", "I", false)
  | 1 => ("PictureHouse$Parts", "step", "I", false)
  | 2 => ("PictureHouse$Parts", "picture", "LPictureHouse$Picture;", false)
  | 3 => ("PictureHouse$Parts", "behind", "LPictureHouse$Picture;", false)
  | 4 => ("PictureHouse$Parts", "ahead", "LPictureHouse$Picture;", false)
  | 5 => ("PictureHouse$Parts", "across", "I", false)
  | 6 => ("PictureHouse$Parts", "down", "I", false)
  | 7 => ("PictureHouse$Parts", "foretold", "[I", true)
  | 8 => ("PictureHouse$Parts", "other", "[I", true)
  | 9 => ("PictureHouse$Parts", "made", "[I", true)
  | 10 => ("PictureHouse$Parts", "levels", "[I", true)
  | 11 => ("PictureHouse$Parts", "vector", "[I", true)
  | 12 => ("PictureHouse$Parts", "guess", "[I", true)
  | 13 => ("PictureHouse$Parts", "square", "[I", true)
  | 14 => ("PictureHouse$Parts", "columns", "[I", true)
  | _ => ("PictureHouse$Parts", "lines", "[I", true)
def tyX5 : Nat → FieldType := fun k => match k with
  | 0 => .int
  | 1 => .int
  | 2 => .object "PictureHouse$Picture"
  | 3 => .object "PictureHouse$Picture"
  | 4 => .object "PictureHouse$Picture"
  | 5 => .int
  | 6 => .int
  | 7 => .array .int
  | 8 => .array .int
  | 9 => .array .int
  | 10 => .array .int
  | 11 => .array .int
  | 12 => .array .int
  | 13 => .array .int
  | 14 => .array .int
  | _ => .array .int
def RX6 : String := "PictureHouse$Picture"
def TX6 : u_T := fun k => match k with
  | 0 => ("PictureHouse$Picture", "width", "I", false)
  | 1 => ("PictureHouse$Picture", "height", "I", false)
  | _ => ("PictureHouse$Picture", "samples", "[I", true)
def tyX6 : Nat → FieldType := fun k => match k with
  | 0 => .int
  | 1 => .int
  | _ => .array .int
def RX7 : String := "PictureHouse$Player"
def TX7 : u_T := fun k => match k with
  | 0 => ("PictureHouse$Player", "film", "LPictureHouse$Film;", false)
  | 1 => ("PictureHouse$Player", "filmNumber", "I", false)
  | 2 => ("PictureHouse$Player", "come", "I", false)
  | 3 => ("PictureHouse$Player", "next", "I", false)
  | 4 => ("PictureHouse$Player", "runs", "Z", false)
  | 5 => ("PictureHouse$Player", "late", "I", false)
  | 6 => ("PictureHouse$Player", "latest", "I", false)
  | 7 => ("PictureHouse$Player", "lost", "I", false)
  | 8 => ("PictureHouse$Player", "showing", "LPictureHouse$Picture;", false)
  | 9 => ("PictureHouse$Player", "speed", "I", false)
  | 10 => ("PictureHouse$Player", "wait", "I", false)
  | _ => ("PictureHouse$Player", "begun", "I", false)
def tyX7 : Nat → FieldType := fun k => match k with
  | 0 => .object "PictureHouse$Film"
  | 1 => .int
  | 2 => .int
  | 3 => .int
  | 4 => .boolean
  | 5 => .int
  | 6 => .int
  | 7 => .int
  | 8 => .object "PictureHouse$Picture"
  | 9 => .int
  | 10 => .int
  | _ => .int
def RX8 : String := "PictureHouse$Reader"
def TX8 : u_T := fun k => match k with
  | 0 => ("PictureHouse$Reader", "bits", "LPictureHouse$Bits;", true)
  | 1 => ("PictureHouse$Reader", "parts", "LPictureHouse$Parts;", true)
  | 2 => ("PictureHouse$Reader", "waves", "LPictureHouse$Waves;", true)
  | 3 => ("PictureHouse$Reader", "runs", "LPictureHouse$Runs;", true)
  | 4 => ("PictureHouse$Reader", "spare", "LPictureHouse$Film;", true)
  | 5 => ("PictureHouse$Reader", "found", "[I", true)
  | _ => ("PictureHouse$Reader", "spot", "I", false)
def tyX8 : Nat → FieldType := fun k => match k with
  | 0 => .object "PictureHouse$Bits"
  | 1 => .object "PictureHouse$Parts"
  | 2 => .object "PictureHouse$Waves"
  | 3 => .object "PictureHouse$Runs"
  | 4 => .object "PictureHouse$Film"
  | 5 => .array .int
  | _ => .int
def RX9 : String := "PictureHouse$Runs"
def TX9 : u_T := fun k => match k with
  | 0 => ("PictureHouse$Runs", "there", "I", false)
  | 1 => ("PictureHouse$Runs", "need", "[I", true)
  | 2 => ("PictureHouse$Runs", "ways", "[I", true)
  | _ => ("PictureHouse$Runs", "lengths", "[I", true)
def tyX9 : Nat → FieldType := fun k => match k with
  | 0 => .int
  | 1 => .array .int
  | 2 => .array .int
  | _ => .array .int
def RX10 : String := "PictureHouse$Waves"
def TX10 : u_T := fun k => match k with
  | 0 => ("PictureHouse$Waves", "numbers", "[I", true)
  | _ => ("PictureHouse$Waves", "line", "[I", true)
def tyX10 : Nat → FieldType := fun k => match k with
  | 0 => .array .int
  | _ => .array .int
def RX11 : String := "PictureHouse"
def TX11 : u_T := fun k => match k with
  | 0 => ("PictureHouse", "pictures", "[LPictureHouse$Picture;", true)
  | 1 => ("PictureHouse", "pictureCount", "I", false)
  | 2 => ("PictureHouse", "tapeBytes", "[B", true)
  | 3 => ("PictureHouse", "tapeLength", "I", false)
  | 4 => ("PictureHouse", "settings", "[I", true)
  | 5 => ("PictureHouse", "reelPictures", "[LPictureHouse$Picture;", true)
  | 6 => ("PictureHouse", "reelCount", "I", false)
  | 7 => ("PictureHouse", "films", "[LPictureHouse$Film;", true)
  | 8 => ("PictureHouse", "filmCount", "I", false)
  | 9 => ("PictureHouse", "rows", "[I", true)
  | 10 => ("PictureHouse", "rowCount", "I", false)
  | 11 => ("PictureHouse", "filters", "[LPictureHouse$Filter;", true)
  | 12 => ("PictureHouse", "filterCount", "I", false)
  | 13 => ("PictureHouse", "players", "[LPictureHouse$Player;", true)
  | 14 => ("PictureHouse", "reader", "LPictureHouse$Reader;", true)
  | _ => ("PictureHouse", "maker", "LPictureHouse$Maker;", true)
def tyX11 : Nat → FieldType := fun k => match k with
  | 0 => .array (.object "PictureHouse$Picture")
  | 1 => .int
  | 2 => .array .byte
  | 3 => .int
  | 4 => .array .int
  | 5 => .array (.object "PictureHouse$Picture")
  | 6 => .int
  | 7 => .array (.object "PictureHouse$Film")
  | 8 => .int
  | 9 => .array .int
  | 10 => .int
  | 11 => .array (.object "PictureHouse$Filter")
  | 12 => .int
  | 13 => .array (.object "PictureHouse$Player")
  | 14 => .object "PictureHouse$Reader"
  | _ => .object "PictureHouse$Maker"
def RX12 : String := "PictureHouseModel"
def TX12 : u_T := fun k => match k with
  | 0 => ("PictureHouseModel", "code", "I", false)
  | 1 => ("PictureHouseModel", "pictures", "I", false)
  | 2 => ("PictureHouseModel", "widths", "[I", true)
  | 3 => ("PictureHouseModel", "heights", "[I", true)
  | 4 => ("PictureHouseModel", "samples", "[I", true)
  | 5 => ("PictureHouseModel", "tapeSize", "I", false)
  | 6 => ("PictureHouseModel", "tape", "[I", true)
  | 7 => ("PictureHouseModel", "reelSize", "I", false)
  | 8 => ("PictureHouseModel", "reelWide", "I", false)
  | 9 => ("PictureHouseModel", "reelHigh", "I", false)
  | 10 => ("PictureHouseModel", "reel", "[I", true)
  | 11 => ("PictureHouseModel", "settings", "[I", true)
  | 12 => ("PictureHouseModel", "films", "I", false)
  | 13 => ("PictureHouseModel", "codings", "[I", true)
  | 14 => ("PictureHouseModel", "filmWide", "[I", true)
  | 15 => ("PictureHouseModel", "filmHigh", "[I", true)
  | 16 => ("PictureHouseModel", "rates", "[I", true)
  | 17 => ("PictureHouseModel", "counts", "[I", true)
  | 18 => ("PictureHouseModel", "filmBytes", "[I", true)
  | 19 => ("PictureHouseModel", "data", "[B", true)
  | 20 => ("PictureHouseModel", "kinds", "[I", true)
  | 21 => ("PictureHouseModel", "places", "[I", true)
  | 22 => ("PictureHouseModel", "stepsOf", "[I", true)
  | 23 => ("PictureHouseModel", "lengths", "[I", true)
  | 24 => ("PictureHouseModel", "heads", "[I", true)
  | 25 => ("PictureHouseModel", "starts", "[Z", true)
  | 26 => ("PictureHouseModel", "rules", "[I", true)
  | 27 => ("PictureHouseModel", "spots", "[I", true)
  | 28 => ("PictureHouseModel", "keeps", "[Z", true)
  | 29 => ("PictureHouseModel", "filmSamples", "[I", true)
  | 30 => ("PictureHouseModel", "filmMended", "[Z", true)
  | 31 => ("PictureHouseModel", "filmParts", "[I", true)
  | 32 => ("PictureHouseModel", "coding", "I", false)
  | 33 => ("PictureHouseModel", "wide", "I", false)
  | 34 => ("PictureHouseModel", "high", "I", false)
  | 35 => ("PictureHouseModel", "many", "I", false)
  | 36 => ("PictureHouseModel", "firstAt", "I", false)
  | 37 => ("PictureHouseModel", "kindAt", "[I", true)
  | 38 => ("PictureHouseModel", "placeAt", "[I", true)
  | 39 => ("PictureHouseModel", "stepAt", "[I", true)
  | 40 => ("PictureHouseModel", "lengthAt", "[I", true)
  | 41 => ("PictureHouseModel", "headAt", "[I", true)
  | 42 => ("PictureHouseModel", "ruleAt", "[I", true)
  | 43 => ("PictureHouseModel", "spotAt", "[I", true)
  | 44 => ("PictureHouseModel", "d", "[I", true)
  | 45 => ("PictureHouseModel", "isMended", "[Z", true)
  | 46 => ("PictureHouseModel", "partAt", "[I", true)
  | 47 => ("PictureHouseModel", "freshSize", "I", false)
  | 48 => ("PictureHouseModel", "fresh", "[B", true)
  | 49 => ("PictureHouseModel", "bitFrom", "I", false)
  | 50 => ("PictureHouseModel", "bitMany", "I", false)
  | 51 => ("PictureHouseModel", "bitAt", "I", false)
  | 52 => ("PictureHouseModel", "broken", "I", false)
  | 53 => ("PictureHouseModel", "out", "I", false)
  | 54 => ("PictureHouseModel", "outBits", "[B", true)
  | 55 => ("PictureHouseModel", "pred", "[I", true)
  | 56 => ("PictureHouseModel", "rest", "[I", true)
  | 57 => ("PictureHouseModel", "square", "[I", true)
  | 58 => ("PictureHouseModel", "half", "[I", true)
  | 59 => ("PictureHouseModel", "levels", "I", false)
  | 60 => ("PictureHouseModel", "way", "I", false)
  | 61 => ("PictureHouseModel", "how", "I", false)
  | 62 => ("PictureHouseModel", "fx", "I", false)
  | 63 => ("PictureHouseModel", "fy", "I", false)
  | 64 => ("PictureHouseModel", "bx", "I", false)
  | 65 => ("PictureHouseModel", "by", "I", false)
  | 66 => ("PictureHouseModel", "wave", "[I", true)
  | 67 => ("PictureHouseModel", "line", "[I", true)
  | 68 => ("PictureHouseModel", "line2", "[I", true)
  | 69 => ("PictureHouseModel", "there", "I", false)
  | 70 => ("PictureHouseModel", "source", "[I", true)
  | 71 => ("PictureHouseModel", "best", "[I", true)
  | 72 => ("PictureHouseModel", "bestPart", "[I", true)
  | 73 => ("PictureHouseModel", "bestBits", "[B", true)
  | 74 => ("PictureHouseModel", "bestOut", "I", false)
  | 75 => ("PictureHouseModel", "bestCost", "J", false)
  | 76 => ("PictureHouseModel", "foundX", "I", false)
  | 77 => ("PictureHouseModel", "foundY", "I", false)
  | 78 => ("PictureHouseModel", "searched", "[I", true)
  | 79 => ("PictureHouseModel", "fewest", "[I", true)
  | 80 => ("PictureHouseModel", "byWay", "[I", true)
  | 81 => ("PictureHouseModel", "byLength", "[I", true)
  | 82 => ("PictureHouseModel", "buffered", "I", false)
  | 83 => ("PictureHouseModel", "needed", "I", false)
  | 84 => ("PictureHouseModel", "planFewest", "[I", true)
  | 85 => ("PictureHouseModel", "planLength", "[I", true)
  | 86 => ("PictureHouseModel", "listed", "I", false)
  | 87 => ("PictureHouseModel", "listFilm", "[I", true)
  | 88 => ("PictureHouseModel", "listFrom", "[I", true)
  | 89 => ("PictureHouseModel", "listTo", "[I", true)
  | 90 => ("PictureHouseModel", "keptAt", "[Z", true)
  | 91 => ("PictureHouseModel", "placed", "I", false)
  | 92 => ("PictureHouseModel", "filters", "I", false)
  | 93 => ("PictureHouseModel", "filterSize", "[I", true)
  | 94 => ("PictureHouseModel", "ops", "[I", true)
  | 95 => ("PictureHouseModel", "worths", "[I", true)
  | 96 => ("PictureHouseModel", "place", "I", false)
  | 97 => ("PictureHouseModel", "wrongAt", "I", false)
  | 98 => ("PictureHouseModel", "waits", "I", false)
  | 99 => ("PictureHouseModel", "wait", "[I", true)
  | 100 => ("PictureHouseModel", "waitParts", "[I", true)
  | 101 => ("PictureHouseModel", "nested", "I", false)
  | 102 => ("PictureHouseModel", "filled", "I", false)
  | 103 => ("PictureHouseModel", "done", "Z", false)
  | 104 => ("PictureHouseModel", "pile", "[I", true)
  | 105 => ("PictureHouseModel", "filmOf", "[I", true)
  | 106 => ("PictureHouseModel", "speeds", "[I", true)
  | 107 => ("PictureHouseModel", "fills", "[I", true)
  | 108 => ("PictureHouseModel", "came", "[I", true)
  | 109 => ("PictureHouseModel", "cameFrom", "[I", true)
  | 110 => ("PictureHouseModel", "next", "[I", true)
  | 111 => ("PictureHouseModel", "goes", "[Z", true)
  | 112 => ("PictureHouseModel", "late", "[I", true)
  | 113 => ("PictureHouseModel", "latest", "[I", true)
  | 114 => ("PictureHouseModel", "lost", "[I", true)
  | _ => ("PictureHouseModel", "frames", "[I", true)
def tyX12 : Nat → FieldType := fun k => match k with
  | 0 => .int
  | 1 => .int
  | 2 => .array .int
  | 3 => .array .int
  | 4 => .array .int
  | 5 => .int
  | 6 => .array .int
  | 7 => .int
  | 8 => .int
  | 9 => .int
  | 10 => .array .int
  | 11 => .array .int
  | 12 => .int
  | 13 => .array .int
  | 14 => .array .int
  | 15 => .array .int
  | 16 => .array .int
  | 17 => .array .int
  | 18 => .array .int
  | 19 => .array .byte
  | 20 => .array .int
  | 21 => .array .int
  | 22 => .array .int
  | 23 => .array .int
  | 24 => .array .int
  | 25 => .array .boolean
  | 26 => .array .int
  | 27 => .array .int
  | 28 => .array .boolean
  | 29 => .array .int
  | 30 => .array .boolean
  | 31 => .array .int
  | 32 => .int
  | 33 => .int
  | 34 => .int
  | 35 => .int
  | 36 => .int
  | 37 => .array .int
  | 38 => .array .int
  | 39 => .array .int
  | 40 => .array .int
  | 41 => .array .int
  | 42 => .array .int
  | 43 => .array .int
  | 44 => .array .int
  | 45 => .array .boolean
  | 46 => .array .int
  | 47 => .int
  | 48 => .array .byte
  | 49 => .int
  | 50 => .int
  | 51 => .int
  | 52 => .int
  | 53 => .int
  | 54 => .array .byte
  | 55 => .array .int
  | 56 => .array .int
  | 57 => .array .int
  | 58 => .array .int
  | 59 => .int
  | 60 => .int
  | 61 => .int
  | 62 => .int
  | 63 => .int
  | 64 => .int
  | 65 => .int
  | 66 => .array .int
  | 67 => .array .int
  | 68 => .array .int
  | 69 => .int
  | 70 => .array .int
  | 71 => .array .int
  | 72 => .array .int
  | 73 => .array .byte
  | 74 => .int
  | 75 => .long
  | 76 => .int
  | 77 => .int
  | 78 => .array .int
  | 79 => .array .int
  | 80 => .array .int
  | 81 => .array .int
  | 82 => .int
  | 83 => .int
  | 84 => .array .int
  | 85 => .array .int
  | 86 => .int
  | 87 => .array .int
  | 88 => .array .int
  | 89 => .array .int
  | 90 => .array .boolean
  | 91 => .int
  | 92 => .int
  | 93 => .array .int
  | 94 => .array .int
  | 95 => .array .int
  | 96 => .int
  | 97 => .int
  | 98 => .int
  | 99 => .array .int
  | 100 => .array .int
  | 101 => .int
  | 102 => .int
  | 103 => .boolean
  | 104 => .array .int
  | 105 => .array .int
  | 106 => .array .int
  | 107 => .array .int
  | 108 => .array .int
  | 109 => .array .int
  | 110 => .array .int
  | 111 => .array .boolean
  | 112 => .array .int
  | 113 => .array .int
  | 114 => .array .int
  | _ => .array .int
abbrev vwCl : List vw_C := [(RX0, TX0, 4), (RX1, TX1, 9), (RX2, TX2, 19), (RX3, TX3, 6), (RX4, TX4, 10), (RX5, TX5, 16), (RX6, TX6, 3), (RX7, TX7, 12), (RX8, TX8, 7), (RX9, TX9, 4), (RX10, TX10, 2), (RX11, TX11, 16), (RX12, TX12, 116)]
/-- heap: how many cells, how many slots they have, what each holds (mini addresses: 0, 1, ..) -/
abbrev mm_H : Type := Nat × Nat × (Nat → va_E)
def mm_TE : u_T := fun _ => ("", "", "", false)
def mm_cls : List vw_C := vwCl ++ [("java/lang/IllegalArgumentException", mm_TE, 0), ("java/lang/IllegalStateException", mm_TE, 0), ("java/lang/IndexOutOfBoundsException", mm_TE, 0)]
def mm_ty : Nat → Nat → FieldType := fun c => match c with
  | 0 => tyX0
  | 1 => tyX1
  | 2 => tyX2
  | 3 => tyX3
  | 4 => tyX4
  | 5 => tyX5
  | 6 => tyX6
  | 7 => tyX7
  | 8 => tyX8
  | 9 => tyX9
  | 10 => tyX10
  | 11 => tyX11
  | 12 => tyX12
  | _ => fun _ => .int
def mm_ac : Nat → Nat := fun k => match k with
  | 4 => 2
  | 5 => 3
  | 6 => 6
  | _ => 7
def mm_cn (ci : Nat) : Nat := match mm_cls[ci]? with
  | some r => r.2.2
  | none => 0
def jw (z : Int) : Int := (z + 2147483648) % 4294967296 - 2147483648
def jwl (z : Int) : Int := (z + 9223372036854775808) % 18446744073709551616 - 9223372036854775808
def jwb (z : Int) : Int := (z + 128) % 256 - 128
/-- operations that are told by the machine's own -/
def jand (x y : Int) : Int := (Int32.ofInt x &&& Int32.ofInt y).toInt
def jor (x y : Int) : Int := (Int32.ofInt x ||| Int32.ofInt y).toInt
def jshl (x y : Int) : Int := (Int32.ofInt x <<< (Int32.ofInt y &&& 31)).toInt
def jshr (x y : Int) : Int := (Int32.ofInt x >>> (Int32.ofInt y &&& 31)).toInt
def jland (x y : Int) : Int := (Int64.ofInt x &&& Int64.ofInt y).toInt
def jlor (x y : Int) : Int := (Int64.ofInt x ||| Int64.ofInt y).toInt
def jlshl (x y : Int) : Int := (Int64.ofInt x <<< ((Int32.ofInt y).toInt64 &&& 63)).toInt
def jlushr (x y : Int) : Int := ((Int64.ofInt x).toUInt64 >>> ((Int32.ofInt y).toInt64.toUInt64 &&& Int64.toUInt64 63)).toInt64.toInt
def jlrem (x y : Int) : Int := (Int64.ofInt x - Int64.ofInt x / Int64.ofInt y * Int64.ofInt y).toInt
def jdiv (x y : Int) : Int := Int.tdiv (jw x) (jw y)
def jrem (x y : Int) : Int := jw x - Int.tdiv (jw x) (jw y) * jw y
abbrev jV : Type := (Int ⊕ Int) ⊕ Option Nat
def jcv : jV → Value
  | .inl (.inl z) => .int (Int32.ofInt z)
  | .inl (.inr z) => .long (Int64.ofInt z)
  | .inr q => va_rf q
/-- a cell: its tag (0 to 7 arrays: of int, byte, boolean, long, four of references; 8 + c: an object of class c), its length, its ints, its references -/
abbrev jC : Type := Nat × Nat × (Int → Int) × (Int → Option Nat)
def jfV (c k : Nat) (z : Int) (q : Option Nat) : Value := match mm_ty c k with
  | .int => .int (Int32.ofInt z)
  | .boolean => .int (Int32.ofInt (z % 2))
  | .long => .long (Int64.ofInt z)
  | _ => va_rf q
def jaC (c : jC) : va_E := match c.1 with
  | 0 => .inl (0, c.2.1, .inl (fun i => Int32.ofInt (c.2.2.1 i)))
  | 1 => .inl (1, c.2.1, .inl (fun i => Int32.ofInt (jwb (c.2.2.1 i))))
  | 2 => .inl (2, c.2.1, .inl (fun i => Int32.ofInt (c.2.2.1 i % 2)))
  | 3 => .inl (3, c.2.1, .inr (.inl (fun i => Int64.ofInt (c.2.2.1 i))))
  | 4 => .inl (4, c.2.1, .inr (.inr (.inr (.inr (fun i => c.2.2.2 i)))))
  | 5 => .inl (5, c.2.1, .inr (.inr (.inr (.inr (fun i => c.2.2.2 i)))))
  | 6 => .inl (6, c.2.1, .inr (.inr (.inr (.inr (fun i => c.2.2.2 i)))))
  | 7 => .inl (7, c.2.1, .inr (.inr (.inr (.inr (fun i => c.2.2.2 i)))))
  | k + 8 => .inr (k, (List.range (mm_cn k)).map (fun j => jfV k j (c.2.2.1 j) (c.2.2.2 j)))
abbrev jH : Type := Nat × Nat × (Nat → jC)
def jaH (h : jH) : mm_H := (h.1, h.2.1, fun a => jaC (h.2.2 a))
def jgi (h : jH) (a c k : Nat) : Option Int := if a < h.1 ∧ (h.2.2 a).1 = c + 8 then some ((h.2.2 a).2.2.1 k) else none
def jgb (h : jH) (a c k : Nat) : Option Int := if a < h.1 ∧ (h.2.2 a).1 = c + 8 then some ((h.2.2 a).2.2.1 k % 2) else none
def jgr (h : jH) (a c k : Nat) : Option (Option Nat) := if a < h.1 ∧ (h.2.2 a).1 = c + 8 then some ((h.2.2 a).2.2.2 k) else none
def jiu (f : Int → Int) (k v : Int) : Int → Int := fun j => if j = k then v else f j
def jru (f : Int → Option Nat) (k : Int) (v : Option Nat) : Int → Option Nat := fun j => if j = k then v else f j
def jce (H : Nat → jC) (a : Nat) (c : jC) : Nat → jC := fun b => if b = a then c else H b
def jsi (h : jH) (a : Nat) (k v : Int) : jH := (h.1, h.2.1, jce h.2.2 a ((h.2.2 a).1, (h.2.2 a).2.1, jiu (h.2.2 a).2.2.1 k v, (h.2.2 a).2.2.2))
def jsr (h : jH) (a : Nat) (k : Int) (v : Option Nat) : jH := (h.1, h.2.1, jce h.2.2 a ((h.2.2 a).1, (h.2.2 a).2.1, (h.2.2 a).2.2.1, jru (h.2.2 a).2.2.2 k v))
def jpi (h : jH) (a c k : Nat) (v : Int) : Option jH := if a < h.1 ∧ (h.2.2 a).1 = c + 8 then some (jsi h a k v) else none
def jpr (h : jH) (a c k : Nat) (v : Option Nat) : Option jH := if a < h.1 ∧ (h.2.2 a).1 = c + 8 then some (jsr h a k v) else none
def jai (h : jH) (a : Nat) (z : Int) : Option Int := if ((a < h.1 ∧ h.1 ≤ 1000000) ∧ (h.2.2 a).1 = 0) ∧ 0 ≤ jw z ∧ jw z < (h.2.2 a).2.1 then some ((h.2.2 a).2.2.1 (jw z)) else none
def jab (h : jH) (a : Nat) (z : Int) : Option Int := if (a < h.1 ∧ (h.2.2 a).1 = 1) ∧ 0 ≤ jw z ∧ jw z < (h.2.2 a).2.1 then some (jwb ((h.2.2 a).2.2.1 (jw z))) else none
def jaz (h : jH) (a : Nat) (z : Int) : Option Int := if (a < h.1 ∧ (h.2.2 a).1 = 2) ∧ 0 ≤ jw z ∧ jw z < (h.2.2 a).2.1 then some ((h.2.2 a).2.2.1 (jw z) % 2) else none
def jal (h : jH) (a : Nat) (z : Int) : Option Int := if (a < h.1 ∧ (h.2.2 a).1 = 3) ∧ 0 ≤ jw z ∧ jw z < (h.2.2 a).2.1 then some ((h.2.2 a).2.2.1 (jw z)) else none
def jar (h : jH) (a t : Nat) (z : Int) : Option (Option Nat) := if (a < h.1 ∧ (h.2.2 a).1 = t) ∧ 0 ≤ jw z ∧ jw z < (h.2.2 a).2.1 then some ((h.2.2 a).2.2.2 (jw z)) else none
def jta (h : jH) (a t : Nat) (z v : Int) : Option jH := if (a < h.1 ∧ (h.2.2 a).1 = t) ∧ 0 ≤ jw z ∧ jw z < (h.2.2 a).2.1 then some (jsi h a (jw z) v) else none
def jtr (h : jH) (a t : Nat) (z : Int) (v : Nat) : Option jH := if ((a < h.1 ∧ (h.2.2 a).1 = t) ∧ 0 ≤ jw z ∧ jw z < (h.2.2 a).2.1) ∧ v < h.1 ∧ (h.2.2 v).1 = mm_ac t + 8 then some (jsr h a (jw z) (some v)) else none
def jln (h : jH) (a : Nat) : Option Int := if (a < h.1 ∧ h.1 ≤ 1000000) ∧ (h.2.2 a).1 < 8 then some ((h.2.2 a).2.1 : Int) else none
def jmk (h : jH) (n : Nat) (c : jC) : jH := (h.1 + 1, h.2.1 + n, jce h.2.2 h.1 c)
def jnw (h : jH) (c : Nat) : Option (Nat × jH) := if h.1 < 1000000 then some (h.1, jmk h (mm_cn c) (c + 8, 0, fun _ => 0, fun _ => none)) else none
def jna (h : jH) (t : Nat) (n : Int) : Option (Nat × jH) := if h.1 < 1000000 ∧ 0 ≤ jw n ∧ jw n ≤ 1000000 then some (h.1, jmk h (jw n).toNat (t, (jw n).toNat, fun _ => 0, fun _ => none)) else none
def jth (h : jH) (E : Nat) : jH := jmk h 6 (13 + E + 8, 0, fun _ => 0, fun _ => none)
def jxv : Nat → List Int := fun j => match j with
  | 1 => [1, 1, 0, 0, 1, 100, 50, 0]
  | 2 => [60, 12, 2, 8, 31, 20000, 10000, 1]
  | 3 => [0, 64, 80]
  | 4 => [0, 1, 4, 8, 5, 2, 3, 6, 9, 12, 13, 10, 7, 11, 14, 15]
  | 5 => [77, 70, 0, 1, 1, 1, 1]
  | 6 => [77, 70, 2, 3, 3, 60, 12]
  | _ => []
def jst (j : Nat) (z : Int) : Option Int := if 0 ≤ jw z ∧ jw z < ((jxv j).length : Int) then some ((jxv j).getD (jw z).toNat 0) else none
def jcp (h : jH) (a0 : Nat) (sp : Int) (a1 : Nat) (dp n : Int) : Option jH :=
  if ((a0 < h.1 ∧ a1 < h.1) ∧ (h.2.2 a0).1 = (h.2.2 a1).1 ∧ ((h.2.2 a0).1 = 0 ∨ (h.2.2 a0).1 = 1)) ∧ (0 ≤ jw sp ∧ 0 ≤ jw dp ∧ 0 ≤ jw n) ∧ jw sp + jw n ≤ (h.2.2 a0).2.1 ∧ jw dp + jw n ≤ (h.2.2 a1).2.1
  then some (h.1, h.2.1, jce h.2.2 a1 ((h.2.2 a1).1, (h.2.2 a1).2.1, fun j => if jw dp ≤ j ∧ j < jw dp + jw n then (h.2.2 a0).2.2.1 (jw sp + (j - jw dp)) else (h.2.2 a1).2.2.1 j, (h.2.2 a1).2.2.2)) else none
abbrev jM : Type := Nat → Int → Int
def jmt : Nat → Nat × Nat := fun a => match a with
  | 76 => (20, 0)
  | 77 => (0, 60)
  | 78 => (0, 60)
  | 79 => (0, 51840)
  | 80 => (0, 4000)
  | 81 => (0, 10368)
  | 82 => (0, 8)
  | 83 => (0, 8)
  | 84 => (0, 8)
  | 85 => (0, 8)
  | 86 => (0, 8)
  | 87 => (0, 8)
  | 88 => (0, 8)
  | 89 => (1, 192800)
  | 90 => (0, 96)
  | 91 => (0, 96)
  | 92 => (0, 96)
  | 93 => (0, 96)
  | 94 => (0, 96)
  | 95 => (2, 96)
  | 96 => (0, 96)
  | 97 => (0, 96)
  | 98 => (2, 96)
  | 99 => (0, 82944)
  | 100 => (2, 82944)
  | 101 => (0, 6048)
  | 102 => (0, 12)
  | 103 => (0, 12)
  | 104 => (0, 12)
  | 105 => (0, 12)
  | 106 => (0, 12)
  | 107 => (0, 12)
  | 108 => (0, 12)
  | 109 => (0, 10368)
  | 110 => (2, 10368)
  | 111 => (0, 756)
  | 112 => (1, 24100)
  | 113 => (1, 60000)
  | 114 => (0, 96)
  | 115 => (0, 96)
  | 116 => (0, 16)
  | 117 => (0, 16)
  | 118 => (0, 576)
  | 119 => (0, 24)
  | 120 => (0, 24)
  | 121 => (0, 10368)
  | 122 => (0, 96)
  | 123 => (0, 7)
  | 124 => (1, 4000)
  | 125 => (0, 4)
  | 126 => (0, 577)
  | 127 => (0, 576)
  | 128 => (0, 576)
  | 129 => (0, 13)
  | 130 => (0, 12)
  | 131 => (0, 8)
  | 132 => (0, 8)
  | 133 => (0, 8)
  | 134 => (2, 12)
  | 135 => (0, 8)
  | 136 => (0, 3200)
  | 137 => (0, 3200)
  | 138 => (0, 400)
  | 139 => (0, 400)
  | 140 => (0, 420)
  | 141 => (0, 4)
  | 142 => (0, 4)
  | 143 => (0, 4)
  | 144 => (0, 4)
  | 145 => (0, 4)
  | 146 => (0, 4)
  | 147 => (2, 4)
  | 148 => (0, 4)
  | 149 => (0, 4)
  | 150 => (0, 4)
  | 151 => (0, 3456)
  | _ => (0, 0)
def jmr : Nat → Option Nat := fun k => match k with
  | 2 => some 77
  | 3 => some 78
  | 4 => some 79
  | 6 => some 80
  | 10 => some 81
  | 11 => some 82
  | 13 => some 83
  | 14 => some 84
  | 15 => some 85
  | 16 => some 86
  | 17 => some 87
  | 18 => some 88
  | 19 => some 89
  | 20 => some 90
  | 21 => some 91
  | 22 => some 92
  | 23 => some 93
  | 24 => some 94
  | 25 => some 95
  | 26 => some 96
  | 27 => some 97
  | 28 => some 98
  | 29 => some 99
  | 30 => some 100
  | 31 => some 101
  | 37 => some 102
  | 38 => some 103
  | 39 => some 104
  | 40 => some 105
  | 41 => some 106
  | 42 => some 107
  | 43 => some 108
  | 44 => some 109
  | 45 => some 110
  | 46 => some 111
  | 48 => some 112
  | 54 => some 113
  | 55 => some 114
  | 56 => some 115
  | 57 => some 116
  | 58 => some 117
  | 66 => some 118
  | 67 => some 119
  | 68 => some 120
  | 70 => some 121
  | 71 => some 122
  | 72 => some 123
  | 73 => some 124
  | 78 => some 125
  | 79 => some 126
  | 80 => some 127
  | 81 => some 128
  | 84 => some 129
  | 85 => some 130
  | 87 => some 131
  | 88 => some 132
  | 89 => some 133
  | 90 => some 134
  | 93 => some 135
  | 94 => some 136
  | 95 => some 137
  | 99 => some 138
  | 100 => some 139
  | 104 => some 140
  | 105 => some 141
  | 106 => some 142
  | 107 => some 143
  | 108 => some 144
  | 109 => some 145
  | 110 => some 146
  | 111 => some 147
  | 112 => some 148
  | 113 => some 149
  | 114 => some 150
  | 115 => some 151
  | _ => none
def jmo (a : Nat) : Int → Option Nat := if a = 76 then fun k => jmr k.toNat else fun _ => none
def jhm (b : jH) (m : jM) : jH := (b.1, b.2.1, fun a => if 76 ≤ a ∧ a < 152 then ((jmt a).1, (jmt a).2, m a, jmo a) else b.2.2 a)
def jms (m : jM) (a : Nat) (k v : Int) : jM := fun a' => if a' = a then jiu (m a) k v else m a'
def jma (m : jM) (a : Nat) (z : Int) : Option Int := if 0 ≤ jw z ∧ jw z < (jmt a).2 then some (m a (jw z)) else none
def jmb (m : jM) (a : Nat) (z : Int) : Option Int := if 0 ≤ jw z ∧ jw z < (jmt a).2 then some (jwb (m a (jw z))) else none
def jmz (m : jM) (a : Nat) (z : Int) : Option Int := if 0 ≤ jw z ∧ jw z < (jmt a).2 then some (m a (jw z) % 2) else none
def jmw (m : jM) (a : Nat) (z v : Int) : Option jM := if 0 ≤ jw z ∧ jw z < (jmt a).2 then some (jms m a (jw z) v) else none
def jlp {S X : Type} (f : S → Option (S ⊕ X)) : Nat → S → Option X
  | 0, _ => none
  | n + 1, s => match f s with
    | none => none
    | some (.inl s') => jlp f n s'
    | some (.inr x) => some x
def jfu : Nat := 100000000
def jnz (y : Int) : Option Unit := if jw y = 0 then none else some ()
def jnzl (y : Int) : Option Unit := if jwl y = 0 then none else some ()
def jbc (z : Int) : Option Unit := if z = 0 ∨ z = 1 then some () else none
def j6 (h : jH) : Option Unit := if h.1 < 1000000 then some () else none
def jck (h : jH) (a c : Nat) : Option Unit := if a < h.1 ∧ (h.2.2 a).1 = c + 8 then some () else none
def jse {A B C : Type} (x : A ⊕ B) (f : A → C) (g : B → C) : C := match x with
  | .inl y => f y
  | .inr z => g z

def jFR : Type := Nat → Nat → Int → Int → jH → Option (Int × jH)
def jtb {A B : Type} (q : Option ((A ⊕ Nat) × jH)) (f : A → jH → Option ((B ⊕ Nat) × jH)) : Option ((B ⊕ Nat) × jH) := q.bind fun x => match x with
  | (.inl v, h) => f v h
  | (.inr E, h) => some (.inr E, h)
def jtn {A C : Type} (q : Option ((A ⊕ Nat) × jH)) (f : A → jH → Option C) : Option C := q.bind fun x => match x with
  | (.inl v, h) => f v h
  | (.inr _, _) => none
def jtc {A C : Type} (q : Option ((A ⊕ Nat) × jH)) (f : A → jH → Option C) (g : Nat → jH → Option C) : Option C := q.bind fun x => match x with
  | (.inl v, h) => f v h
  | (.inr E, h) => g E h
/-- the script's cells -/
def jsc (L : Nat) (xs : Nat → Int32) (z : Int) : Option Int := if 0 ≤ jw z ∧ jw z < (L : Int) then some ((xs (jw z).toNat).toInt) else none
/-- the model's cells as they stand in a heap -/
def jmf (h : jH) : jM := fun a => (h.2.2 a).2.2.1
noncomputable def jlk (h : jH) (a : Nat) : Option Unit := @ite _ (a = 76 ∧ 152 ≤ h.1 ∧ h.1 ≤ 1000000 ∧ (h.2.2 76).1 = 20 ∧ jaH (jhm h (jmf h)) = jaH h) (Classical.propDecidable _) (some ()) none
