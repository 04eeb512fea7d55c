/-! THE CLASSES, numbered: names, fields in the order of the slots, types. Printed by wip/gen/gen02.py (fields as NAMES.whole has them). -/
def gT0 : u_T := fun k => match k with
  | 0 => ("MixStage$Bank", "sounds", "[LMixStage$Sound;", true)
  | 1 => ("MixStage$Bank", "soundCount", "I", false)
  | 2 => ("MixStage$Bank", "stamp", "I", false)
  | 3 => ("MixStage$Bank", "marks", "[I", true)
  | 4 => ("MixStage$Bank", "markStamps", "[I", true)
  | 5 => ("MixStage$Bank", "hissRow", "[I", true)
  | 6 => ("MixStage$Bank", "leaning", "[I", true)
  | _ => ("MixStage$Bank", "hissing", "[I", true)
def gY0 : Nat → FieldType := fun k => match k with
  | 0 => .array (.object "MixStage$Sound")
  | 1 => .int
  | 2 => .int
  | 3 => .array .int
  | 4 => .array .int
  | 5 => .array .int
  | 6 => .array .int
  | _ => .array .int
def gT1 : u_T := fun k => match k with
  | 0 => ("MixStage$Cue", "kind", "I", false)
  | 1 => ("MixStage$Cue", "place", "I", false)
  | 2 => ("MixStage$Cue", "number", "I", false)
  | 3 => ("MixStage$Cue", "stem", "I", false)
  | 4 => ("MixStage$Cue", "mark", "I", false)
  | 5 => ("MixStage$Cue", "frame", "I", false)
  | 6 => ("MixStage$Cue", "endMark", "I", false)
  | 7 => ("MixStage$Cue", "endFrame", "I", false)
  | 8 => ("MixStage$Cue", "from", "I", false)
  | 9 => ("MixStage$Cue", "span", "I", false)
  | 10 => ("MixStage$Cue", "gain", "I", false)
  | 11 => ("MixStage$Cue", "lastGain", "I", false)
  | 12 => ("MixStage$Cue", "upper", "I", false)
  | 13 => ("MixStage$Cue", "lower", "I", false)
  | 14 => ("MixStage$Cue", "under", "I", false)
  | 15 => ("MixStage$Cue", "by", "I", false)
  | 16 => ("MixStage$Cue", "hold", "I", false)
  | 17 => ("MixStage$Cue", "weights", "[I", true)
  | _ => ("MixStage$Cue", "tapCount", "I", false)
def gY1 : Nat → FieldType := fun k => match k with
  | 0 => .int
  | 1 => .int
  | 2 => .int
  | 3 => .int
  | 4 => .int
  | 5 => .int
  | 6 => .int
  | 7 => .int
  | 8 => .int
  | 9 => .int
  | 10 => .int
  | 11 => .int
  | 12 => .int
  | 13 => .int
  | 14 => .int
  | 15 => .int
  | 16 => .int
  | 17 => .array .int
  | _ => .int
def gT2 : u_T := fun k => match k with
  | 0 => ("MixStage$Mixer", "bank", "LMixStage$Bank;", true)
  | 1 => ("MixStage$Mixer", "picture", "LMixStage$Picture;", true)
  | 2 => ("MixStage$Mixer", "view", "LMixStage$View;", true)
  | 3 => ("MixStage$Mixer", "rows", "[I", true)
  | 4 => ("MixStage$Mixer", "heardStems", "[I", true)
  | 5 => ("MixStage$Mixer", "faders", "[I", true)
  | 6 => ("MixStage$Mixer", "stems", "[J", true)
  | 7 => ("MixStage$Mixer", "mix", "[I", true)
  | _ => ("MixStage$Mixer", "length", "I", false)
def gY2 : Nat → FieldType := fun k => match k with
  | 0 => .object "MixStage$Bank"
  | 1 => .object "MixStage$Picture"
  | 2 => .object "MixStage$View"
  | 3 => .array .int
  | 4 => .array .int
  | 5 => .array .int
  | 6 => .array .long
  | 7 => .array .int
  | _ => .int
def gT3 : u_T := fun k => match k with
  | 0 => ("MixStage$Picture", "sizes", "[I", true)
  | 1 => ("MixStage$Picture", "parts", "[I", true)
  | 2 => ("MixStage$Picture", "origins", "[I", true)
  | 3 => ("MixStage$Picture", "editions", "I", false)
  | _ => ("MixStage$Picture", "told", "I", false)
def gY3 : Nat → FieldType := fun k => match k with
  | 0 => .array .int
  | 1 => .array .int
  | 2 => .array .int
  | 3 => .int
  | _ => .int
def gT4 : u_T := fun k => match k with
  | 0 => ("MixStage$Reader", "tokens", "LMixStage$Tokens;", true)
  | 1 => ("MixStage$Reader", "next", "I", false)
  | 2 => ("MixStage$Reader", "kind", "I", false)
  | 3 => ("MixStage$Reader", "fault", "I", false)
  | 4 => ("MixStage$Reader", "faultToken", "I", false)
  | 5 => ("MixStage$Reader", "laterFault", "I", false)
  | 6 => ("MixStage$Reader", "laterToken", "I", false)
  | 7 => ("MixStage$Reader", "isRules", "Z", false)
  | 8 => ("MixStage$Reader", "draft", "LMixStage$Rules;", false)
  | 9 => ("MixStage$Reader", "cues", "[LMixStage$Cue;", true)
  | 10 => ("MixStage$Reader", "cueCounts", "[I", true)
  | 11 => ("MixStage$Reader", "totals", "[I", true)
  | 12 => ("MixStage$Reader", "names", "[J", true)
  | 13 => ("MixStage$Reader", "blocks", "I", false)
  | 14 => ("MixStage$Reader", "waiting", "[I", true)
  | _ => ("MixStage$Reader", "waitingCount", "I", false)
def gY4 : Nat → FieldType := fun k => match k with
  | 0 => .object "MixStage$Tokens"
  | 1 => .int
  | 2 => .int
  | 3 => .int
  | 4 => .int
  | 5 => .int
  | 6 => .int
  | 7 => .boolean
  | 8 => .object "MixStage$Rules"
  | 9 => .array (.object "MixStage$Cue")
  | 10 => .array .int
  | 11 => .array .int
  | 12 => .array .long
  | 13 => .int
  | 14 => .array .int
  | _ => .int
def gT5 : u_T := fun k => match k with
  | 0 => ("MixStage$Rules", "ruleCount", "I", false)
  | 1 => ("MixStage$Rules", "code", "[I", true)
  | 2 => ("MixStage$Rules", "codeLength", "I", false)
  | 3 => ("MixStage$Rules", "starts", "[I", true)
  | 4 => ("MixStage$Rules", "middles", "[I", true)
  | 5 => ("MixStage$Rules", "ends", "[I", true)
  | 6 => ("MixStage$Rules", "hundreds", "[I", true)
  | 7 => ("MixStage$Rules", "widths", "[I", true)
  | 8 => ("MixStage$Rules", "variables", "[I", true)
  | 9 => ("MixStage$Rules", "stack", "[I", true)
  | 10 => ("MixStage$Rules", "height", "I", false)
  | _ => ("MixStage$Rules", "broken", "Z", false)
def gY5 : Nat → FieldType := fun k => match k with
  | 0 => .int
  | 1 => .array .int
  | 2 => .int
  | 3 => .array .int
  | 4 => .array .int
  | 5 => .array .int
  | 6 => .array .int
  | 7 => .array .int
  | 8 => .array .int
  | 9 => .array .int
  | 10 => .int
  | _ => .boolean
def gT6 : u_T := fun k => match k with
  | 0 => ("MixStage$Sheet", "edition", "I", true)
  | 1 => ("MixStage$Sheet", "cues", "[LMixStage$Cue;", true)
  | 2 => ("MixStage$Sheet", "count", "I", false)
  | 3 => ("MixStage$Sheet", "laid", "I", false)
  | _ => ("MixStage$Sheet", "hung", "I", false)
def gY6 : Nat → FieldType := fun k => match k with
  | 0 => .int
  | 1 => .array (.object "MixStage$Cue")
  | 2 => .int
  | 3 => .int
  | _ => .int
def gT7 : u_T := fun k => match k with
  | 0 => ("MixStage$Sound", "kind", "I", true)
  | 1 => ("MixStage$Sound", "first", "I", true)
  | 2 => ("MixStage$Sound", "end", "I", true)
  | 3 => ("MixStage$Sound", "source", "I", true)
  | 4 => ("MixStage$Sound", "samples", "[I", true)
  | 5 => ("MixStage$Sound", "mouths", "[I", true)
  | 6 => ("MixStage$Sound", "size", "I", false)
  | 7 => ("MixStage$Sound", "mouthCount", "I", false)
  | 8 => ("MixStage$Sound", "stamp", "I", false)
  | 9 => ("MixStage$Sound", "generation", "I", false)
  | 10 => ("MixStage$Sound", "sheet", "LMixStage$Sheet;", false)
  | 11 => ("MixStage$Sound", "sheetNumber", "I", false)
  | _ => ("MixStage$Sound", "edition", "I", false)
def gY7 : Nat → FieldType := fun k => match k with
  | 0 => .int
  | 1 => .int
  | 2 => .int
  | 3 => .int
  | 4 => .array .int
  | 5 => .array .int
  | 6 => .int
  | 7 => .int
  | 8 => .int
  | 9 => .int
  | 10 => .object "MixStage$Sheet"
  | 11 => .int
  | _ => .int
def gT8 : u_T := fun k => match k with
  | 0 => ("MixStage$Tokens", "words", "[J", true)
  | 1 => ("MixStage$Tokens", "kinds", "[I", true)
  | 2 => ("MixStage$Tokens", "places", "[I", true)
  | 3 => ("MixStage$Tokens", "values", "[J", true)
  | _ => ("MixStage$Tokens", "tokenCount", "I", false)
def gY8 : Nat → FieldType := fun k => match k with
  | 0 => .array .long
  | 1 => .array .int
  | 2 => .array .int
  | 3 => .array .long
  | _ => .int
def gT9 : u_T := fun k => match k with
  | 0 => ("MixStage$Tracer", "bank", "LMixStage$Bank;", true)
  | 1 => ("MixStage$Tracer", "picture", "LMixStage$Picture;", true)
  | 2 => ("MixStage$Tracer", "mixer", "LMixStage$Mixer;", true)
  | 3 => ("MixStage$Tracer", "sought", "[I", true)
  | 4 => ("MixStage$Tracer", "hits", "[I", true)
  | 5 => ("MixStage$Tracer", "shift", "I", false)
  | 6 => ("MixStage$Tracer", "stretch", "I", false)
  | _ => ("MixStage$Tracer", "unmet", "I", false)
def gY9 : Nat → FieldType := fun k => match k with
  | 0 => .object "MixStage$Bank"
  | 1 => .object "MixStage$Picture"
  | 2 => .object "MixStage$Mixer"
  | 3 => .array .int
  | 4 => .array .int
  | 5 => .int
  | 6 => .int
  | _ => .int
def gT10 : u_T := fun k => match k with
  | 0 => ("MixStage$View", "root", "LMixStage$Sound;", false)
  | 1 => ("MixStage$View", "shift", "I", false)
  | _ => ("MixStage$View", "size", "I", false)
def gY10 : Nat → FieldType := fun k => match k with
  | 0 => .object "MixStage$Sound"
  | 1 => .int
  | _ => .int
def gT11 : u_T := fun k => match k with
  | 0 => ("MixStage", "tape", "[I", true)
  | 1 => ("MixStage", "fed", "I", false)
  | 2 => ("MixStage", "faultPlace", "I", false)
  | 3 => ("MixStage", "sheets", "[LMixStage$Sheet;", true)
  | 4 => ("MixStage", "sheetCount", "I", false)
  | 5 => ("MixStage", "rules", "LMixStage$Rules;", false)
  | 6 => ("MixStage", "picture", "LMixStage$Picture;", true)
  | 7 => ("MixStage", "bank", "LMixStage$Bank;", true)
  | 8 => ("MixStage", "reader", "LMixStage$Reader;", true)
  | 9 => ("MixStage", "mixer", "LMixStage$Mixer;", true)
  | 10 => ("MixStage", "tracer", "LMixStage$Tracer;", true)
  | _ => ("MixStage", "view", "LMixStage$View;", true)
def gY11 : Nat → FieldType := fun k => match k with
  | 0 => .array .int
  | 1 => .int
  | 2 => .int
  | 3 => .array (.object "MixStage$Sheet")
  | 4 => .int
  | 5 => .object "MixStage$Rules"
  | 6 => .object "MixStage$Picture"
  | 7 => .object "MixStage$Bank"
  | 8 => .object "MixStage$Reader"
  | 9 => .object "MixStage$Mixer"
  | 10 => .object "MixStage$Tracer"
  | _ => .object "MixStage$View"
def gT12 : u_T := fun k => match k with
  | 0 => ("MixStageModel", "thrown", "I", false)
  | 1 => ("MixStageModel", "tape", "[B", true)
  | 2 => ("MixStageModel", "taped", "I", false)
  | 3 => ("MixStageModel", "text", "[B", true)
  | 4 => ("MixStageModel", "size", "I", false)
  | 5 => ("MixStageModel", "tKind", "[I", true)
  | 6 => ("MixStageModel", "tPlace", "[I", true)
  | 7 => ("MixStageModel", "tValue", "[I", true)
  | 8 => ("MixStageModel", "tName", "[J", true)
  | 9 => ("MixStageModel", "keys", "[J", true)
  | 10 => ("MixStageModel", "tokens", "I", false)
  | 11 => ("MixStageModel", "t", "I", false)
  | 12 => ("MixStageModel", "open", "I", false)
  | 13 => ("MixStageModel", "fault", "I", false)
  | 14 => ("MixStageModel", "faultPlace", "I", false)
  | 15 => ("MixStageModel", "worst", "I", false)
  | 16 => ("MixStageModel", "worstPlace", "I", false)
  | 17 => ("MixStageModel", "place", "I", false)
  | 18 => ("MixStageModel", "sheets", "I", false)
  | 19 => ("MixStageModel", "sheetEdition", "[I", true)
  | 20 => ("MixStageModel", "blocks", "[I", true)
  | 21 => ("MixStageModel", "blockName", "[J", true)
  | 22 => ("MixStageModel", "partMany", "[I", true)
  | 23 => ("MixStageModel", "partSize", "[I", true)
  | 24 => ("MixStageModel", "cSort", "[I", true)
  | 25 => ("MixStageModel", "cByte", "[I", true)
  | 26 => ("MixStageModel", "cWhat", "[I", true)
  | 27 => ("MixStageModel", "cMark", "[I", true)
  | 28 => ("MixStageModel", "cAt", "[I", true)
  | 29 => ("MixStageModel", "cMarkTo", "[I", true)
  | 30 => ("MixStageModel", "cTo", "[I", true)
  | 31 => ("MixStageModel", "cNumber", "[I", true)
  | 32 => ("MixStageModel", "page", "I", false)
  | 33 => ("MixStageModel", "part", "I", false)
  | 34 => ("MixStageModel", "live", "I", false)
  | 35 => ("MixStageModel", "side", "I", false)
  | 36 => ("MixStageModel", "rules", "[I", true)
  | 37 => ("MixStageModel", "ruleSort", "[I", true)
  | 38 => ("MixStageModel", "ruleFrom", "[I", true)
  | 39 => ("MixStageModel", "ruleTo", "[I", true)
  | 40 => ("MixStageModel", "litFirst", "[I", true)
  | 41 => ("MixStageModel", "litLast", "[I", true)
  | 42 => ("MixStageModel", "loudMost", "[I", true)
  | 43 => ("MixStageModel", "loudIn", "[I", true)
  | 44 => ("MixStageModel", "lits", "I", false)
  | 45 => ("MixStageModel", "litSort", "[I", true)
  | 46 => ("MixStageModel", "litNot", "[Z", true)
  | 47 => ("MixStageModel", "litOr", "[Z", true)
  | 48 => ("MixStageModel", "litLeft", "[I", true)
  | 49 => ("MixStageModel", "litRight", "[I", true)
  | 50 => ("MixStageModel", "litEnd", "[I", true)
  | 51 => ("MixStageModel", "codes", "I", false)
  | 52 => ("MixStageModel", "code", "[I", true)
  | 53 => ("MixStageModel", "codeInt", "[I", true)
  | 54 => ("MixStageModel", "waits", "[I", true)
  | 55 => ("MixStageModel", "waiting", "I", false)
  | 56 => ("MixStageModel", "variables", "[I", true)
  | 57 => ("MixStageModel", "pile", "[I", true)
  | 58 => ("MixStageModel", "isBroken", "Z", false)
  | 59 => ("MixStageModel", "termNow", "I", false)
  | 60 => ("MixStageModel", "editions", "I", false)
  | 61 => ("MixStageModel", "eFrames", "[I", true)
  | 62 => ("MixStageModel", "eParts", "[I", true)
  | 63 => ("MixStageModel", "comesFrom", "[I", true)
  | 64 => ("MixStageModel", "sounds", "I", false)
  | 65 => ("MixStageModel", "stamps", "I", false)
  | 66 => ("MixStageModel", "kind", "[I", true)
  | 67 => ("MixStageModel", "many", "[I", true)
  | 68 => ("MixStageModel", "first", "[I", true)
  | 69 => ("MixStageModel", "last", "[I", true)
  | 70 => ("MixStageModel", "of", "[I", true)
  | 71 => ("MixStageModel", "stamp", "[I", true)
  | 72 => ("MixStageModel", "generation", "[I", true)
  | 73 => ("MixStageModel", "madeSheet", "[I", true)
  | 74 => ("MixStageModel", "madeEdition", "[I", true)
  | 75 => ("MixStageModel", "samples", "[I", true)
  | 76 => ("MixStageModel", "mouths", "[I", true)
  | 77 => ("MixStageModel", "mouthAt", "[I", true)
  | 78 => ("MixStageModel", "markAt", "[I", true)
  | 79 => ("MixStageModel", "markStamp", "[I", true)
  | 80 => ("MixStageModel", "hisses", "[I", true)
  | 81 => ("MixStageModel", "chain", "[I", true)
  | 82 => ("MixStageModel", "laid", "I", false)
  | 83 => ("MixStageModel", "xCue", "[I", true)
  | 84 => ("MixStageModel", "xShift", "[I", true)
  | 85 => ("MixStageModel", "inPart", "[I", true)
  | 86 => ("MixStageModel", "inAt", "[I", true)
  | 87 => ("MixStageModel", "inShift", "[I", true)
  | 88 => ("MixStageModel", "layAt", "I", false)
  | 89 => ("MixStageModel", "stems", "[J", true)
  | 90 => ("MixStageModel", "heardIn", "[Z", true)
  | 91 => ("MixStageModel", "row", "[J", true)
  | 92 => ("MixStageModel", "mix", "[I", true)
  | 93 => ("MixStageModel", "mixMany", "I", false)
  | 94 => ("MixStageModel", "halved", "I", false)
  | 95 => ("MixStageModel", "inMark", "[I", true)
  | 96 => ("MixStageModel", "isStale", "[Z", true)
  | 97 => ("MixStageModel", "hissOf", "[I", true)
  | 98 => ("MixStageModel", "isHeard", "[Z", true)
  | 99 => ("MixStageModel", "rowOf", "[I", true)
  | 100 => ("MixStageModel", "fitMissed", "I", false)
  | 101 => ("MixStageModel", "fitShift", "I", false)
  | 102 => ("MixStageModel", "fitStretch", "I", false)
  | _ => ("MixStageModel", "lawLays", "I", false)
def gY12 : Nat → FieldType := fun k => match k with
  | 0 => .int
  | 1 => .array .byte
  | 2 => .int
  | 3 => .array .byte
  | 4 => .int
  | 5 => .array .int
  | 6 => .array .int
  | 7 => .array .int
  | 8 => .array .long
  | 9 => .array .long
  | 10 => .int
  | 11 => .int
  | 12 => .int
  | 13 => .int
  | 14 => .int
  | 15 => .int
  | 16 => .int
  | 17 => .int
  | 18 => .int
  | 19 => .array .int
  | 20 => .array .int
  | 21 => .array .long
  | 22 => .array .int
  | 23 => .array .int
  | 24 => .array .int
  | 25 => .array .int
  | 26 => .array .int
  | 27 => .array .int
  | 28 => .array .int
  | 29 => .array .int
  | 30 => .array .int
  | 31 => .array .int
  | 32 => .int
  | 33 => .int
  | 34 => .int
  | 35 => .int
  | 36 => .array .int
  | 37 => .array .int
  | 38 => .array .int
  | 39 => .array .int
  | 40 => .array .int
  | 41 => .array .int
  | 42 => .array .int
  | 43 => .array .int
  | 44 => .int
  | 45 => .array .int
  | 46 => .array .boolean
  | 47 => .array .boolean
  | 48 => .array .int
  | 49 => .array .int
  | 50 => .array .int
  | 51 => .int
  | 52 => .array .int
  | 53 => .array .int
  | 54 => .array .int
  | 55 => .int
  | 56 => .array .int
  | 57 => .array .int
  | 58 => .boolean
  | 59 => .int
  | 60 => .int
  | 61 => .array .int
  | 62 => .array .int
  | 63 => .array .int
  | 64 => .int
  | 65 => .int
  | 66 => .array .int
  | 67 => .array .int
  | 68 => .array .int
  | 69 => .array .int
  | 70 => .array .int
  | 71 => .array .int
  | 72 => .array .int
  | 73 => .array .int
  | 74 => .array .int
  | 75 => .array .int
  | 76 => .array .int
  | 77 => .array .int
  | 78 => .array .int
  | 79 => .array .int
  | 80 => .array .int
  | 81 => .array .int
  | 82 => .int
  | 83 => .array .int
  | 84 => .array .int
  | 85 => .array .int
  | 86 => .array .int
  | 87 => .array .int
  | 88 => .int
  | 89 => .array .long
  | 90 => .array .boolean
  | 91 => .array .long
  | 92 => .array .int
  | 93 => .int
  | 94 => .int
  | 95 => .array .int
  | 96 => .array .boolean
  | 97 => .array .int
  | 98 => .array .boolean
  | 99 => .array .int
  | 100 => .int
  | 101 => .int
  | 102 => .int
  | _ => .int
def gT13 : u_T := fun k => match k with
  | 0 => ("java/lang/String", "value", "[B", true)
  | _ => ("java/lang/String", "coder", "B", true)
def gY13 : Nat → FieldType := fun k => match k with
  | 0 => .array .byte
  | _ => .byte
def gCn : Nat → String := fun k => match k with
  | 0 => "MixStage$Bank"
  | 1 => "MixStage$Cue"
  | 2 => "MixStage$Mixer"
  | 3 => "MixStage$Picture"
  | 4 => "MixStage$Reader"
  | 5 => "MixStage$Rules"
  | 6 => "MixStage$Sheet"
  | 7 => "MixStage$Sound"
  | 8 => "MixStage$Tokens"
  | 9 => "MixStage$Tracer"
  | 10 => "MixStage$View"
  | 11 => "MixStage"
  | 12 => "MixStageModel"
  | _ => "java/lang/String"
def gT : Nat → u_T := fun k => match k with
  | 0 => gT0
  | 1 => gT1
  | 2 => gT2
  | 3 => gT3
  | 4 => gT4
  | 5 => gT5
  | 6 => gT6
  | 7 => gT7
  | 8 => gT8
  | 9 => gT9
  | 10 => gT10
  | 11 => gT11
  | 12 => gT12
  | _ => gT13
def gYt : Nat → (Nat → FieldType) := fun k => match k with
  | 0 => gY0
  | 1 => gY1
  | 2 => gY2
  | 3 => gY3
  | 4 => gY4
  | 5 => gY5
  | 6 => gY6
  | 7 => gY7
  | 8 => gY8
  | 9 => gY9
  | 10 => gY10
  | 11 => gY11
  | 12 => gY12
  | _ => gY13
def gN : Nat → Nat := fun k => match k with
  | 0 => 8
  | 1 => 19
  | 2 => 9
  | 3 => 5
  | 4 => 16
  | 5 => 12
  | 6 => 5
  | 7 => 13
  | 8 => 5
  | 9 => 8
  | 10 => 3
  | 11 => 12
  | 12 => 104
  | _ => 2
/-! THE PURE PICTURE: cells at places 0, 1, .. ; the first G.1 places are outer cells (never written), the others lie one behind the other from the address G.2.1 on. -/
abbrev gC : Type := (Nat × (Nat → Value)) ⊕ (Nat × Nat × (Nat → Value))
abbrev gH : Type := List gC
abbrev gL : Type := List (Nat × Value)
abbrev gG : Type := Nat × Nat × (Nat → Nat) × (Nat → ClassId) × (Nat → Nat → Nat) × Option Nat
def gad (G : gG) (i : Nat) : Nat := if i < G.1 then G.2.2.1 i else G.2.1 + (i - G.1)
def grv (G : gG) : Value → Value
  | .ref i => .ref (gad G i)
  | .retAddr _ => va_rf G.2.2.2.2.2
  | v => v
theorem grv_cat (G : gG) (v : Value) : (grv G v).category = v.category := by
  cases v <;> first | rfl | (show (va_rf G.2.2.2.2.2).category = 1; cases G.2.2.2.2.2 <;> rfl)
theorem grv_int (G : gG) (x : Int32) : grv G (.int x) = .int x := rfl
theorem grv_long (G : gG) (x : Int64) : grv G (.long x) = .long x := rfl
theorem grv_null (G : gG) : grv G .null = .null := rfl
theorem grv_ref (G : gG) (x : Nat) : grv G (.ref x) = .ref (gad G x) := rfl
def gTy : Nat → FieldType
  | 0 => .int
  | 1 => .long
  | 2 => .byte
  | 3 => .boolean
  | 4 => .object "MixStage$Sheet"
  | 5 => .object "MixStage$Sound"
  | _ => .object "MixStage$Cue"
def gsz1 : gC → Nat
  | .inl o => gN o.1
  | .inr a => a.2.1
def gsz (lh : gH) : Nat := (lh.map gsz1).sum
def gAt (G : gG) (U : State) (i : Nat) (c : gC) (H : Heap) : Prop := match c with
  | .inl o => o.1 < 14 ∧ ∃ cell : Cell, H[gad G i]? = some cell ∧ cell.cls = G.2.2.2.1 o.1 ∧ cell.vm ≠ .unknown ∧ cell.vm.isStatics = false ∧ (G.1 ≤ i → cell.vm = .none ∧ o.1 < 13) ∧ ∀ j, j < gN o.1 → cell.slots[G.2.2.2.2.1 o.1 j]? = some (grv G (o.2 j))
  | .inr a => a.1 < 7 ∧ ∃ cell : Cell, H[gad G i]? = some cell ∧ U.isArrayOf cell (gTy a.1) ∧ cell.vm ≠ .unknown ∧ a.2.1 ≤ cell.slots.size ∧ cell.slots.size.toInt32 = Int32.ofNat a.2.1 ∧ (∀ j, j < a.2.1 → cell.slots[j]? = some (grv G (a.2.2 j))) ∧ (G.1 ≤ i → cell.vm = .none ∧ va_RA U cell.cls (gTy a.1))
def gR (G : gG) (U : State) (lh : gH) (H : Heap) : Prop := H.size + G.1 = G.2.1 + lh.length ∧ G.1 ≤ lh.length ∧ (∀ i, i < G.1 → G.2.2.1 i < G.2.1) ∧ ∀ (i : Nat) (c : gC), lh[i]? = some c → gAt G U i c H
theorem gAt.moved {G : gG} {u U : State} (hvm : u.vm.Alike U.vm) {i : Nat} {c : gC} {H : Heap} (h : gAt G u i c H) : gAt G U i c H := by
  cases c with
  | inl o => exact h
  | inr a =>
    obtain ⟨h0, cell, h1, h2, h3, h4, h5, h6, h7⟩ := h
    exact ⟨h0, cell, h1, State.isArrayOf_alike hvm h2, h3, h4, h5, h6, fun q => ⟨(h7 q).1, (h7 q).2.moved hvm⟩⟩
theorem gR.moved {G : gG} {u U : State} (hvm : u.vm.Alike U.vm) {lh : gH} {H : Heap} (h : gR G u lh H) : gR G U lh H := ⟨h.1, h.2.1, h.2.2.1, fun i c hc => (h.2.2.2 i c hc).moved hvm⟩
theorem gAt.kept {G : gG} {U : State} {i : Nat} {c : gC} {H H1 : Heap} (h : gAt G U i c H) (hq : H1[gad G i]? = H[gad G i]?) : gAt G U i c H1 := by
  cases c with
  | inl o =>
    obtain ⟨h0, cell, h1, h2⟩ := h
    exact ⟨h0, cell, by rw [hq]; exact h1, h2⟩
  | inr a =>
    obtain ⟨h0, cell, h1, h2⟩ := h
    exact ⟨h0, cell, by rw [hq]; exact h1, h2⟩
theorem gad_own {G : gG} {i : Nat} (h : G.1 ≤ i) : gad G i = G.2.1 + (i - G.1) := by unfold gad; rw [if_neg (by omega)]
theorem gR.lt {G : gG} {U : State} {lh : gH} {H : Heap} (h : gR G U lh H) {i : Nat} (hi : i < lh.length) : gad G i < H.size := by
  obtain ⟨h1, h2, h3, -⟩ := h
  by_cases q : i < G.1
  · unfold gad
    rw [if_pos q]
    have := h3 i q
    omega
  · rw [gad_own (by omega)]
    omega
theorem gR.ne {G : gG} {U : State} {lh : gH} {H : Heap} (h : gR G U lh H) {i j : Nat} (hi : G.1 ≤ i) (hj : j ≠ i) : gad G j ≠ gad G i := by
  obtain ⟨h1, h2, h3, -⟩ := h
  rw [gad_own hi]
  by_cases q : j < G.1
  · unfold gad
    rw [if_pos q]
    have := h3 j q
    omega
  · rw [gad_own (by omega)]
    omega
/-- one cell written -/
theorem gR.set {G : gG} {U : State} {lh : gH} {H H1 : Heap} (h : gR G U lh H) {i : Nat} {c : gC} (hi : G.1 ≤ i) (hc : gAt G U i c H1) (hz : H1.size = H.size) (hk : ∀ q, q ≠ gad G i → H1[q]? = H[q]?) : gR G U (lh.set i c) H1 := by
  refine ⟨by rw [hz, List.length_set]; exact h.1, by rw [List.length_set]; exact h.2.1, h.2.2.1, fun j d hd => ?_⟩
  by_cases hj : j = i
  · subst hj
    have hl : j < lh.length := by
      have := (List.getElem?_eq_some_iff.mp hd).1
      rwa [List.length_set] at this
    rw [List.getElem?_set_self hl] at hd
    cases hd
    exact hc
  · rw [List.getElem?_set_ne (Ne.symm hj)] at hd
    exact (h.2.2.2 j d hd).kept (hk _ (h.ne hi hj))
/-- a cell made -/
theorem gR.push {G : gG} {U : State} {lh : gH} {H H1 : Heap} (h : gR G U lh H) {c : gC} (hc : gAt G U lh.length c H1) (hz : H1.size = H.size + 1) (hk : ∀ q, q < H.size → H1[q]? = H[q]?) : gR G U (lh ++ [c]) H1 := by
  have h1 := h.1
  have h2 := h.2.1
  refine ⟨by rw [hz, List.length_append]; show H.size + 1 + G.1 = G.2.1 + (lh.length + 1); omega, by rw [List.length_append]; omega, h.2.2.1, fun j d hd => ?_⟩
  by_cases hj : j < lh.length
  · rw [List.getElem?_append_left hj] at hd
    exact (h.2.2.2 j d hd).kept (hk _ (h.lt hj))
  · rw [List.getElem?_append_right (by omega)] at hd
    have hz : j - lh.length < 1 := (List.getElem?_eq_some_iff.mp hd).1
    rw [show j - lh.length = 0 by omega] at hd
    cases hd
    rw [show j = lh.length by omega]
    exact hc
theorem gR.top {G : gG} {U : State} {lh : gH} {H : Heap} (h : gR G U lh H) : gad G lh.length = H.size := by
  rw [gad_own h.2.1]
  have := h.1
  have := h.2.1
  omega
/-- the words that a method may use, whatever its arguments -/
def gGood : Cond → Bool
  | .fieldLinkNest .. => true
  | .methodLinkNest .. => true
  | .arrayOver (.object _) => true
  | w => goodWord w
def gTb (U : State) : Prop := ∀ w ∈ lw_tbl, gGood w = true → ∀ a : Array Value, w.before a U = true
theorem gTb.word {s U : State} (hW : s.WarmedH U.vm) {w : Cond} (hw : gGood w = true) (h : ∀ a : Array Value, w.before a s = true) (a : Array Value) : w.before a U = true := by
  unfold gGood at hw
  split at hw
  · exact va_Nw.use rfl (va_Nw.warmF hW (h #[]))
  · exact va_Nw.use rfl (va_Nw.warmM hW (h #[]))
  · exact va_AO.use (A := a) (va_AO.moved hW.alike (h #[]))
  · exact word_at hW (good_of_word hw) (h #[])
theorem gTb.warm {s U : State} (hW : s.WarmedH U.vm) (h : gTb s) : gTb U := fun w hw hg a => gTb.word hW hg (h w hw hg) a
theorem gTb.of {s : State} {args : Array Value} (h : ∀ w ∈ lw_tbl, w.before args s = true) : gTb s := by
  intro w hw hg a
  have h0 := h w hw
  unfold gGood at hg
  split at hg
  · exact va_tabs rfl rfl h0
  · exact va_tabs rfl rfl h0
  · exact h0
  · exact word_at (State.WarmedH.refl s) (good_of_word hg) h0
/-- what is known of the classes -/
def gKn (G : gG) (U : State) : Prop := (∀ k, k < 14 → U.vm.findClass (gCn k) = some (G.2.2.2.1 k) ∧ ∃ kC : Class, U.vm.classes[G.2.2.2.1 k]? = some kC ∧ kC.kind = .ordinary) ∧ ∀ k, k < 14 → ∀ f, f < gN k → ∃ (cf : ClassId) (kf : Class) (fi : Nat) (fd : Field), U.fieldFound? (gT k f).1 (gT k f).2.1 (gT k f).2.2.1 = some (cf, kf, fi, fd) ∧ fd.isStatic = false ∧ fd.slot = G.2.2.2.2.1 k f
theorem gKn.moved {G : gG} {u U : State} (hvm : u.vm.Alike U.vm) (h : gKn G u) : gKn G U := by
  refine ⟨fun k hk => classAt_moved hvm (h.1 k hk), fun k hk f hf => ?_⟩
  obtain ⟨cf, kf, fi, fd, h1, h2, h3⟩ := h.2 k hk f hf
  obtain ⟨kf', hi', -⟩ := State.fieldFound?_setVm (s := u) hvm h1
  exact ⟨cf, kf', fi, fd, by simpa only [State.fieldFound?, State.vm_setVm] using hi', h2, h3⟩
/-- the constants: three texts (places 1, 3, 5), and the two statics that are read -/
def gSt : Nat → Nat × String
  | 0 => (27, "block end sheet rules lay fade dip taps clip use at from for gain speed ")
  | 1 => (33, "stem to under by hold of mark right if loud in or and not ")
  | _ => (35, "seconds owner land frames heard ")
def gCs (G : gG) (U : State) (H : Heap) : Prop := (∀ k, k < 3 → vk_R "MixStage$Tokens" (gSt k).1 (gSt k).2 (gad G (2 * k + 1)) U) ∧ va_Z "java/lang/String" "COMPACT_STRINGS" "Z" (.int 1) (fun q => G.2.1 ≤ q) U H ∧ va_Z "jdk/internal/util/Preconditions" "SIOOBE_FORMATTER" "Ljava/util/function/BiFunction;" (va_rf G.2.2.2.2.2) (fun q => G.2.1 ≤ q) U H
theorem gCs.warm {G : gG} {s U : State} {H : Heap} (hW : s.WarmedH U.vm) (h : gCs G s H) : gCs G U H := ⟨fun k hk => vk_R.warm hW (h.1 k hk), va_Z.moved hW.alike h.2.1, va_Z.moved hW.alike h.2.2⟩
theorem gCs.kept {G : gG} {U : State} {H H1 : Heap} (h : gCs G U H) (hq : ∀ a : Nat, a < H.size → ¬ G.2.1 ≤ a → H1[a]? = H[a]?) : gCs G U H1 := ⟨h.1, va_Z.kept h.2.1 hq, va_Z.kept h.2.2 hq⟩
def gKs (G : gG) (U : State) (H : Heap) : Prop := gTb U ∧ gKn G U ∧ gCs G U H
theorem gKs.warm {G : gG} {s U : State} {H : Heap} (hW : s.WarmedH U.vm) (h : gKs G s H) : gKs G U H := ⟨h.1.warm hW, h.2.1.moved hW.alike, h.2.2.warm hW⟩
theorem gKs.kept {G : gG} {U : State} {H H1 : Heap} (h : gKs G U H) (hq : ∀ a : Nat, a < H.size → ¬ G.2.1 ≤ a → H1[a]? = H[a]?) : gKs G U H1 := ⟨h.1, h.2.1, h.2.2.kept hq⟩
