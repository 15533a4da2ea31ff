def RL : String := "ImageCheckerLaw"
abbrev cL_set : ByteArray := method_3_code
def yL_set : MethodName := ⟨RL, "set", "(LImageChecker;III)I"⟩
abbrev cL_run : ByteArray := method_4_code
def yL_run : MethodName := ⟨RL, "run", "(LImageChecker;IIIII)I"⟩
abbrev cL_entry : ByteArray := method_5_code
def yL_entry : MethodName := ⟨RL, "entry", "(LImageChecker;IIIII)I"⟩
abbrev cL_hold : ByteArray := method_6_code
def yL_hold : MethodName := ⟨RL, "hold", "(LImageChecker;IZ)I"⟩
abbrev cL_bit : ByteArray := method_7_code
def yL_bit : MethodName := ⟨RL, "bit", "(LImageChecker;IIZ)I"⟩
abbrev cL_tell : ByteArray := method_8_code
def yL_tell : MethodName := ⟨RL, "tell", "(LImageChecker;II)I"⟩
abbrev cL_about : ByteArray := method_9_code
def yL_about : MethodName := ⟨RL, "about", "(LImageChecker;II[J)I"⟩
abbrev cL_runOf : ByteArray := method_10_code
def yL_runOf : MethodName := ⟨RL, "runOf", "(LImageChecker;III[J)I"⟩
abbrev cL_entryOf : ByteArray := method_11_code
def yL_entryOf : MethodName := ⟨RL, "entryOf", "(LImageChecker;III[J)I"⟩
abbrev cL_isTaken : ByteArray := method_12_code
def yL_isTaken : MethodName := ⟨RL, "isTaken", "(LImageChecker;II[J)I"⟩
abbrev cL_told : ByteArray := method_13_code
def yL_told : MethodName := ⟨RL, "told", "(LImageChecker;I[J)I"⟩
abbrev cL_law : ByteArray := code
def yL_law : MethodName := ⟨RL, "law", "([I)Z"⟩
def wsL_set_r1 : List Cond := [Cond.classLink RL 13 "java/lang/IllegalArgumentException", Cond.methodLink RL 7 yX7_set, Cond.instanceMethod yX7_set, Cond.selects RX7 yX7_set yX7_set, Cond.initialized RX7, Cond.code yX7_set cX7_set 4 none, Cond.fieldLink RX7 10 "ImageChecker" "tables" "LImageChecker$Tables;", Cond.methodLink RX7 55 yX7_needFile, Cond.static yX7_needFile, Cond.code yX7_needFile cX7_needFile 1 none, Cond.classLink RX7 141 "java/lang/IllegalArgumentException", Cond.initialized "java/lang/IllegalArgumentException", Cond.methodLink RX7 130 yX7_isFile, Cond.static yX7_isFile, Cond.code yX7_isFile cX7_isFile 1 (some .boolean), Cond.methodLink RX7 59 yX7_needPlace, Cond.static yX7_needPlace, Cond.code yX7_needPlace cX7_needPlace 2 none, Cond.methodLink RX7 63 yX5_putNumber, Cond.instanceMethod yX5_putNumber, Cond.selects RX5 yX5_putNumber yX5_putNumber, Cond.initialized RX5, Cond.code yX5_putNumber cX5_putNumber 4 none, Cond.fieldLink RX5 11 "ImageChecker$Tables" "cells" "[I"]
def wsL_set_r2 : List Cond := [Cond.methodLink RX5 38 yX5_fileCell, Cond.static yX5_fileCell, Cond.code yX5_fileCell cX5_fileCell 1 (some .int)]
def wsL_set : List Cond := .codeWith yL_set cL_set 5 (some .int) [(0, 7, 10, 13)] :: ((wsL_set_r1 ++ wsL_set_r2) ++ wsX70 ++ wsX50 ++ (vx_atS RX7 145 "java/lang/IllegalArgumentException" ["java/lang/RuntimeException", "java/lang/Exception"]).filter goodWord)
def wsL_run_r1 : List Cond := [Cond.classLink RL 13 "java/lang/IllegalArgumentException", Cond.methodLink RL 15 yX7_run, Cond.instanceMethod yX7_run, Cond.selects RX7 yX7_run yX7_run, Cond.initialized RX7, Cond.code yX7_run cX7_run 6 none, Cond.fieldLink RX7 10 "ImageChecker" "tables" "LImageChecker$Tables;", Cond.methodLink RX7 55 yX7_needFile, Cond.static yX7_needFile, Cond.code yX7_needFile cX7_needFile 1 none, Cond.classLink RX7 141 "java/lang/IllegalArgumentException", Cond.initialized "java/lang/IllegalArgumentException", Cond.methodLink RX7 130 yX7_isFile, Cond.static yX7_isFile, Cond.code yX7_isFile cX7_isFile 1 (some .boolean), Cond.methodLink RX7 59 yX7_needPlace, Cond.static yX7_needPlace, Cond.code yX7_needPlace cX7_needPlace 2 none, Cond.methodLink RX7 67 yX5_putRun, Cond.instanceMethod yX5_putRun, Cond.selects RX5 yX5_putRun yX5_putRun, Cond.initialized RX5, Cond.code yX5_putRun cX5_putRun 7 none, Cond.fieldLink RX5 11 "ImageChecker$Tables" "cells" "[I"]
def wsL_run_r2 : List Cond := [Cond.methodLink RX5 42 yX5_runCell, Cond.static yX5_runCell, Cond.code yX5_runCell cX5_runCell 2 (some .int)]
def wsL_run : List Cond := .codeWith yL_run cL_run 7 (some .int) [(0, 11, 14, 13)] :: ((wsL_run_r1 ++ wsL_run_r2) ++ wsX70 ++ wsX50 ++ (vx_atS RX7 145 "java/lang/IllegalArgumentException" ["java/lang/RuntimeException", "java/lang/Exception"]).filter goodWord)
def wsL_entry_r1 : List Cond := [Cond.classLink RL 13 "java/lang/IllegalArgumentException", Cond.methodLink RL 19 yX7_entry, Cond.instanceMethod yX7_entry, Cond.selects RX7 yX7_entry yX7_entry, Cond.initialized RX7, Cond.code yX7_entry cX7_entry 6 none, Cond.fieldLink RX7 10 "ImageChecker" "tables" "LImageChecker$Tables;", Cond.methodLink RX7 55 yX7_needFile, Cond.static yX7_needFile, Cond.code yX7_needFile cX7_needFile 1 none, Cond.classLink RX7 141 "java/lang/IllegalArgumentException", Cond.initialized "java/lang/IllegalArgumentException", Cond.methodLink RX7 130 yX7_isFile, Cond.static yX7_isFile, Cond.code yX7_isFile cX7_isFile 1 (some .boolean), Cond.methodLink RX7 59 yX7_needPlace, Cond.static yX7_needPlace, Cond.code yX7_needPlace cX7_needPlace 2 none, Cond.methodLink RX7 71 yX5_putEntry, Cond.instanceMethod yX5_putEntry, Cond.selects RX5 yX5_putEntry yX5_putEntry, Cond.initialized RX5, Cond.code yX5_putEntry cX5_putEntry 7 none, Cond.fieldLink RX5 11 "ImageChecker$Tables" "cells" "[I"]
def wsL_entry_r2 : List Cond := [Cond.methodLink RX5 46 yX5_entryCell, Cond.static yX5_entryCell, Cond.code yX5_entryCell cX5_entryCell 2 (some .int)]
def wsL_entry : List Cond := .codeWith yL_entry cL_entry 7 (some .int) [(0, 11, 14, 13)] :: ((wsL_entry_r1 ++ wsL_entry_r2) ++ wsX70 ++ wsX50 ++ (vx_atS RX7 145 "java/lang/IllegalArgumentException" ["java/lang/RuntimeException", "java/lang/Exception"]).filter goodWord)
def wsL_hold : List Cond := .codeWith yL_hold cL_hold 4 (some .int) [(0, 6, 9, 13)] :: ([.classLink RL 13 "java/lang/IllegalArgumentException", .methodLink RL 22 yX7_hold, .instanceMethod yX7_hold, .selects RX7 yX7_hold yX7_hold, .initialized RX7, .code yX7_hold cX7_hold 3 none, .fieldLink RX7 16 "ImageChecker" "held" "[Z", .methodLink RX7 55 yX7_needFile, .static yX7_needFile, .code yX7_needFile cX7_needFile 1 none, .classLink RX7 141 "java/lang/IllegalArgumentException", .initialized "java/lang/IllegalArgumentException", .methodLink RX7 130 yX7_isFile, .static yX7_isFile, .code yX7_isFile cX7_isFile 1 (some .boolean)] ++ wsX70 ++ (vx_atS RX7 145 "java/lang/IllegalArgumentException" ["java/lang/RuntimeException", "java/lang/Exception"]).filter goodWord)
def wsL_bit : List Cond := .codeWith yL_bit cL_bit 5 (some .int) [(0, 7, 10, 13)] :: ([.classLink RL 13 "java/lang/IllegalArgumentException", .methodLink RL 26 yX7_bit, .instanceMethod yX7_bit, .selects RX7 yX7_bit yX7_bit, .initialized RX7, .code yX7_bit cX7_bit 4 none, .fieldLink RX7 10 "ImageChecker" "tables" "LImageChecker$Tables;", .methodLink RX7 74 yX7_needBit, .static yX7_needBit, .code yX7_needBit cX7_needBit 4 none, .classLink RX7 141 "java/lang/IllegalArgumentException", .initialized "java/lang/IllegalArgumentException", .methodLink RX7 130 yX7_isFile, .static yX7_isFile, .code yX7_isFile cX7_isFile 1 (some .boolean), .methodLink RX7 77 yX5_putBit, .instanceMethod yX5_putBit, .selects RX5 yX5_putBit yX5_putBit, .initialized RX5, .code yX5_putBit cX5_putBit 4 none, .fieldLink RX5 11 "ImageChecker$Tables" "cells" "[I", .methodLink RX5 49 yX5_bitCell, .static yX5_bitCell, .code yX5_bitCell cX5_bitCell 2 (some .int)] ++ wsX70 ++ wsX50 ++ (vx_atS RX7 145 "java/lang/IllegalArgumentException" ["java/lang/RuntimeException", "java/lang/Exception"]).filter goodWord)
def wsL_tell : List Cond := .codeWith yL_tell cL_tell 4 (some .int) [(0, 6, 9, 13)] :: ([.classLink RL 13 "java/lang/IllegalArgumentException", .methodLink RL 30 yX7_tell, .instanceMethod yX7_tell, .selects RX7 yX7_tell yX7_tell, .initialized RX7, .code yX7_tell cX7_tell 3 none, .fieldLink RX7 10 "ImageChecker" "tables" "LImageChecker$Tables;", .methodLink RX7 59 yX7_needPlace, .static yX7_needPlace, .code yX7_needPlace cX7_needPlace 2 none, .classLink RX7 141 "java/lang/IllegalArgumentException", .initialized "java/lang/IllegalArgumentException", .methodLink RX7 80 yX5_putTold, .instanceMethod yX5_putTold, .selects RX5 yX5_putTold yX5_putTold, .initialized RX5, .code yX5_putTold cX5_putTold 3 none, .fieldLink RX5 11 "ImageChecker$Tables" "cells" "[I"] ++ wsX70 ++ wsX50 ++ (vx_atS RX7 145 "java/lang/IllegalArgumentException" ["java/lang/RuntimeException", "java/lang/Exception"]).filter goodWord)
def wsL_about_r1 : List Cond := [Cond.classLink RL 13 "java/lang/IllegalArgumentException", Cond.methodLink RL 34 yX7_about, Cond.instanceMethod yX7_about, Cond.selects RX7 yX7_about yX7_about, Cond.initialized RX7, Cond.code yX7_about cX7_about 3 (some .int), Cond.fieldLink RX7 10 "ImageChecker" "tables" "LImageChecker$Tables;", Cond.methodLink RX7 55 yX7_needFile, Cond.static yX7_needFile, Cond.code yX7_needFile cX7_needFile 1 none, Cond.classLink RX7 141 "java/lang/IllegalArgumentException", Cond.initialized "java/lang/IllegalArgumentException", Cond.methodLink RX7 130 yX7_isFile, Cond.static yX7_isFile, Cond.code yX7_isFile cX7_isFile 1 (some .boolean), Cond.methodLink RX7 59 yX7_needPlace, Cond.static yX7_needPlace, Cond.code yX7_needPlace cX7_needPlace 2 none, Cond.methodLink RX7 110 yX5_number, Cond.instanceMethod yX5_number, Cond.selects RX5 yX5_number yX5_number, Cond.initialized RX5, Cond.code yX5_number cX5_number 3 (some .int), Cond.fieldLink RX5 11 "ImageChecker$Tables" "cells" "[I"]
def wsL_about_r2 : List Cond := [Cond.methodLink RX5 38 yX5_fileCell, Cond.static yX5_fileCell, Cond.code yX5_fileCell cX5_fileCell 1 (some .int)]
def wsL_about : List Cond := .codeWith yL_about cL_about 5 (some .int) [(0, 10, 13, 13)] :: ((wsL_about_r1 ++ wsL_about_r2) ++ wsX70 ++ wsX50 ++ (vx_atS RX7 145 "java/lang/IllegalArgumentException" ["java/lang/RuntimeException", "java/lang/Exception"]).filter goodWord)
def wsL_runOf_r1 : List Cond := [Cond.classLink RL 13 "java/lang/IllegalArgumentException", Cond.methodLink RL 38 yX7_runOf, Cond.instanceMethod yX7_runOf, Cond.selects RX7 yX7_runOf yX7_runOf, Cond.initialized RX7, Cond.code yX7_runOf cX7_runOf 4 (some .int), Cond.fieldLink RX7 10 "ImageChecker" "tables" "LImageChecker$Tables;", Cond.methodLink RX7 55 yX7_needFile, Cond.static yX7_needFile, Cond.code yX7_needFile cX7_needFile 1 none, Cond.classLink RX7 141 "java/lang/IllegalArgumentException", Cond.initialized "java/lang/IllegalArgumentException", Cond.methodLink RX7 130 yX7_isFile, Cond.static yX7_isFile, Cond.code yX7_isFile cX7_isFile 1 (some .boolean), Cond.methodLink RX7 59 yX7_needPlace, Cond.static yX7_needPlace, Cond.code yX7_needPlace cX7_needPlace 2 none, Cond.methodLink RX7 114 yX5_runPart, Cond.instanceMethod yX5_runPart, Cond.selects RX5 yX5_runPart yX5_runPart, Cond.initialized RX5, Cond.code yX5_runPart cX5_runPart 4 (some .int), Cond.fieldLink RX5 11 "ImageChecker$Tables" "cells" "[I"]
def wsL_runOf_r2 : List Cond := [Cond.methodLink RX5 42 yX5_runCell, Cond.static yX5_runCell, Cond.code yX5_runCell cX5_runCell 2 (some .int)]
def wsL_runOf : List Cond := .codeWith yL_runOf cL_runOf 6 (some .int) [(0, 12, 15, 13)] :: ((wsL_runOf_r1 ++ wsL_runOf_r2) ++ wsX70 ++ wsX50 ++ (vx_atS RX7 145 "java/lang/IllegalArgumentException" ["java/lang/RuntimeException", "java/lang/Exception"]).filter goodWord)
def wsL_entryOf_r1 : List Cond := [Cond.classLink RL 13 "java/lang/IllegalArgumentException", Cond.methodLink RL 42 yX7_entryOf, Cond.instanceMethod yX7_entryOf, Cond.selects RX7 yX7_entryOf yX7_entryOf, Cond.initialized RX7, Cond.code yX7_entryOf cX7_entryOf 4 (some .int), Cond.fieldLink RX7 10 "ImageChecker" "tables" "LImageChecker$Tables;", Cond.methodLink RX7 55 yX7_needFile, Cond.static yX7_needFile, Cond.code yX7_needFile cX7_needFile 1 none, Cond.classLink RX7 141 "java/lang/IllegalArgumentException", Cond.initialized "java/lang/IllegalArgumentException", Cond.methodLink RX7 130 yX7_isFile, Cond.static yX7_isFile, Cond.code yX7_isFile cX7_isFile 1 (some .boolean), Cond.methodLink RX7 59 yX7_needPlace, Cond.static yX7_needPlace, Cond.code yX7_needPlace cX7_needPlace 2 none, Cond.methodLink RX7 118 yX5_entryPart, Cond.instanceMethod yX5_entryPart, Cond.selects RX5 yX5_entryPart yX5_entryPart, Cond.initialized RX5, Cond.code yX5_entryPart cX5_entryPart 4 (some .int), Cond.fieldLink RX5 11 "ImageChecker$Tables" "cells" "[I"]
def wsL_entryOf_r2 : List Cond := [Cond.methodLink RX5 46 yX5_entryCell, Cond.static yX5_entryCell, Cond.code yX5_entryCell cX5_entryCell 2 (some .int)]
def wsL_entryOf : List Cond := .codeWith yL_entryOf cL_entryOf 6 (some .int) [(0, 12, 15, 13)] :: ((wsL_entryOf_r1 ++ wsL_entryOf_r2) ++ wsX70 ++ wsX50 ++ (vx_atS RX7 145 "java/lang/IllegalArgumentException" ["java/lang/RuntimeException", "java/lang/Exception"]).filter goodWord)
def wsL_isTaken : List Cond := .codeWith yL_isTaken cL_isTaken 5 (some .int) [(0, 17, 20, 13)] :: ([.classLink RL 13 "java/lang/IllegalArgumentException", .methodLink RL 45 yX7_isTaken, .instanceMethod yX7_isTaken, .selects RX7 yX7_isTaken yX7_isTaken, .initialized RX7, .code yX7_isTaken cX7_isTaken 3 (some .boolean), .fieldLink RX7 10 "ImageChecker" "tables" "LImageChecker$Tables;", .methodLink RX7 74 yX7_needBit, .static yX7_needBit, .code yX7_needBit cX7_needBit 4 none, .classLink RX7 141 "java/lang/IllegalArgumentException", .initialized "java/lang/IllegalArgumentException", .methodLink RX7 130 yX7_isFile, .static yX7_isFile, .code yX7_isFile cX7_isFile 1 (some .boolean), .methodLink RX7 121 yX5_bitOf, .instanceMethod yX5_bitOf, .selects RX5 yX5_bitOf yX5_bitOf, .initialized RX5, .code yX5_bitOf cX5_bitOf 3 (some .int), .fieldLink RX5 11 "ImageChecker$Tables" "cells" "[I", .methodLink RX5 49 yX5_bitCell, .static yX5_bitCell, .code yX5_bitCell cX5_bitCell 2 (some .int)] ++ wsX70 ++ wsX50 ++ (vx_atS RX7 145 "java/lang/IllegalArgumentException" ["java/lang/RuntimeException", "java/lang/Exception"]).filter goodWord)
def wsL_told : List Cond := .codeWith yL_told cL_told 4 (some .int) [(0, 9, 12, 13)] :: ([.classLink RL 13 "java/lang/IllegalArgumentException", .methodLink RL 49 yX7_told, .instanceMethod yX7_told, .selects RX7 yX7_told yX7_told, .initialized RX7, .code yX7_told cX7_told 2 (some .int), .fieldLink RX7 10 "ImageChecker" "tables" "LImageChecker$Tables;", .methodLink RX7 59 yX7_needPlace, .static yX7_needPlace, .code yX7_needPlace cX7_needPlace 2 none, .classLink RX7 141 "java/lang/IllegalArgumentException", .initialized "java/lang/IllegalArgumentException", .methodLink RX7 124 yX5_toldNumber, .instanceMethod yX5_toldNumber, .selects RX5 yX5_toldNumber yX5_toldNumber, .initialized RX5, .code yX5_toldNumber cX5_toldNumber 2 (some .int), .fieldLink RX5 11 "ImageChecker$Tables" "cells" "[I"] ++ wsX70 ++ wsX50 ++ (vx_atS RX7 145 "java/lang/IllegalArgumentException" ["java/lang/RuntimeException", "java/lang/Exception"]).filter goodWord)
def wsL_law0_r1 : List Cond := [Cond.classLink RL 8 RX7, Cond.instantiable RX7 6, Cond.initialized RX7, Cond.classLink RL 54 RX8, Cond.instantiable RX8 10, Cond.initialized RX8, Cond.arrayClass .long, Cond.constantLong RL 112 (4294967295), Cond.methodLink RL 53 yX7_init, Cond.instanceMethod yX7_init, Cond.code yX7_init cX7_init 1 none, Cond.methodLink RX7 1 objectInit, Cond.instanceMethod objectInit, Cond.code objectInit ⟨#[0xb1]⟩ 1 none, Cond.classLink RX7 7 RX5, Cond.instantiable RX5 2, Cond.initialized RX5, Cond.fieldLink RX7 10 "ImageChecker" "tables" "LImageChecker$Tables;", Cond.arrayClass .boolean, Cond.fieldLink RX7 16 "ImageChecker" "held" "[Z", Cond.classLink RX7 20 RX4, Cond.instantiable RX4 1, Cond.initialized RX4, Cond.fieldLink RX7 23 "ImageChecker" "records" "LImageChecker$RecordPass;"]
def wsL_law0_r2 : List Cond := [Cond.classLink RX7 27 RX1, Cond.instantiable RX1 1, Cond.initialized RX1, Cond.fieldLink RX7 30 "ImageChecker" "folders" "LImageChecker$FolderPass;", Cond.classLink RX7 34 RX2, Cond.instantiable RX2 3, Cond.initialized RX2, Cond.fieldLink RX7 37 "ImageChecker" "hanging" "LImageChecker$HangingPass;", Cond.classLink RX7 41 RX6, Cond.instantiable RX6 4, Cond.initialized RX6, Cond.fieldLink RX7 44 "ImageChecker" "waiting" "LImageChecker$WaitingList;", Cond.methodLink RX7 9 yX5_init, Cond.instanceMethod yX5_init, Cond.code yX5_init cX5_init 1 none, Cond.methodLink RX5 5 objectInit, Cond.arrayClass .int, Cond.fieldLink RX5 11 "ImageChecker$Tables" "cells" "[I", Cond.fieldLink RX5 15 "ImageChecker$Tables" "memory" "[I", Cond.methodLink RX7 22 yX4_init, Cond.instanceMethod yX4_init, Cond.code yX4_init cX4_init 1 none, Cond.methodLink RX4 3 objectInit, Cond.fieldLink RX4 9 "ImageChecker$RecordPass" "inRuns" "[Z"]
def wsL_law0_r3 : List Cond := [Cond.methodLink RX7 29 yX1_init, Cond.instanceMethod yX1_init, Cond.code yX1_init cX1_init 1 none, Cond.methodLink RX1 3 objectInit, Cond.fieldLink RX1 9 "ImageChecker$FolderPass" "hasEntry" "[Z", Cond.methodLink RX7 36 yX2_init, Cond.instanceMethod yX2_init, Cond.code yX2_init cX2_init 1 none, Cond.methodLink RX2 3 objectInit, Cond.fieldLink RX2 9 "ImageChecker$HangingPass" "reached" "[Z", Cond.fieldLink RX2 15 "ImageChecker$HangingPass" "queue" "[I", Cond.fieldLink RX2 19 "ImageChecker$HangingPass" "queued" "I", Cond.methodLink RX7 43 yX6_init, Cond.instanceMethod yX6_init, Cond.code yX6_init cX6_init 1 none, Cond.methodLink RX6 3 objectInit, Cond.fieldLink RX6 9 "ImageChecker$WaitingList" "cameBefore" "[Z", Cond.fieldLink RX6 15 "ImageChecker$WaitingList" "waitsRightly" "[Z", Cond.fieldLink RX6 18 "ImageChecker$WaitingList" "waitOn" "[I", Cond.fieldLink RX6 22 "ImageChecker$WaitingList" "count" "I", Cond.methodLink RX7 48 yX5_makeWhole, Cond.instanceMethod yX5_makeWhole, Cond.selects RX5 yX5_makeWhole yX5_makeWhole, Cond.code yX5_makeWhole cX5_makeWhole 2 none]
def wsL_law0_r4 : List Cond := [Cond.methodLink RX5 18 yX5_wipeCells, Cond.instanceMethod yX5_wipeCells, Cond.selects RX5 yX5_wipeCells yX5_wipeCells, Cond.code yX5_wipeCells cX5_wipeCells 4 none, Cond.methodLink RX5 22 yX5_putNumber, Cond.instanceMethod yX5_putNumber, Cond.selects RX5 yX5_putNumber yX5_putNumber, Cond.code yX5_putNumber cX5_putNumber 4 none, Cond.methodLink RX5 38 yX5_fileCell, Cond.static yX5_fileCell, Cond.code yX5_fileCell cX5_fileCell 1 (some .int), Cond.methodLink RX5 26 yX5_putBit, Cond.instanceMethod yX5_putBit, Cond.selects RX5 yX5_putBit yX5_putBit, Cond.code yX5_putBit cX5_putBit 4 none, Cond.methodLink RX5 49 yX5_bitCell, Cond.static yX5_bitCell, Cond.code yX5_bitCell cX5_bitCell 2 (some .int), Cond.methodLink RX5 29 yX5_putTold, Cond.instanceMethod yX5_putTold, Cond.selects RX5 yX5_putTold yX5_putTold, Cond.code yX5_putTold cX5_putTold 3 none, Cond.methodLink RL 56 yX8_init, Cond.instanceMethod yX8_init]
def wsL_law0_r5 : List Cond := [Cond.code yX8_init cX8_init 1 none, Cond.methodLink RX8 1 objectInit, Cond.fieldLink RX8 7 "ImageCheckerModel" "all" "[I", Cond.fieldLink RX8 13 "ImageCheckerModel" "before" "[I", Cond.fieldLink RX8 16 "ImageCheckerModel" "held" "[Z", Cond.fieldLink RX8 20 "ImageCheckerModel" "owner" "[I", Cond.fieldLink RX8 23 "ImageCheckerModel" "reached" "[Z", Cond.fieldLink RX8 26 "ImageCheckerModel" "rightly" "[Z", Cond.fieldLink RX8 29 "ImageCheckerModel" "list" "[I", Cond.fieldLink RX8 32 "ImageCheckerModel" "goesOn" "[Z", Cond.methodLink RX8 35 yX8_makeWhole, Cond.instanceMethod yX8_makeWhole, Cond.selects RX8 yX8_makeWhole yX8_makeWhole, Cond.code yX8_makeWhole cX8_makeWhole 2 none, Cond.methodLink RL 57 yX7_clear, Cond.instanceMethod yX7_clear, Cond.selects RX7 yX7_clear yX7_clear, Cond.code yX7_clear cX7_clear 1 none, Cond.methodLink RX7 51 yX7_unmark, Cond.static yX7_unmark, Cond.code yX7_unmark cX7_unmark 2 none, Cond.methodLink RL 60 yX8_clear, Cond.instanceMethod yX8_clear, Cond.selects RX8 yX8_clear yX8_clear]
def wsL_law0_r6 : List Cond := [Cond.code yX8_clear cX8_clear 1 none, Cond.fieldLink RX8 38 "ImageCheckerModel" "code" "I", Cond.methodLink RL 61 yL_set, Cond.static yL_set, Cond.initialized RL, Cond.codeWith yL_set cL_set 5 (some .int) [(0, 7, 10, 13)], Cond.classLink RL 13 "java/lang/IllegalArgumentException", Cond.methodLink RL 7 yX7_set, Cond.instanceMethod yX7_set, Cond.selects RX7 yX7_set yX7_set, Cond.code yX7_set cX7_set 4 none, Cond.methodLink RX7 55 yX7_needFile, Cond.static yX7_needFile, Cond.code yX7_needFile cX7_needFile 1 none, Cond.classLink RX7 141 "java/lang/IllegalArgumentException", Cond.initialized "java/lang/IllegalArgumentException", Cond.methodLink RX7 130 yX7_isFile, Cond.static yX7_isFile, Cond.code yX7_isFile cX7_isFile 1 (some .boolean), Cond.methodLink RX7 59 yX7_needPlace, Cond.static yX7_needPlace, Cond.code yX7_needPlace cX7_needPlace 2 none, Cond.methodLink RX7 63 yX5_putNumber, Cond.methodLink RL 66 yX8_set]
def wsL_law0_r7 : List Cond := [Cond.instanceMethod yX8_set, Cond.selects RX8 yX8_set yX8_set, Cond.code yX8_set cX8_set 4 none, Cond.methodLink RX8 42 yX8_isIn, Cond.static yX8_isIn, Cond.code yX8_isIn cX8_isIn 3 (some .boolean), Cond.methodLink RX8 46 yX8_may, Cond.instanceMethod yX8_may, Cond.selects RX8 yX8_may yX8_may, Cond.code yX8_may cX8_may 2 (some .boolean), Cond.methodLink RL 67 yX8_thrown, Cond.instanceMethod yX8_thrown, Cond.selects RX8 yX8_thrown yX8_thrown, Cond.code yX8_thrown cX8_thrown 1 (some .int), Cond.methodLink RL 71 yL_run, Cond.static yL_run, Cond.codeWith yL_run cL_run 7 (some .int) [(0, 11, 14, 13)], Cond.methodLink RL 15 yX7_run, Cond.instanceMethod yX7_run, Cond.selects RX7 yX7_run yX7_run, Cond.code yX7_run cX7_run 6 none, Cond.methodLink RX7 67 yX5_putRun, Cond.instanceMethod yX5_putRun, Cond.selects RX5 yX5_putRun yX5_putRun]
def wsL_law0_r8 : List Cond := [Cond.code yX5_putRun cX5_putRun 7 none, Cond.methodLink RX5 42 yX5_runCell, Cond.static yX5_runCell, Cond.code yX5_runCell cX5_runCell 2 (some .int), Cond.methodLink RL 74 yX8_run, Cond.instanceMethod yX8_run, Cond.selects RX8 yX8_run yX8_run, Cond.code yX8_run cX8_run 6 none, Cond.methodLink RX8 50 yX8_runAt, Cond.static yX8_runAt, Cond.code yX8_runAt cX8_runAt 2 (some .int), Cond.methodLink RX8 54 yX8_put, Cond.instanceMethod yX8_put, Cond.selects RX8 yX8_put yX8_put, Cond.code yX8_put cX8_put 5 none, Cond.methodLink RL 75 yL_entry, Cond.static yL_entry, Cond.codeWith yL_entry cL_entry 7 (some .int) [(0, 11, 14, 13)], Cond.methodLink RL 19 yX7_entry, Cond.instanceMethod yX7_entry, Cond.selects RX7 yX7_entry yX7_entry, Cond.code yX7_entry cX7_entry 6 none, Cond.methodLink RX7 71 yX5_putEntry, Cond.instanceMethod yX5_putEntry]
def wsL_law0_r9 : List Cond := [Cond.selects RX5 yX5_putEntry yX5_putEntry, Cond.code yX5_putEntry cX5_putEntry 7 none, Cond.methodLink RX5 46 yX5_entryCell, Cond.static yX5_entryCell, Cond.code yX5_entryCell cX5_entryCell 2 (some .int), Cond.methodLink RL 77 yX8_entry, Cond.instanceMethod yX8_entry, Cond.selects RX8 yX8_entry yX8_entry, Cond.code yX8_entry cX8_entry 6 none, Cond.methodLink RX8 58 yX8_entryAt, Cond.static yX8_entryAt, Cond.code yX8_entryAt cX8_entryAt 2 (some .int), Cond.methodLink RL 78 yL_hold, Cond.static yL_hold, Cond.codeWith yL_hold cL_hold 4 (some .int) [(0, 6, 9, 13)], Cond.methodLink RL 22 yX7_hold, Cond.instanceMethod yX7_hold, Cond.selects RX7 yX7_hold yX7_hold, Cond.code yX7_hold cX7_hold 3 none, Cond.methodLink RL 81 yX8_hold, Cond.instanceMethod yX8_hold, Cond.selects RX8 yX8_hold yX8_hold, Cond.code yX8_hold cX8_hold 3 none, Cond.methodLink RL 82 yL_bit]
def wsL_law0_r10 : List Cond := [Cond.static yL_bit, Cond.codeWith yL_bit cL_bit 5 (some .int) [(0, 7, 10, 13)], Cond.methodLink RL 26 yX7_bit, Cond.instanceMethod yX7_bit, Cond.selects RX7 yX7_bit yX7_bit, Cond.code yX7_bit cX7_bit 4 none, Cond.methodLink RX7 74 yX7_needBit, Cond.static yX7_needBit, Cond.code yX7_needBit cX7_needBit 4 none, Cond.methodLink RX7 77 yX5_putBit, Cond.methodLink RL 85 yX8_bit, Cond.instanceMethod yX8_bit, Cond.selects RX8 yX8_bit yX8_bit, Cond.code yX8_bit cX8_bit 4 none, Cond.methodLink RX8 61 yX8_isBit, Cond.static yX8_isBit, Cond.code yX8_isBit cX8_isBit 2 (some .boolean), Cond.methodLink RL 86 yL_tell, Cond.static yL_tell, Cond.codeWith yL_tell cL_tell 4 (some .int) [(0, 6, 9, 13)], Cond.methodLink RL 30 yX7_tell, Cond.instanceMethod yX7_tell, Cond.selects RX7 yX7_tell yX7_tell, Cond.code yX7_tell cX7_tell 3 none]
def wsL_law0_r11 : List Cond := [Cond.methodLink RX7 80 yX5_putTold, Cond.methodLink RL 89 yX8_tell, Cond.instanceMethod yX8_tell, Cond.selects RX8 yX8_tell yX8_tell, Cond.code yX8_tell cX8_tell 3 none, Cond.methodLink RL 90 yX7_check, Cond.instanceMethod yX7_check, Cond.selects RX7 yX7_check yX7_check, Cond.code yX7_check cX7_check 2 (some .int), Cond.methodLink RX7 83 yX5_remember, Cond.instanceMethod yX5_remember, Cond.selects RX5 yX5_remember yX5_remember, Cond.code yX5_remember cX5_remember 1 none, Cond.methodLink RX5 32 arraycopyName, Cond.native arraycopyName, Cond.static arraycopyName, Cond.initialized "java/lang/System", Cond.methodLink RX7 86 yX4_mend, Cond.instanceMethod yX4_mend, Cond.selects RX4 yX4_mend yX4_mend, Cond.code yX4_mend cX4_mend 3 none, Cond.methodLink RX4 19 yX5_number, Cond.instanceMethod yX5_number, Cond.selects RX5 yX5_number yX5_number]
def wsL_law0_r12 : List Cond := [Cond.code yX5_number cX5_number 3 (some .int), Cond.methodLink RX4 25 yX4_makeRootEmpty, Cond.instanceMethod yX4_makeRootEmpty, Cond.selects RX4 yX4_makeRootEmpty yX4_makeRootEmpty, Cond.code yX4_makeRootEmpty cX4_makeRootEmpty 2 none, Cond.methodLink RX4 33 yX5_putNumber, Cond.methodLink RX4 37 yX5_wipeRunsFrom, Cond.instanceMethod yX5_wipeRunsFrom, Cond.selects RX5 yX5_wipeRunsFrom yX5_wipeRunsFrom, Cond.code yX5_wipeRunsFrom cX5_wipeRunsFrom 3 none, Cond.methodLink RX4 41 yX5_wipeEntriesFrom, Cond.instanceMethod yX5_wipeEntriesFrom, Cond.selects RX5 yX5_wipeEntriesFrom yX5_wipeEntriesFrom, Cond.code yX5_wipeEntriesFrom cX5_wipeEntriesFrom 3 none, Cond.methodLink RX4 29 yX4_mendRecord, Cond.instanceMethod yX4_mendRecord, Cond.selects RX4 yX4_mendRecord yX4_mendRecord, Cond.code yX4_mendRecord cX4_mendRecord 4 none, Cond.methodLink RX4 44 yX5_wipeFile, Cond.instanceMethod yX5_wipeFile, Cond.selects RX5 yX5_wipeFile yX5_wipeFile, Cond.code yX5_wipeFile cX5_wipeFile 2 none, Cond.methodLink RX4 48 yX4_mendSize, Cond.instanceMethod yX4_mendSize]
def wsL_law0_r13 : List Cond := [Cond.selects RX4 yX4_mendSize yX4_mendSize, Cond.code yX4_mendSize cX4_mendSize 4 none, Cond.constant RX4 54 (65536), Cond.methodLink RX4 55 yX4_greatestEnd, Cond.instanceMethod yX4_greatestEnd, Cond.selects RX4 yX4_greatestEnd yX4_greatestEnd, Cond.code yX4_greatestEnd cX4_greatestEnd 7 (some .int), Cond.methodLink RX4 67 Lib.Math.max.name, Cond.static Lib.Math.max.name, Cond.initialized "java/lang/Math", Cond.code Lib.Math.max.name Lib.Math.max.code 2 (some .int), Cond.methodLink RX4 59 yX5_runPart, Cond.instanceMethod yX5_runPart, Cond.selects RX5 yX5_runPart yX5_runPart, Cond.code yX5_runPart cX5_runPart 4 (some .int), Cond.methodLink RX4 63 yX4_isRight, Cond.static yX4_isRight, Cond.code yX4_isRight cX4_isRight 3 (some .boolean), Cond.methodLink RX4 51 yX4_mendRuns, Cond.instanceMethod yX4_mendRuns, Cond.selects RX4 yX4_mendRuns yX4_mendRuns, Cond.code yX4_mendRuns cX4_mendRuns 10 none, Cond.methodLink RX4 72 Lib.Math.min.name, Cond.static Lib.Math.min.name]
def wsL_law0_r14 : List Cond := [Cond.code Lib.Math.min.name Lib.Math.min.code 2 (some .int), Cond.methodLink RX4 75 yX4_isAnyInRuns, Cond.instanceMethod yX4_isAnyInRuns, Cond.selects RX4 yX4_isAnyInRuns yX4_isAnyInRuns, Cond.code yX4_isAnyInRuns cX4_isAnyInRuns 4 (some .boolean), Cond.methodLink RX4 79 yX4_markInRuns, Cond.instanceMethod yX4_markInRuns, Cond.selects RX4 yX4_markInRuns yX4_markInRuns, Cond.code yX4_markInRuns cX4_markInRuns 4 none, Cond.methodLink RX4 82 yX5_putRun, Cond.methodLink RX7 90 yX7_weightIfMended, Cond.instanceMethod yX7_weightIfMended, Cond.selects RX7 yX7_weightIfMended yX7_weightIfMended, Cond.code yX7_weightIfMended cX7_weightIfMended 3 (some .int), Cond.methodLink RX7 137 yX5_differFromMemory, Cond.instanceMethod yX5_differFromMemory, Cond.selects RX5 yX5_differFromMemory yX5_differFromMemory, Cond.code yX5_differFromMemory cX5_differFromMemory 2 (some .boolean), Cond.methodLink RX7 94 yX1_mend, Cond.instanceMethod yX1_mend, Cond.selects RX1 yX1_mend yX1_mend, Cond.code yX1_mend cX1_mend 3 none, Cond.methodLink RX1 19 yX5_number, Cond.methodLink RX1 25 yX1_mendFolder]
def wsL_law0_r15 : List Cond := [Cond.instanceMethod yX1_mendFolder, Cond.selects RX1 yX1_mendFolder yX1_mendFolder, Cond.code yX1_mendFolder cX1_mendFolder 7 none, Cond.methodLink RX1 29 yX5_entryPart, Cond.instanceMethod yX5_entryPart, Cond.selects RX5 yX5_entryPart yX5_entryPart, Cond.code yX5_entryPart cX5_entryPart 4 (some .int), Cond.methodLink RX1 33 yX1_isNameRight, Cond.static yX1_isNameRight, Cond.code yX1_isNameRight cX1_isNameRight 4 (some .boolean), Cond.methodLink RX1 49 yX5_placeOfName, Cond.instanceMethod yX5_placeOfName, Cond.selects RX5 yX5_placeOfName yX5_placeOfName, Cond.code yX5_placeOfName cX5_placeOfName 5 (some .int), Cond.methodLink RX5 52 yX5_entryPart, Cond.methodLink RX1 37 yX1_mayLeadTo, Cond.instanceMethod yX1_mayLeadTo, Cond.selects RX1 yX1_mayLeadTo yX1_mayLeadTo, Cond.code yX1_mayLeadTo cX1_mayLeadTo 4 (some .boolean), Cond.methodLink RX1 41 yX5_putEntry, Cond.methodLink RX1 45 yX5_wipeEntriesFrom, Cond.methodLink RX7 95 yX6_gather, Cond.instanceMethod yX6_gather, Cond.selects RX6 yX6_gather yX6_gather]
def wsL_law0_r16 : List Cond := [Cond.code yX6_gather cX6_gather 5 none, Cond.methodLink RX6 30 yX5_toldNumber, Cond.instanceMethod yX5_toldNumber, Cond.selects RX5 yX5_toldNumber yX5_toldNumber, Cond.code yX5_toldNumber cX5_toldNumber 2 (some .int), Cond.methodLink RX6 40 yX6_mayWait, Cond.static yX6_mayWait, Cond.code yX6_mayWait cX6_mayWait 3 (some .boolean), Cond.methodLink RX6 48 yX5_number, Cond.methodLink RX6 52 yX5_countEntriesFor, Cond.instanceMethod yX5_countEntriesFor, Cond.selects RX5 yX5_countEntriesFor yX5_countEntriesFor, Cond.code yX5_countEntriesFor cX5_countEntriesFor 5 (some .int), Cond.methodLink RX6 44 yX6_addIfHeld, Cond.instanceMethod yX6_addIfHeld, Cond.selects RX6 yX6_addIfHeld yX6_addIfHeld, Cond.code yX6_addIfHeld cX6_addIfHeld 3 none, Cond.methodLink RX7 99 yX2_mend, Cond.instanceMethod yX2_mend, Cond.selects RX2 yX2_mend yX2_mend, Cond.code yX2_mend cX2_mend 5 none, Cond.methodLink RX2 27 yX2_reachFrom, Cond.instanceMethod yX2_reachFrom, Cond.selects RX2 yX2_reachFrom yX2_reachFrom]
def wsL_law0_r17 : List Cond := [Cond.code yX2_reachFrom cX2_reachFrom 5 none, Cond.methodLink RX2 65 yX2_reach, Cond.instanceMethod yX2_reach, Cond.selects RX2 yX2_reach yX2_reach, Cond.code yX2_reach cX2_reach 2 none, Cond.methodLink RX2 68 yX5_entryPart, Cond.methodLink RX2 31 yX5_number, Cond.methodLink RX2 37 yX6_isRightlyIn, Cond.instanceMethod yX6_isRightlyIn, Cond.selects RX6 yX6_isRightlyIn yX6_isRightlyIn, Cond.code yX6_isRightlyIn cX6_isRightlyIn 2 (some .boolean), Cond.methodLink RX2 43 yX2_hangInRoot, Cond.instanceMethod yX2_hangInRoot, Cond.selects RX2 yX2_hangInRoot yX2_hangInRoot, Cond.code yX2_hangInRoot cX2_hangInRoot 4 none, Cond.methodLink RX2 50 yX5_dropEntriesFor, Cond.instanceMethod yX5_dropEntriesFor, Cond.selects RX5 yX5_dropEntriesFor yX5_dropEntriesFor, Cond.code yX5_dropEntriesFor cX5_dropEntriesFor 5 none, Cond.methodLink RX5 56 yX5_moveEntry, Cond.instanceMethod yX5_moveEntry, Cond.selects RX5 yX5_moveEntry yX5_moveEntry, Cond.code yX5_moveEntry cX5_moveEntry 4 none, Cond.methodLink RX5 62 yX5_putEntry]
def wsL_law0_r18 : List Cond := [Cond.methodLink RX5 59 yX5_wipeEntriesFrom, Cond.methodLink RX2 53 yX5_placeOfName, Cond.methodLink RX2 46 yX5_wipeFile, Cond.methodLink RX2 57 yX2_leastNewName, Cond.static yX2_leastNewName, Cond.code yX2_leastNewName cX2_leastNewName 3 (some .int), Cond.methodLink RX2 61 yX5_putEntry, Cond.methodLink RX7 102 yX3_mend, Cond.static yX3_mend, Cond.initialized RX3, Cond.code yX3_mend cX3_mend 3 none, Cond.methodLink RX3 9 yX3_linksOf, Cond.static yX3_linksOf, Cond.code yX3_linksOf cX3_linksOf 4 (some .int), Cond.methodLink RX3 29 yX5_number, Cond.methodLink RX3 33 yX5_countEntriesFor, Cond.methodLink RX3 37 yX5_entryPart, Cond.methodLink RX3 41 yX3_isFolder, Cond.static yX3_isFolder, Cond.code yX3_isFolder cX3_isFolder 2 (some .boolean), Cond.methodLink RX3 15 yX5_putNumber, Cond.methodLink RX3 21 yX3_becomeParent, Cond.static yX3_becomeParent, Cond.code yX3_becomeParent cX3_becomeParent 4 none]
def wsL_law0_r19 : List Cond := [Cond.methodLink RX3 25 yX3_mendWaiting, Cond.static yX3_mendWaiting, Cond.code yX3_mendWaiting cX3_mendWaiting 3 none, Cond.methodLink RX3 49 yX6_fileAt, Cond.instanceMethod yX6_fileAt, Cond.selects RX6 yX6_fileAt yX6_fileAt, Cond.code yX6_fileAt cX6_fileAt 2 (some .int), Cond.methodLink RX3 54 yX5_putTold, Cond.methodLink RX3 58 yX6_size, Cond.instanceMethod yX6_size, Cond.selects RX6 yX6_size yX6_size, Cond.code yX6_size cX6_size 1 (some .int), Cond.methodLink RX7 107 yX0_mend, Cond.static yX0_mend, Cond.initialized RX0, Cond.code yX0_mend cX0_mend 3 none, Cond.methodLink RX0 9 yX5_putBit, Cond.methodLink RX0 15 yX5_number, Cond.methodLink RX0 19 yX5_runPart, Cond.methodLink RX0 23 yX0_takeBlocks, Cond.static yX0_takeBlocks, Cond.code yX0_takeBlocks cX0_takeBlocks 5 none, Cond.methodLink RX0 29 yX0_countFree, Cond.static yX0_countFree]
def wsL_law0_r20 : List Cond := [Cond.code yX0_countFree cX0_countFree 5 (some .int), Cond.methodLink RX0 37 yX5_bitOf, Cond.instanceMethod yX5_bitOf, Cond.selects RX5 yX5_bitOf yX5_bitOf, Cond.code yX5_bitOf cX5_bitOf 3 (some .int), Cond.methodLink RX0 33 yX5_putTold, Cond.methodLink RL 93 yX8_check, Cond.instanceMethod yX8_check, Cond.selects RX8 yX8_check yX8_check, Cond.code yX8_check cX8_check 5 (some .int), Cond.methodLink RX8 135 yX8_pass, Cond.instanceMethod yX8_pass, Cond.selects RX8 yX8_pass yX8_pass, Cond.code yX8_pass cX8_pass 2 none, Cond.methodLink RX8 120 yX8_checkRecords, Cond.instanceMethod yX8_checkRecords, Cond.selects RX8 yX8_checkRecords yX8_checkRecords, Cond.code yX8_checkRecords cX8_checkRecords 2 none, Cond.methodLink RX8 87 yX8_checkRecord, Cond.instanceMethod yX8_checkRecord, Cond.selects RX8 yX8_checkRecord yX8_checkRecord, Cond.code yX8_checkRecord cX8_checkRecord 3 none, Cond.constant RX8 79 (65536), Cond.methodLink RX8 65 yX8_blank]
def wsL_law0_r21 : List Cond := [Cond.instanceMethod yX8_blank, Cond.selects RX8 yX8_blank yX8_blank, Cond.code yX8_blank cX8_blank 4 none, Cond.methodLink RX8 75 yX8_dropRecord, Cond.instanceMethod yX8_dropRecord, Cond.selects RX8 yX8_dropRecord yX8_dropRecord, Cond.code yX8_dropRecord cX8_dropRecord 2 none, Cond.methodLink RX8 80 yX8_greatestEnd, Cond.instanceMethod yX8_greatestEnd, Cond.selects RX8 yX8_greatestEnd yX8_greatestEnd, Cond.code yX8_greatestEnd cX8_greatestEnd 6 (some .int), Cond.methodLink RX8 69 yX8_isRight, Cond.static yX8_isRight, Cond.code yX8_isRight cX8_isRight 3 (some .boolean), Cond.methodLink RX8 84 yX8_checkRuns, Cond.instanceMethod yX8_checkRuns, Cond.selects RX8 yX8_checkRuns yX8_checkRuns, Cond.code yX8_checkRuns cX8_checkRuns 12 none, Cond.methodLink RX8 72 yX8_isFree, Cond.instanceMethod yX8_isFree, Cond.selects RX8 yX8_isFree yX8_isFree, Cond.code yX8_isFree cX8_isFree 5 (some .boolean), Cond.methodLink RX8 123 yX8_checkFolders, Cond.instanceMethod yX8_checkFolders]
def wsL_law0_r22 : List Cond := [Cond.selects RX8 yX8_checkFolders yX8_checkFolders, Cond.code yX8_checkFolders cX8_checkFolders 8 none, Cond.methodLink RX8 90 yX8_kindOf, Cond.instanceMethod yX8_kindOf, Cond.selects RX8 yX8_kindOf yX8_kindOf, Cond.code yX8_kindOf cX8_kindOf 2 (some .int), Cond.methodLink RX8 93 yX8_hasName, Cond.instanceMethod yX8_hasName, Cond.selects RX8 yX8_hasName yX8_hasName, Cond.code yX8_hasName cX8_hasName 6 (some .boolean), Cond.methodLink RX8 126 yX8_checkHanging, Cond.instanceMethod yX8_checkHanging, Cond.selects RX8 yX8_checkHanging yX8_checkHanging, Cond.code yX8_checkHanging cX8_checkHanging 2 none, Cond.methodLink RX8 105 yX8_findWaiting, Cond.instanceMethod yX8_findWaiting, Cond.selects RX8 yX8_findWaiting yX8_findWaiting, Cond.code yX8_findWaiting cX8_findWaiting 4 none, Cond.fieldLink RX8 96 "ImageCheckerModel" "listSize" "I", Cond.methodLink RX8 99 yX8_leading, Cond.instanceMethod yX8_leading, Cond.selects RX8 yX8_leading yX8_leading, Cond.code yX8_leading cX8_leading 5 (some .int), Cond.methodLink RX8 108 yX8_findReached]
def wsL_law0_r23 : List Cond := [Cond.instanceMethod yX8_findReached, Cond.selects RX8 yX8_findReached yX8_findReached, Cond.code yX8_findReached cX8_findReached 5 none, Cond.methodLink RX8 111 yX8_hang, Cond.instanceMethod yX8_hang, Cond.selects RX8 yX8_hang yX8_hang, Cond.code yX8_hang cX8_hang 4 none, Cond.methodLink RX8 102 yX8_dropEntries, Cond.instanceMethod yX8_dropEntries, Cond.selects RX8 yX8_dropEntries yX8_dropEntries, Cond.code yX8_dropEntries cX8_dropEntries 6 none, Cond.methodLink RX8 129 yX8_checkLinks, Cond.instanceMethod yX8_checkLinks, Cond.selects RX8 yX8_checkLinks yX8_checkLinks, Cond.code yX8_checkLinks cX8_checkLinks 3 none, Cond.methodLink RX8 114 yX8_foldersIn, Cond.instanceMethod yX8_foldersIn, Cond.selects RX8 yX8_foldersIn yX8_foldersIn, Cond.code yX8_foldersIn cX8_foldersIn 4 (some .int), Cond.methodLink RX8 117 yX8_parentOf, Cond.instanceMethod yX8_parentOf, Cond.selects RX8 yX8_parentOf yX8_parentOf, Cond.code yX8_parentOf cX8_parentOf 6 (some .int), Cond.methodLink RX8 132 yX8_checkBits]
def wsL_law0_r24 : List Cond := [Cond.instanceMethod yX8_checkBits, Cond.selects RX8 yX8_checkBits yX8_checkBits, Cond.code yX8_checkBits cX8_checkBits 5 none, Cond.methodLink RL 94 yL_about, Cond.static yL_about, Cond.codeWith yL_about cL_about 5 (some .int) [(0, 10, 13, 13)], Cond.methodLink RL 34 yX7_about, Cond.instanceMethod yX7_about, Cond.selects RX7 yX7_about yX7_about, Cond.code yX7_about cX7_about 3 (some .int), Cond.methodLink RX7 110 yX5_number, Cond.methodLink RL 97 yX8_about, Cond.instanceMethod yX8_about, Cond.selects RX8 yX8_about yX8_about, Cond.code yX8_about cX8_about 3 (some .int), Cond.methodLink RL 98 yL_runOf, Cond.static yL_runOf, Cond.codeWith yL_runOf cL_runOf 6 (some .int) [(0, 12, 15, 13)], Cond.methodLink RL 38 yX7_runOf, Cond.instanceMethod yX7_runOf, Cond.selects RX7 yX7_runOf yX7_runOf, Cond.code yX7_runOf cX7_runOf 4 (some .int), Cond.methodLink RX7 114 yX5_runPart, Cond.methodLink RL 101 yX8_runOf]
def wsL_law0_r25 : List Cond := [Cond.instanceMethod yX8_runOf, Cond.selects RX8 yX8_runOf yX8_runOf, Cond.code yX8_runOf cX8_runOf 4 (some .int), Cond.methodLink RL 102 yL_entryOf, Cond.static yL_entryOf, Cond.codeWith yL_entryOf cL_entryOf 6 (some .int) [(0, 12, 15, 13)], Cond.methodLink RL 42 yX7_entryOf, Cond.instanceMethod yX7_entryOf, Cond.selects RX7 yX7_entryOf yX7_entryOf, Cond.code yX7_entryOf cX7_entryOf 4 (some .int), Cond.methodLink RX7 118 yX5_entryPart, Cond.methodLink RL 104 yX8_entryOf, Cond.instanceMethod yX8_entryOf, Cond.selects RX8 yX8_entryOf yX8_entryOf, Cond.code yX8_entryOf cX8_entryOf 4 (some .int), Cond.methodLink RL 105 yL_isTaken, Cond.static yL_isTaken, Cond.codeWith yL_isTaken cL_isTaken 5 (some .int) [(0, 17, 20, 13)], Cond.methodLink RL 45 yX7_isTaken, Cond.instanceMethod yX7_isTaken, Cond.selects RX7 yX7_isTaken yX7_isTaken, Cond.code yX7_isTaken cX7_isTaken 3 (some .boolean), Cond.methodLink RX7 121 yX5_bitOf, Cond.methodLink RL 107 yX8_isTaken]
def wsL_law0_r26 : List Cond := [Cond.instanceMethod yX8_isTaken, Cond.selects RX8 yX8_isTaken yX8_isTaken, Cond.code yX8_isTaken cX8_isTaken 3 (some .boolean), Cond.methodLink RL 108 yL_told, Cond.static yL_told, Cond.codeWith yL_told cL_told 4 (some .int) [(0, 9, 12, 13)], Cond.methodLink RL 49 yX7_told, Cond.instanceMethod yX7_told, Cond.selects RX7 yX7_told yX7_told, Cond.code yX7_told cX7_told 2 (some .int), Cond.methodLink RX7 124 yX5_toldNumber, Cond.methodLink RL 111 yX8_told, Cond.instanceMethod yX8_told, Cond.selects RX8 yX8_told yX8_told, Cond.code yX8_told cX8_told 2 (some .int), Cond.methodLink RL 114 yX7_find, Cond.instanceMethod yX7_find, Cond.selects RX7 yX7_find yX7_find, Cond.code yX7_find cX7_find 6 (some .int), Cond.methodLink RX7 127 yX7_fileNamed, Cond.instanceMethod yX7_fileNamed, Cond.selects RX7 yX7_fileNamed yX7_fileNamed, Cond.code yX7_fileNamed cX7_fileNamed 4 (some .int), Cond.methodLink RX7 134 yX5_placeOfName]
def wsL_law0_r27 : List Cond := [Cond.methodLink RL 118 yX8_find, Cond.instanceMethod yX8_find, Cond.selects RX8 yX8_find yX8_find, Cond.code yX8_find cX8_find 6 (some .int), Cond.constantLong RX8 138 (255), Cond.methodLink RX8 140 yX8_entryNamed, Cond.instanceMethod yX8_entryNamed, Cond.selects RX8 yX8_entryNamed yX8_entryNamed, Cond.code yX8_entryNamed cX8_entryNamed 4 (some .int)]
def wsL_law0 : List Cond := (wsL_law0_r1 ++ (wsL_law0_r2 ++ (wsL_law0_r3 ++ (wsL_law0_r4 ++ (wsL_law0_r5 ++ (wsL_law0_r6 ++ (wsL_law0_r7 ++ (wsL_law0_r8 ++ (wsL_law0_r9 ++ (wsL_law0_r10 ++ (wsL_law0_r11 ++ (wsL_law0_r12 ++ (wsL_law0_r13 ++ (wsL_law0_r14 ++ (wsL_law0_r15 ++ (wsL_law0_r16 ++ (wsL_law0_r17 ++ (wsL_law0_r18 ++ (wsL_law0_r19 ++ (wsL_law0_r20 ++ (wsL_law0_r21 ++ (wsL_law0_r22 ++ (wsL_law0_r23 ++ (wsL_law0_r24 ++ (wsL_law0_r25 ++ (wsL_law0_r26 ++ wsL_law0_r27)))))))))))))))))))))))))) ++ wsX70 ++ wsX80 ++ wsX50 ++ wsX40 ++ wsX10 ++ wsX20 ++ wsX60 ++ ([] : List Cond)
def wsL_law : List Cond := wsL_law0 ++ (vx_atS RX7 145 "java/lang/IllegalArgumentException" ["java/lang/RuntimeException", "java/lang/Exception"]).filter goodWord
set_option maxRecDepth 20000 in
theorem ggL_set_X7_set : GoodIn wsL_set wsX7_set := goodIn_ca (goodIn_r _ [6, 7, 8, 9, 5, 10, 11, 12, 13, 14, 15, 16, 17, 18, 19, 20, 21, 22, 23, 24, 25, 26, 27, 28, 29, 30, 31, 32, 33, 34, 35] (by decide +kernel) (by decide +kernel)) (goodIn_sub (fun _ h => List.mem_cons_of_mem _ (List.mem_append_right _ h)) (by decide +kernel))
set_option maxRecDepth 20000 in
theorem gL_set_X7_set : GoodIn wsL_set (wsV RL 7 RX7 yX7_set wsX7_set) := goodIn_app (goodIn_of _ (by decide +kernel)) ggL_set_X7_set
theorem dL_set_0 : decode cL_set 0 = .ok (.aload_n 0, 1) := by decide +kernel
theorem dL_set_1 : decode cL_set 1 = .ok (.iload_n 1, 1) := by decide +kernel
theorem dL_set_2 : decode cL_set 2 = .ok (.iload_n 2, 1) := by decide +kernel
theorem dL_set_3 : decode cL_set 3 = .ok (.iload_n 3, 1) := by decide +kernel
theorem dL_set_4 : decode cL_set 4 = .ok (.invokevirtual 7, 3) := by decide +kernel
theorem dL_set_7 : decode cL_set 7 = .ok (.goto 7, 3) := by decide +kernel
theorem dL_set_10 : decode cL_set 10 = .ok (.astore 4, 2) := by decide +kernel
theorem dL_set_12 : decode cL_set 12 = .ok (.iconst 1, 1) := by decide +kernel
theorem dL_set_13 : decode cL_set 13 = .ok (.ireturn, 1) := by decide +kernel
theorem dL_set_14 : decode cL_set 14 = .ok (.iconst 0, 1) := by decide +kernel
theorem dL_set_15 : decode cL_set 15 = .ok (.ireturn, 1) := by decide +kernel
set_option maxRecDepth 20000 in
theorem ggL_run_X7_run : GoodIn wsL_run wsX7_run := goodIn_ca (goodIn_r _ [6, 7, 8, 9, 5, 10, 11, 12, 13, 14, 15, 16, 17, 18, 19, 20, 21, 22, 23, 24, 25, 26, 27, 28, 29, 30, 31, 32, 33, 34, 35] (by decide +kernel) (by decide +kernel)) (goodIn_sub (fun _ h => List.mem_cons_of_mem _ (List.mem_append_right _ h)) (by decide +kernel))
set_option maxRecDepth 20000 in
theorem gL_run_X7_run : GoodIn wsL_run (wsV RL 15 RX7 yX7_run wsX7_run) := goodIn_app (goodIn_of _ (by decide +kernel)) ggL_run_X7_run
theorem dL_run_0 : decode cL_run 0 = .ok (.aload_n 0, 1) := by decide +kernel
theorem dL_run_1 : decode cL_run 1 = .ok (.iload_n 1, 1) := by decide +kernel
theorem dL_run_2 : decode cL_run 2 = .ok (.iload_n 2, 1) := by decide +kernel
theorem dL_run_3 : decode cL_run 3 = .ok (.iload_n 3, 1) := by decide +kernel
theorem dL_run_4 : decode cL_run 4 = .ok (.iload 4, 2) := by decide +kernel
theorem dL_run_6 : decode cL_run 6 = .ok (.iload 5, 2) := by decide +kernel
theorem dL_run_8 : decode cL_run 8 = .ok (.invokevirtual 15, 3) := by decide +kernel
theorem dL_run_11 : decode cL_run 11 = .ok (.goto 7, 3) := by decide +kernel
theorem dL_run_14 : decode cL_run 14 = .ok (.astore 6, 2) := by decide +kernel
theorem dL_run_16 : decode cL_run 16 = .ok (.iconst 1, 1) := by decide +kernel
theorem dL_run_17 : decode cL_run 17 = .ok (.ireturn, 1) := by decide +kernel
theorem dL_run_18 : decode cL_run 18 = .ok (.iconst 0, 1) := by decide +kernel
theorem dL_run_19 : decode cL_run 19 = .ok (.ireturn, 1) := by decide +kernel
set_option maxRecDepth 20000 in
theorem ggL_entry_X7_entry : GoodIn wsL_entry wsX7_entry := goodIn_ca (goodIn_r _ [6, 7, 8, 9, 5, 10, 11, 12, 13, 14, 15, 16, 17, 18, 19, 20, 21, 22, 23, 24, 25, 26, 27, 28, 29, 30, 31, 32, 33, 34, 35] (by decide +kernel) (by decide +kernel)) (goodIn_sub (fun _ h => List.mem_cons_of_mem _ (List.mem_append_right _ h)) (by decide +kernel))
set_option maxRecDepth 20000 in
theorem gL_entry_X7_entry : GoodIn wsL_entry (wsV RL 19 RX7 yX7_entry wsX7_entry) := goodIn_app (goodIn_of _ (by decide +kernel)) ggL_entry_X7_entry
theorem dL_entry_0 : decode cL_entry 0 = .ok (.aload_n 0, 1) := by decide +kernel
theorem dL_entry_1 : decode cL_entry 1 = .ok (.iload_n 1, 1) := by decide +kernel
theorem dL_entry_2 : decode cL_entry 2 = .ok (.iload_n 2, 1) := by decide +kernel
theorem dL_entry_3 : decode cL_entry 3 = .ok (.iload_n 3, 1) := by decide +kernel
theorem dL_entry_4 : decode cL_entry 4 = .ok (.iload 4, 2) := by decide +kernel
theorem dL_entry_6 : decode cL_entry 6 = .ok (.iload 5, 2) := by decide +kernel
theorem dL_entry_8 : decode cL_entry 8 = .ok (.invokevirtual 19, 3) := by decide +kernel
theorem dL_entry_11 : decode cL_entry 11 = .ok (.goto 7, 3) := by decide +kernel
theorem dL_entry_14 : decode cL_entry 14 = .ok (.astore 6, 2) := by decide +kernel
theorem dL_entry_16 : decode cL_entry 16 = .ok (.iconst 1, 1) := by decide +kernel
theorem dL_entry_17 : decode cL_entry 17 = .ok (.ireturn, 1) := by decide +kernel
theorem dL_entry_18 : decode cL_entry 18 = .ok (.iconst 0, 1) := by decide +kernel
theorem dL_entry_19 : decode cL_entry 19 = .ok (.ireturn, 1) := by decide +kernel
set_option maxRecDepth 20000 in
theorem ggL_hold_X7_hold : GoodIn wsL_hold wsX7_hold := goodIn_ca (goodIn_r _ [6, 7, 8, 9, 5, 10, 11, 12, 13, 14, 15, 16, 17, 18, 19, 20, 21] (by decide +kernel) (by decide +kernel)) (goodIn_sub (fun _ h => List.mem_cons_of_mem _ (List.mem_append_right _ h)) (by decide +kernel))
set_option maxRecDepth 20000 in
theorem gL_hold_X7_hold : GoodIn wsL_hold (wsV RL 22 RX7 yX7_hold wsX7_hold) := goodIn_app (goodIn_of _ (by decide +kernel)) ggL_hold_X7_hold
theorem dL_hold_0 : decode cL_hold 0 = .ok (.aload_n 0, 1) := by decide +kernel
theorem dL_hold_1 : decode cL_hold 1 = .ok (.iload_n 1, 1) := by decide +kernel
theorem dL_hold_2 : decode cL_hold 2 = .ok (.iload_n 2, 1) := by decide +kernel
theorem dL_hold_3 : decode cL_hold 3 = .ok (.invokevirtual 22, 3) := by decide +kernel
theorem dL_hold_6 : decode cL_hold 6 = .ok (.goto 6, 3) := by decide +kernel
theorem dL_hold_9 : decode cL_hold 9 = .ok (.astore_n 3, 1) := by decide +kernel
theorem dL_hold_10 : decode cL_hold 10 = .ok (.iconst 1, 1) := by decide +kernel
theorem dL_hold_11 : decode cL_hold 11 = .ok (.ireturn, 1) := by decide +kernel
theorem dL_hold_12 : decode cL_hold 12 = .ok (.iconst 0, 1) := by decide +kernel
theorem dL_hold_13 : decode cL_hold 13 = .ok (.ireturn, 1) := by decide +kernel
set_option maxRecDepth 20000 in
theorem ggL_bit_X7_bit : GoodIn wsL_bit wsX7_bit := goodIn_ca (goodIn_r _ [6, 7, 8, 9, 5, 10, 11, 12, 13, 14, 15, 16, 17, 18, 19, 20, 21, 22, 23, 24, 25, 26, 27, 28, 29, 30, 31, 32] (by decide +kernel) (by decide +kernel)) (goodIn_sub (fun _ h => List.mem_cons_of_mem _ (List.mem_append_right _ h)) (by decide +kernel))
set_option maxRecDepth 20000 in
theorem gL_bit_X7_bit : GoodIn wsL_bit (wsV RL 26 RX7 yX7_bit wsX7_bit) := goodIn_app (goodIn_of _ (by decide +kernel)) ggL_bit_X7_bit
theorem dL_bit_0 : decode cL_bit 0 = .ok (.aload_n 0, 1) := by decide +kernel
theorem dL_bit_1 : decode cL_bit 1 = .ok (.iload_n 1, 1) := by decide +kernel
theorem dL_bit_2 : decode cL_bit 2 = .ok (.iload_n 2, 1) := by decide +kernel
theorem dL_bit_3 : decode cL_bit 3 = .ok (.iload_n 3, 1) := by decide +kernel
theorem dL_bit_4 : decode cL_bit 4 = .ok (.invokevirtual 26, 3) := by decide +kernel
theorem dL_bit_7 : decode cL_bit 7 = .ok (.goto 7, 3) := by decide +kernel
theorem dL_bit_10 : decode cL_bit 10 = .ok (.astore 4, 2) := by decide +kernel
theorem dL_bit_12 : decode cL_bit 12 = .ok (.iconst 1, 1) := by decide +kernel
theorem dL_bit_13 : decode cL_bit 13 = .ok (.ireturn, 1) := by decide +kernel
theorem dL_bit_14 : decode cL_bit 14 = .ok (.iconst 0, 1) := by decide +kernel
theorem dL_bit_15 : decode cL_bit 15 = .ok (.ireturn, 1) := by decide +kernel
set_option maxRecDepth 20000 in
theorem ggL_tell_X7_tell : GoodIn wsL_tell wsX7_tell := goodIn_ca (goodIn_r _ [6, 7, 8, 9, 5, 10, 11, 12, 13, 14, 15, 16, 17, 18, 19, 20, 21, 22, 23, 24, 25, 26] (by decide +kernel) (by decide +kernel)) (goodIn_sub (fun _ h => List.mem_cons_of_mem _ (List.mem_append_right _ h)) (by decide +kernel))
set_option maxRecDepth 20000 in
theorem gL_tell_X7_tell : GoodIn wsL_tell (wsV RL 30 RX7 yX7_tell wsX7_tell) := goodIn_app (goodIn_of _ (by decide +kernel)) ggL_tell_X7_tell
theorem dL_tell_0 : decode cL_tell 0 = .ok (.aload_n 0, 1) := by decide +kernel
theorem dL_tell_1 : decode cL_tell 1 = .ok (.iload_n 1, 1) := by decide +kernel
theorem dL_tell_2 : decode cL_tell 2 = .ok (.iload_n 2, 1) := by decide +kernel
theorem dL_tell_3 : decode cL_tell 3 = .ok (.invokevirtual 30, 3) := by decide +kernel
theorem dL_tell_6 : decode cL_tell 6 = .ok (.goto 6, 3) := by decide +kernel
theorem dL_tell_9 : decode cL_tell 9 = .ok (.astore_n 3, 1) := by decide +kernel
theorem dL_tell_10 : decode cL_tell 10 = .ok (.iconst 1, 1) := by decide +kernel
theorem dL_tell_11 : decode cL_tell 11 = .ok (.ireturn, 1) := by decide +kernel
theorem dL_tell_12 : decode cL_tell 12 = .ok (.iconst 0, 1) := by decide +kernel
theorem dL_tell_13 : decode cL_tell 13 = .ok (.ireturn, 1) := by decide +kernel
set_option maxRecDepth 20000 in
theorem ggL_about_X7_about : GoodIn wsL_about wsX7_about := goodIn_ca (goodIn_r _ [6, 7, 8, 9, 5, 10, 11, 12, 13, 14, 15, 16, 17, 18, 19, 20, 21, 22, 23, 24, 25, 26, 27, 28, 29, 30, 31, 32, 33, 34, 35] (by decide +kernel) (by decide +kernel)) (goodIn_sub (fun _ h => List.mem_cons_of_mem _ (List.mem_append_right _ h)) (by decide +kernel))
set_option maxRecDepth 20000 in
theorem gL_about_X7_about : GoodIn wsL_about (wsV RL 34 RX7 yX7_about wsX7_about) := goodIn_app (goodIn_of _ (by decide +kernel)) ggL_about_X7_about
theorem dL_about_0 : decode cL_about 0 = .ok (.aload_n 3, 1) := by decide +kernel
theorem dL_about_1 : decode cL_about 1 = .ok (.iconst 0, 1) := by decide +kernel
theorem dL_about_2 : decode cL_about 2 = .ok (.aload_n 0, 1) := by decide +kernel
theorem dL_about_3 : decode cL_about 3 = .ok (.iload_n 1, 1) := by decide +kernel
theorem dL_about_4 : decode cL_about 4 = .ok (.iload_n 2, 1) := by decide +kernel
theorem dL_about_5 : decode cL_about 5 = .ok (.invokevirtual 34, 3) := by decide +kernel
theorem dL_about_8 : decode cL_about 8 = .ok (.i2l, 1) := by decide +kernel
theorem dL_about_9 : decode cL_about 9 = .ok (.lastore, 1) := by decide +kernel
theorem dL_about_10 : decode cL_about 10 = .ok (.goto 7, 3) := by decide +kernel
theorem dL_about_13 : decode cL_about 13 = .ok (.astore 4, 2) := by decide +kernel
theorem dL_about_15 : decode cL_about 15 = .ok (.iconst 1, 1) := by decide +kernel
theorem dL_about_16 : decode cL_about 16 = .ok (.ireturn, 1) := by decide +kernel
theorem dL_about_17 : decode cL_about 17 = .ok (.iconst 0, 1) := by decide +kernel
theorem dL_about_18 : decode cL_about 18 = .ok (.ireturn, 1) := by decide +kernel
set_option maxRecDepth 20000 in
theorem ggL_runOf_X7_runOf : GoodIn wsL_runOf wsX7_runOf := goodIn_ca (goodIn_r _ [6, 7, 8, 9, 5, 10, 11, 12, 13, 14, 15, 16, 17, 18, 19, 20, 21, 22, 23, 24, 25, 26, 27, 28, 29, 30, 31, 32, 33, 34, 35] (by decide +kernel) (by decide +kernel)) (goodIn_sub (fun _ h => List.mem_cons_of_mem _ (List.mem_append_right _ h)) (by decide +kernel))
set_option maxRecDepth 20000 in
theorem gL_runOf_X7_runOf : GoodIn wsL_runOf (wsV RL 38 RX7 yX7_runOf wsX7_runOf) := goodIn_app (goodIn_of _ (by decide +kernel)) ggL_runOf_X7_runOf
theorem dL_runOf_0 : decode cL_runOf 0 = .ok (.aload 4, 2) := by decide +kernel
theorem dL_runOf_2 : decode cL_runOf 2 = .ok (.iconst 0, 1) := by decide +kernel
theorem dL_runOf_3 : decode cL_runOf 3 = .ok (.aload_n 0, 1) := by decide +kernel
theorem dL_runOf_4 : decode cL_runOf 4 = .ok (.iload_n 1, 1) := by decide +kernel
theorem dL_runOf_5 : decode cL_runOf 5 = .ok (.iload_n 2, 1) := by decide +kernel
theorem dL_runOf_6 : decode cL_runOf 6 = .ok (.iload_n 3, 1) := by decide +kernel
theorem dL_runOf_7 : decode cL_runOf 7 = .ok (.invokevirtual 38, 3) := by decide +kernel
theorem dL_runOf_10 : decode cL_runOf 10 = .ok (.i2l, 1) := by decide +kernel
theorem dL_runOf_11 : decode cL_runOf 11 = .ok (.lastore, 1) := by decide +kernel
theorem dL_runOf_12 : decode cL_runOf 12 = .ok (.goto 7, 3) := by decide +kernel
theorem dL_runOf_15 : decode cL_runOf 15 = .ok (.astore 5, 2) := by decide +kernel
theorem dL_runOf_17 : decode cL_runOf 17 = .ok (.iconst 1, 1) := by decide +kernel
theorem dL_runOf_18 : decode cL_runOf 18 = .ok (.ireturn, 1) := by decide +kernel
theorem dL_runOf_19 : decode cL_runOf 19 = .ok (.iconst 0, 1) := by decide +kernel
theorem dL_runOf_20 : decode cL_runOf 20 = .ok (.ireturn, 1) := by decide +kernel
set_option maxRecDepth 20000 in
theorem ggL_entryOf_X7_entryOf : GoodIn wsL_entryOf wsX7_entryOf := goodIn_ca (goodIn_r _ [6, 7, 8, 9, 5, 10, 11, 12, 13, 14, 15, 16, 17, 18, 19, 20, 21, 22, 23, 24, 25, 26, 27, 28, 29, 30, 31, 32, 33, 34, 35] (by decide +kernel) (by decide +kernel)) (goodIn_sub (fun _ h => List.mem_cons_of_mem _ (List.mem_append_right _ h)) (by decide +kernel))
set_option maxRecDepth 20000 in
theorem gL_entryOf_X7_entryOf : GoodIn wsL_entryOf (wsV RL 42 RX7 yX7_entryOf wsX7_entryOf) := goodIn_app (goodIn_of _ (by decide +kernel)) ggL_entryOf_X7_entryOf
theorem dL_entryOf_0 : decode cL_entryOf 0 = .ok (.aload 4, 2) := by decide +kernel
theorem dL_entryOf_2 : decode cL_entryOf 2 = .ok (.iconst 0, 1) := by decide +kernel
theorem dL_entryOf_3 : decode cL_entryOf 3 = .ok (.aload_n 0, 1) := by decide +kernel
theorem dL_entryOf_4 : decode cL_entryOf 4 = .ok (.iload_n 1, 1) := by decide +kernel
theorem dL_entryOf_5 : decode cL_entryOf 5 = .ok (.iload_n 2, 1) := by decide +kernel
theorem dL_entryOf_6 : decode cL_entryOf 6 = .ok (.iload_n 3, 1) := by decide +kernel
theorem dL_entryOf_7 : decode cL_entryOf 7 = .ok (.invokevirtual 42, 3) := by decide +kernel
theorem dL_entryOf_10 : decode cL_entryOf 10 = .ok (.i2l, 1) := by decide +kernel
theorem dL_entryOf_11 : decode cL_entryOf 11 = .ok (.lastore, 1) := by decide +kernel
theorem dL_entryOf_12 : decode cL_entryOf 12 = .ok (.goto 7, 3) := by decide +kernel
theorem dL_entryOf_15 : decode cL_entryOf 15 = .ok (.astore 5, 2) := by decide +kernel
theorem dL_entryOf_17 : decode cL_entryOf 17 = .ok (.iconst 1, 1) := by decide +kernel
theorem dL_entryOf_18 : decode cL_entryOf 18 = .ok (.ireturn, 1) := by decide +kernel
theorem dL_entryOf_19 : decode cL_entryOf 19 = .ok (.iconst 0, 1) := by decide +kernel
theorem dL_entryOf_20 : decode cL_entryOf 20 = .ok (.ireturn, 1) := by decide +kernel
set_option maxRecDepth 20000 in
theorem ggL_isTaken_X7_isTaken : GoodIn wsL_isTaken wsX7_isTaken := goodIn_ca (goodIn_r _ [6, 7, 8, 9, 5, 10, 11, 12, 13, 14, 15, 16, 17, 18, 19, 20, 21, 22, 23, 24, 25, 26, 27, 28, 29, 30, 31, 32] (by decide +kernel) (by decide +kernel)) (goodIn_sub (fun _ h => List.mem_cons_of_mem _ (List.mem_append_right _ h)) (by decide +kernel))
set_option maxRecDepth 20000 in
theorem gL_isTaken_X7_isTaken : GoodIn wsL_isTaken (wsV RL 45 RX7 yX7_isTaken wsX7_isTaken) := goodIn_app (goodIn_of _ (by decide +kernel)) ggL_isTaken_X7_isTaken
theorem dL_isTaken_0 : decode cL_isTaken 0 = .ok (.aload_n 3, 1) := by decide +kernel
theorem dL_isTaken_1 : decode cL_isTaken 1 = .ok (.iconst 0, 1) := by decide +kernel
theorem dL_isTaken_2 : decode cL_isTaken 2 = .ok (.aload_n 0, 1) := by decide +kernel
theorem dL_isTaken_3 : decode cL_isTaken 3 = .ok (.iload_n 1, 1) := by decide +kernel
theorem dL_isTaken_4 : decode cL_isTaken 4 = .ok (.iload_n 2, 1) := by decide +kernel
theorem dL_isTaken_5 : decode cL_isTaken 5 = .ok (.invokevirtual 45, 3) := by decide +kernel
theorem dL_isTaken_8 : decode cL_isTaken 8 = .ok (.ifCond .eq 7, 3) := by decide +kernel
theorem dL_isTaken_11 : decode cL_isTaken 11 = .ok (.lconst 1, 1) := by decide +kernel
theorem dL_isTaken_12 : decode cL_isTaken 12 = .ok (.goto 4, 3) := by decide +kernel
theorem dL_isTaken_15 : decode cL_isTaken 15 = .ok (.lconst 0, 1) := by decide +kernel
theorem dL_isTaken_16 : decode cL_isTaken 16 = .ok (.lastore, 1) := by decide +kernel
theorem dL_isTaken_17 : decode cL_isTaken 17 = .ok (.goto 7, 3) := by decide +kernel
theorem dL_isTaken_20 : decode cL_isTaken 20 = .ok (.astore 4, 2) := by decide +kernel
theorem dL_isTaken_22 : decode cL_isTaken 22 = .ok (.iconst 1, 1) := by decide +kernel
theorem dL_isTaken_23 : decode cL_isTaken 23 = .ok (.ireturn, 1) := by decide +kernel
theorem dL_isTaken_24 : decode cL_isTaken 24 = .ok (.iconst 0, 1) := by decide +kernel
theorem dL_isTaken_25 : decode cL_isTaken 25 = .ok (.ireturn, 1) := by decide +kernel
set_option maxRecDepth 20000 in
theorem ggL_told_X7_told : GoodIn wsL_told wsX7_told := goodIn_ca (goodIn_r _ [6, 7, 8, 9, 5, 10, 11, 12, 13, 14, 15, 16, 17, 18, 19, 20, 21, 22, 23, 24, 25, 26] (by decide +kernel) (by decide +kernel)) (goodIn_sub (fun _ h => List.mem_cons_of_mem _ (List.mem_append_right _ h)) (by decide +kernel))
set_option maxRecDepth 20000 in
theorem gL_told_X7_told : GoodIn wsL_told (wsV RL 49 RX7 yX7_told wsX7_told) := goodIn_app (goodIn_of _ (by decide +kernel)) ggL_told_X7_told
theorem dL_told_0 : decode cL_told 0 = .ok (.aload_n 2, 1) := by decide +kernel
theorem dL_told_1 : decode cL_told 1 = .ok (.iconst 0, 1) := by decide +kernel
theorem dL_told_2 : decode cL_told 2 = .ok (.aload_n 0, 1) := by decide +kernel
theorem dL_told_3 : decode cL_told 3 = .ok (.iload_n 1, 1) := by decide +kernel
theorem dL_told_4 : decode cL_told 4 = .ok (.invokevirtual 49, 3) := by decide +kernel
theorem dL_told_7 : decode cL_told 7 = .ok (.i2l, 1) := by decide +kernel
theorem dL_told_8 : decode cL_told 8 = .ok (.lastore, 1) := by decide +kernel
theorem dL_told_9 : decode cL_told 9 = .ok (.goto 6, 3) := by decide +kernel
theorem dL_told_12 : decode cL_told 12 = .ok (.astore_n 3, 1) := by decide +kernel
theorem dL_told_13 : decode cL_told 13 = .ok (.iconst 1, 1) := by decide +kernel
theorem dL_told_14 : decode cL_told 14 = .ok (.ireturn, 1) := by decide +kernel
theorem dL_told_15 : decode cL_told 15 = .ok (.iconst 0, 1) := by decide +kernel
theorem dL_told_16 : decode cL_told 16 = .ok (.ireturn, 1) := by decide +kernel
set_option maxRecDepth 20000 in
theorem ggL_law_X7_init : GoodIn wsL_law wsX7_init := goodIn_r _ [10, 11, 12, 13, 14, 15, 16, 17, 18, 19, 20, 21, 22, 23, 24, 25, 26, 27, 28, 29, 30, 31, 32, 33, 34, 35, 36, 37, 38, 39, 40, 41, 42, 43, 44, 45, 46, 47, 48, 49, 50, 51, 52, 53, 54, 55, 56, 57, 58, 59, 60, 61, 62, 63, 64, 65, 66, 67, 68, 69, 70, 71, 72, 73, 74, 75, 76, 77, 78, 79, 80, 81, 82, 83, 84, 85, 86, 87, 88, 89, 90, 91, 92, 93, 649, 650, 633, 634, 635, 636, 637, 638, 651, 652, 653, 654, 655, 656, 657, 658, 659] (by decide +kernel) (by decide +kernel)
set_option maxRecDepth 20000 in
theorem gL_law_X7_init : GoodIn wsL_law (wsX7_init) := ggL_law_X7_init
set_option maxRecDepth 20000 in
theorem ggL_law_X8_init : GoodIn wsL_law wsX8_init := goodIn_r _ [96, 97, 12, 13, 40, 98, 99, 18, 100, 101, 102, 103, 104, 105, 106, 107, 108, 5, 109, 639, 640, 641, 642, 643, 644, 645, 646, 647, 648] (by decide +kernel) (by decide +kernel)
set_option maxRecDepth 20000 in
theorem gL_law_X8_init : GoodIn wsL_law (wsX8_init) := ggL_law_X8_init
set_option maxRecDepth 20000 in
theorem ggL_law_X7_clear : GoodIn wsL_law wsX7_clear := goodIn_r _ [113, 17, 19, 68, 69, 70, 16, 71, 72, 73, 74, 75, 41, 76, 77, 78, 79, 80, 81, 82, 83, 84, 85, 86, 87, 88, 89, 90, 91, 92, 93, 114, 115, 2, 116, 633, 634, 635, 636, 637, 638, 649, 650] (by decide +kernel) (by decide +kernel)
set_option maxRecDepth 20000 in
theorem gL_law_X7_clear : GoodIn wsL_law (wsV RL 57 RX7 yX7_clear wsX7_clear) := goodIn_app (goodIn_of _ (by decide +kernel)) ggL_law_X7_clear
set_option maxRecDepth 20000 in
theorem ggL_law_X8_clear : GoodIn wsL_law wsX8_clear := goodIn_r _ [120, 121, 106, 107, 108, 5, 109, 98, 100, 639, 640, 641, 642, 643, 644, 645, 646, 647, 648] (by decide +kernel) (by decide +kernel)
set_option maxRecDepth 20000 in
theorem gL_law_X8_clear : GoodIn wsL_law (wsV RL 60 RX8 yX8_clear wsX8_clear) := goodIn_app (goodIn_of _ (by decide +kernel)) ggL_law_X8_clear
set_option maxRecDepth 20000 in
theorem ggL_law_L_set : GoodIn wsL_law wsL_set := goodIn_ca (goodIn_r _ [125, 126, 127, 128, 129, 2, 130, 17, 131, 132, 133, 134, 135, 136, 137, 138, 139, 140, 141, 142, 77, 78, 16, 79, 41, 80, 81, 82, 633, 634, 635, 636, 637, 638, 649, 650] (by decide +kernel) (by decide +kernel)) (goodIn_sub (fun _ h => List.mem_append_right _ h) (by decide +kernel))
set_option maxRecDepth 20000 in
theorem gL_law_L_set : GoodIn wsL_law (va_wsS RL 61 yL_set wsL_set) := goodIn_app (goodIn_of _ (by decide +kernel)) ggL_law_L_set
set_option maxRecDepth 20000 in
theorem ggL_law_X8_set : GoodIn wsL_law wsX8_set := goodIn_r _ [146, 98, 147, 148, 5, 149, 150, 151, 152, 153, 121, 639, 640, 641, 642, 643, 644, 645, 646, 647, 648] (by decide +kernel) (by decide +kernel)
set_option maxRecDepth 20000 in
theorem gL_law_X8_set : GoodIn wsL_law (wsV RL 66 RX8 yX8_set wsX8_set) := goodIn_app (goodIn_of _ (by decide +kernel)) ggL_law_X8_set
set_option maxRecDepth 20000 in
theorem ggL_law_X8_thrown : GoodIn wsL_law wsX8_thrown := goodIn_r _ [157, 121, 639, 640, 641, 642, 643, 644, 645, 646, 647, 648] (by decide +kernel) (by decide +kernel)
set_option maxRecDepth 20000 in
theorem gL_law_X8_thrown : GoodIn wsL_law (wsV RL 67 RX8 yX8_thrown wsX8_thrown) := goodIn_app (goodIn_of _ (by decide +kernel)) ggL_law_X8_thrown
set_option maxRecDepth 20000 in
theorem ggL_law_L_run : GoodIn wsL_law wsL_run := goodIn_ca (goodIn_r _ [160, 126, 161, 162, 163, 2, 164, 17, 131, 132, 133, 134, 135, 136, 137, 138, 139, 140, 141, 165, 166, 167, 16, 168, 41, 169, 170, 171, 633, 634, 635, 636, 637, 638, 649, 650] (by decide +kernel) (by decide +kernel)) (goodIn_sub (fun _ h => List.mem_append_right _ h) (by decide +kernel))
set_option maxRecDepth 20000 in
theorem gL_law_L_run : GoodIn wsL_law (va_wsS RL 71 yL_run wsL_run) := goodIn_app (goodIn_of _ (by decide +kernel)) ggL_law_L_run
set_option maxRecDepth 20000 in
theorem ggL_law_X8_run : GoodIn wsL_law wsX8_run := goodIn_r _ [175, 147, 148, 5, 149, 150, 151, 152, 153, 121, 176, 177, 178, 179, 180, 181, 182, 98, 639, 640, 641, 642, 643, 644, 645, 646, 647, 648] (by decide +kernel) (by decide +kernel)
set_option maxRecDepth 20000 in
theorem gL_law_X8_run : GoodIn wsL_law (wsV RL 74 RX8 yX8_run wsX8_run) := goodIn_app (goodIn_of _ (by decide +kernel)) ggL_law_X8_run
set_option maxRecDepth 20000 in
theorem ggL_law_L_entry : GoodIn wsL_law wsL_entry := goodIn_ca (goodIn_r _ [185, 126, 186, 187, 188, 2, 189, 17, 131, 132, 133, 134, 135, 136, 137, 138, 139, 140, 141, 190, 191, 192, 16, 193, 41, 194, 195, 196, 633, 634, 635, 636, 637, 638, 649, 650] (by decide +kernel) (by decide +kernel)) (goodIn_sub (fun _ h => List.mem_append_right _ h) (by decide +kernel))
set_option maxRecDepth 20000 in
theorem gL_law_L_entry : GoodIn wsL_law (va_wsS RL 75 yL_entry wsL_entry) := goodIn_app (goodIn_of _ (by decide +kernel)) ggL_law_L_entry
set_option maxRecDepth 20000 in
theorem ggL_law_X8_entry : GoodIn wsL_law wsX8_entry := goodIn_r _ [200, 147, 148, 5, 149, 150, 151, 152, 153, 121, 201, 202, 203, 179, 180, 181, 182, 98, 639, 640, 641, 642, 643, 644, 645, 646, 647, 648] (by decide +kernel) (by decide +kernel)
set_option maxRecDepth 20000 in
theorem gL_law_X8_entry : GoodIn wsL_law (wsV RL 77 RX8 yX8_entry wsX8_entry) := goodIn_app (goodIn_of _ (by decide +kernel)) ggL_law_X8_entry
set_option maxRecDepth 20000 in
theorem ggL_law_L_hold : GoodIn wsL_law wsL_hold := goodIn_ca (goodIn_r _ [206, 126, 207, 208, 209, 2, 210, 19, 131, 132, 133, 134, 135, 136, 137, 138, 633, 634, 635, 636, 637, 638] (by decide +kernel) (by decide +kernel)) (goodIn_sub (fun _ h => List.mem_append_right _ h) (by decide +kernel))
set_option maxRecDepth 20000 in
theorem gL_law_L_hold : GoodIn wsL_law (va_wsS RL 78 yL_hold wsL_hold) := goodIn_app (goodIn_of _ (by decide +kernel)) ggL_law_L_hold
set_option maxRecDepth 20000 in
theorem ggL_law_X8_hold : GoodIn wsL_law wsX8_hold := goodIn_r _ [214, 100, 147, 148, 5, 149, 150, 151, 152, 153, 121, 639, 640, 641, 642, 643, 644, 645, 646, 647, 648] (by decide +kernel) (by decide +kernel)
set_option maxRecDepth 20000 in
theorem gL_law_X8_hold : GoodIn wsL_law (wsV RL 81 RX8 yX8_hold wsX8_hold) := goodIn_app (goodIn_of _ (by decide +kernel)) ggL_law_X8_hold
set_option maxRecDepth 20000 in
theorem ggL_law_L_bit : GoodIn wsL_law wsL_bit := goodIn_ca (goodIn_r _ [217, 126, 218, 219, 220, 2, 221, 17, 222, 223, 224, 134, 135, 136, 137, 138, 225, 84, 85, 16, 86, 41, 87, 88, 89, 633, 634, 635, 636, 637, 638, 649, 650] (by decide +kernel) (by decide +kernel)) (goodIn_sub (fun _ h => List.mem_append_right _ h) (by decide +kernel))
set_option maxRecDepth 20000 in
theorem gL_law_L_bit : GoodIn wsL_law (va_wsS RL 82 yL_bit wsL_bit) := goodIn_app (goodIn_of _ (by decide +kernel)) ggL_law_L_bit
set_option maxRecDepth 20000 in
theorem ggL_law_X8_bit : GoodIn wsL_law wsX8_bit := goodIn_r _ [229, 98, 230, 231, 5, 232, 147, 148, 149, 150, 151, 152, 153, 121, 639, 640, 641, 642, 643, 644, 645, 646, 647, 648] (by decide +kernel) (by decide +kernel)
set_option maxRecDepth 20000 in
theorem gL_law_X8_bit : GoodIn wsL_law (wsV RL 85 RX8 yX8_bit wsX8_bit) := goodIn_app (goodIn_of _ (by decide +kernel)) ggL_law_X8_bit
set_option maxRecDepth 20000 in
theorem ggL_law_L_tell : GoodIn wsL_law wsL_tell := goodIn_ca (goodIn_r _ [235, 126, 236, 237, 238, 2, 239, 17, 139, 140, 141, 134, 135, 240, 91, 92, 16, 93, 41, 633, 634, 635, 636, 637, 638, 649, 650] (by decide +kernel) (by decide +kernel)) (goodIn_sub (fun _ h => List.mem_append_right _ h) (by decide +kernel))
set_option maxRecDepth 20000 in
theorem gL_law_L_tell : GoodIn wsL_law (va_wsS RL 86 yL_tell wsL_tell) := goodIn_app (goodIn_of _ (by decide +kernel)) ggL_law_L_tell
set_option maxRecDepth 20000 in
theorem ggL_law_X8_tell : GoodIn wsL_law wsX8_tell := goodIn_r _ [244, 98, 147, 148, 5, 149, 150, 151, 152, 153, 121, 639, 640, 641, 642, 643, 644, 645, 646, 647, 648] (by decide +kernel) (by decide +kernel)
set_option maxRecDepth 20000 in
theorem gL_law_X8_tell : GoodIn wsL_law (wsV RL 89 RX8 yX8_tell wsX8_tell) := goodIn_app (goodIn_of _ (by decide +kernel)) ggL_law_X8_tell
set_option maxRecDepth 20000 in
theorem ggL_law_X7_check : GoodIn wsL_law wsX7_check := goodIn_r _ [248, 17, 23, 27, 35, 19, 31, 249, 250, 251, 16, 252, 41, 42, 253, 254, 255, 256, 257, 258, 259, 22, 260, 47, 115, 2, 116, 261, 262, 263, 264, 80, 81, 82, 265, 266, 267, 268, 269, 77, 78, 79, 270, 271, 272, 273, 169, 170, 171, 72, 73, 74, 75, 274, 275, 276, 277, 194, 195, 196, 278, 279, 280, 281, 282, 283, 284, 285, 286, 287, 288, 289, 290, 291, 292, 293, 294, 295, 296, 297, 298, 299, 300, 301, 302, 303, 304, 305, 306, 307, 308, 309, 310, 311, 312, 313, 314, 315, 316, 317, 318, 319, 320, 321, 166, 167, 168, 322, 323, 324, 325, 326, 327, 328, 329, 330, 331, 332, 26, 333, 52, 334, 335, 336, 337, 338, 339, 340, 341, 342, 343, 344, 345, 346, 347, 348, 349, 350, 351, 352, 353, 354, 137, 138, 355, 191, 192, 193, 356, 357, 358, 359, 34, 360, 64, 65, 67, 361, 362, 363, 364, 365, 366, 367, 368, 369, 370, 371, 372, 373, 374, 375, 376, 66, 377, 378, 379, 30, 380, 57, 381, 382, 383, 384, 59, 58, 385, 386, 387, 388, 389, 390, 391, 392, 393, 394, 395, 396, 397, 398, 399, 400, 401, 402, 403, 404, 405, 406, 407, 408, 409, 410, 411, 412, 413, 414, 415, 416, 417, 418, 419, 420, 421, 422, 423, 424, 425, 426, 427, 428, 429, 430, 431, 432, 433, 434, 435, 436, 437, 438, 439, 91, 92, 93, 440, 441, 442, 443, 444, 445, 446, 447, 448, 84, 85, 86, 87, 88, 89, 449, 450, 451, 452, 453, 454, 455, 456, 457, 458, 459, 460, 461, 633, 634, 635, 636, 637, 638, 649, 650, 651, 652, 656, 657, 658, 659, 653, 654, 655] (by decide +kernel) (by decide +kernel)
set_option maxRecDepth 20000 in
theorem gL_law_X7_check : GoodIn wsL_law (wsV RL 90 RX7 yX7_check wsX7_check) := goodIn_app (goodIn_of _ (by decide +kernel)) ggL_law_X7_check
set_option maxRecDepth 20000 in
theorem ggL_law_X8_check : GoodIn wsL_law wsX8_check := goodIn_r _ [465, 121, 99, 98, 466, 467, 468, 5, 469, 470, 471, 472, 473, 101, 474, 475, 476, 477, 478, 479, 480, 481, 482, 483, 484, 485, 486, 487, 488, 489, 490, 176, 177, 178, 491, 492, 493, 494, 495, 496, 497, 498, 499, 500, 501, 179, 180, 181, 182, 502, 503, 504, 505, 102, 506, 507, 508, 509, 201, 202, 203, 147, 148, 149, 510, 511, 512, 513, 514, 515, 516, 517, 103, 100, 105, 518, 519, 520, 521, 522, 104, 523, 524, 525, 526, 527, 528, 529, 530, 531, 532, 533, 534, 535, 536, 537, 538, 539, 540, 541, 542, 543, 544, 545, 546, 547, 548, 549, 550, 551, 552, 553, 554, 639, 640, 641, 642, 643, 644, 645, 646, 647, 648] (by decide +kernel) (by decide +kernel)
set_option maxRecDepth 20000 in
theorem gL_law_X8_check : GoodIn wsL_law (wsV RL 93 RX8 yX8_check wsX8_check) := goodIn_app (goodIn_of _ (by decide +kernel)) ggL_law_X8_check
set_option maxRecDepth 20000 in
theorem ggL_law_L_about : GoodIn wsL_law wsL_about := goodIn_ca (goodIn_r _ [557, 126, 558, 559, 560, 2, 561, 17, 131, 132, 133, 134, 135, 136, 137, 138, 139, 140, 141, 562, 262, 263, 16, 264, 41, 80, 81, 82, 633, 634, 635, 636, 637, 638, 649, 650] (by decide +kernel) (by decide +kernel)) (goodIn_sub (fun _ h => List.mem_append_right _ h) (by decide +kernel))
set_option maxRecDepth 20000 in
theorem gL_law_L_about : GoodIn wsL_law (va_wsS RL 94 yL_about wsL_about) := goodIn_app (goodIn_of _ (by decide +kernel)) ggL_law_L_about
set_option maxRecDepth 20000 in
theorem ggL_law_X8_about : GoodIn wsL_law wsX8_about := goodIn_r _ [566, 98, 147, 148, 5, 149, 150, 151, 152, 153, 121, 639, 640, 641, 642, 643, 644, 645, 646, 647, 648] (by decide +kernel) (by decide +kernel)
set_option maxRecDepth 20000 in
theorem gL_law_X8_about : GoodIn wsL_law (wsV RL 97 RX8 yX8_about wsX8_about) := goodIn_app (goodIn_of _ (by decide +kernel)) ggL_law_X8_about
set_option maxRecDepth 20000 in
theorem ggL_law_L_runOf : GoodIn wsL_law wsL_runOf := goodIn_ca (goodIn_r _ [569, 126, 570, 571, 572, 2, 573, 17, 131, 132, 133, 134, 135, 136, 137, 138, 139, 140, 141, 574, 300, 301, 16, 302, 41, 169, 170, 171, 633, 634, 635, 636, 637, 638, 649, 650] (by decide +kernel) (by decide +kernel)) (goodIn_sub (fun _ h => List.mem_append_right _ h) (by decide +kernel))
set_option maxRecDepth 20000 in
theorem gL_law_L_runOf : GoodIn wsL_law (va_wsS RL 98 yL_runOf wsL_runOf) := goodIn_app (goodIn_of _ (by decide +kernel)) ggL_law_L_runOf
set_option maxRecDepth 20000 in
theorem ggL_law_X8_runOf : GoodIn wsL_law wsX8_runOf := goodIn_r _ [578, 98, 147, 148, 5, 149, 150, 151, 152, 153, 121, 176, 177, 178, 639, 640, 641, 642, 643, 644, 645, 646, 647, 648] (by decide +kernel) (by decide +kernel)
set_option maxRecDepth 20000 in
theorem gL_law_X8_runOf : GoodIn wsL_law (wsV RL 101 RX8 yX8_runOf wsX8_runOf) := goodIn_app (goodIn_of _ (by decide +kernel)) ggL_law_X8_runOf
set_option maxRecDepth 20000 in
theorem ggL_law_L_entryOf : GoodIn wsL_law wsL_entryOf := goodIn_ca (goodIn_r _ [581, 126, 582, 583, 584, 2, 585, 17, 131, 132, 133, 134, 135, 136, 137, 138, 139, 140, 141, 586, 340, 341, 16, 342, 41, 194, 195, 196, 633, 634, 635, 636, 637, 638, 649, 650] (by decide +kernel) (by decide +kernel)) (goodIn_sub (fun _ h => List.mem_append_right _ h) (by decide +kernel))
set_option maxRecDepth 20000 in
theorem gL_law_L_entryOf : GoodIn wsL_law (va_wsS RL 102 yL_entryOf wsL_entryOf) := goodIn_app (goodIn_of _ (by decide +kernel)) ggL_law_L_entryOf
set_option maxRecDepth 20000 in
theorem ggL_law_X8_entryOf : GoodIn wsL_law wsX8_entryOf := goodIn_r _ [590, 98, 147, 148, 5, 149, 150, 151, 152, 153, 121, 201, 202, 203, 639, 640, 641, 642, 643, 644, 645, 646, 647, 648] (by decide +kernel) (by decide +kernel)
set_option maxRecDepth 20000 in
theorem gL_law_X8_entryOf : GoodIn wsL_law (wsV RL 104 RX8 yX8_entryOf wsX8_entryOf) := goodIn_app (goodIn_of _ (by decide +kernel)) ggL_law_X8_entryOf
set_option maxRecDepth 20000 in
theorem ggL_law_L_isTaken : GoodIn wsL_law wsL_isTaken := goodIn_ca (goodIn_r _ [593, 126, 594, 595, 596, 2, 597, 17, 222, 223, 224, 134, 135, 136, 137, 138, 598, 458, 459, 16, 460, 41, 87, 88, 89, 633, 634, 635, 636, 637, 638, 649, 650] (by decide +kernel) (by decide +kernel)) (goodIn_sub (fun _ h => List.mem_append_right _ h) (by decide +kernel))
set_option maxRecDepth 20000 in
theorem gL_law_L_isTaken : GoodIn wsL_law (va_wsS RL 105 yL_isTaken wsL_isTaken) := goodIn_app (goodIn_of _ (by decide +kernel)) ggL_law_L_isTaken
set_option maxRecDepth 20000 in
theorem ggL_law_X8_isTaken : GoodIn wsL_law wsX8_isTaken := goodIn_r _ [602, 98, 230, 231, 5, 232, 147, 148, 149, 150, 151, 152, 153, 121, 639, 640, 641, 642, 643, 644, 645, 646, 647, 648] (by decide +kernel) (by decide +kernel)
set_option maxRecDepth 20000 in
theorem gL_law_X8_isTaken : GoodIn wsL_law (wsV RL 107 RX8 yX8_isTaken wsX8_isTaken) := goodIn_app (goodIn_of _ (by decide +kernel)) ggL_law_X8_isTaken
set_option maxRecDepth 20000 in
theorem ggL_law_L_told : GoodIn wsL_law wsL_told := goodIn_ca (goodIn_r _ [605, 126, 606, 607, 608, 2, 609, 17, 139, 140, 141, 134, 135, 610, 362, 363, 16, 364, 41, 633, 634, 635, 636, 637, 638, 649, 650] (by decide +kernel) (by decide +kernel)) (goodIn_sub (fun _ h => List.mem_append_right _ h) (by decide +kernel))
set_option maxRecDepth 20000 in
theorem gL_law_L_told : GoodIn wsL_law (va_wsS RL 108 yL_told wsL_told) := goodIn_app (goodIn_of _ (by decide +kernel)) ggL_law_L_told
set_option maxRecDepth 20000 in
theorem ggL_law_X8_told : GoodIn wsL_law wsX8_told := goodIn_r _ [614, 98, 147, 148, 5, 149, 150, 151, 152, 153, 121, 639, 640, 641, 642, 643, 644, 645, 646, 647, 648] (by decide +kernel) (by decide +kernel)
set_option maxRecDepth 20000 in
theorem gL_law_X8_told : GoodIn wsL_law (wsV RL 111 RX8 yX8_told wsX8_told) := goodIn_app (goodIn_of _ (by decide +kernel)) ggL_law_X8_told
set_option maxRecDepth 20000 in
theorem ggL_law_X7_find : GoodIn wsL_law wsX7_find := goodIn_r _ [618, 619, 620, 621, 2, 622, 17, 562, 262, 263, 16, 264, 41, 80, 81, 82, 623, 347, 348, 349, 350, 340, 341, 342, 194, 195, 196, 586, 136, 137, 138, 633, 634, 635, 636, 637, 638, 649, 650] (by decide +kernel) (by decide +kernel)
set_option maxRecDepth 20000 in
theorem gL_law_X7_find : GoodIn wsL_law (wsV RL 114 RX7 yX7_find wsX7_find) := goodIn_app (goodIn_of _ (by decide +kernel)) ggL_law_X7_find
set_option maxRecDepth 20000 in
theorem ggL_law_X8_find : GoodIn wsL_law wsX8_find := goodIn_r _ [627, 121, 628, 506, 507, 508, 5, 509, 98, 629, 630, 631, 632, 201, 202, 203, 147, 148, 149, 639, 640, 641, 642, 643, 644, 645, 646, 647, 648] (by decide +kernel) (by decide +kernel)
set_option maxRecDepth 20000 in
theorem gL_law_X8_find : GoodIn wsL_law (wsV RL 118 RX8 yX8_find wsX8_find) := goodIn_app (goodIn_of _ (by decide +kernel)) ggL_law_X8_find
theorem dL_law_0 : decode cL_law 0 = .ok (.new 8, 3) := by decide +kernel
theorem dL_law_3 : decode cL_law 3 = .ok (.dup, 1) := by decide +kernel
theorem dL_law_4 : decode cL_law 4 = .ok (.invokespecial 53, 3) := by decide +kernel
theorem dL_law_7 : decode cL_law 7 = .ok (.astore_n 1, 1) := by decide +kernel
theorem dL_law_8 : decode cL_law 8 = .ok (.new 54, 3) := by decide +kernel
theorem dL_law_11 : decode cL_law 11 = .ok (.dup, 1) := by decide +kernel
theorem dL_law_12 : decode cL_law 12 = .ok (.invokespecial 56, 3) := by decide +kernel
theorem dL_law_15 : decode cL_law 15 = .ok (.astore_n 2, 1) := by decide +kernel
theorem dL_law_16 : decode cL_law 16 = .ok (.iconst 1, 1) := by decide +kernel
theorem dL_law_17 : decode cL_law 17 = .ok (.newarray .long, 2) := by decide +kernel
theorem dL_law_19 : decode cL_law 19 = .ok (.astore_n 3, 1) := by decide +kernel
theorem dL_law_20 : decode cL_law 20 = .ok (.iconst 0, 1) := by decide +kernel
theorem dL_law_21 : decode cL_law 21 = .ok (.istore 4, 2) := by decide +kernel
theorem dL_law_23 : decode cL_law 23 = .ok (.iload 4, 2) := by decide +kernel
theorem dL_law_25 : decode cL_law 25 = .ok (.aload_n 0, 1) := by decide +kernel
theorem dL_law_26 : decode cL_law 26 = .ok (.arraylength, 1) := by decide +kernel
theorem dL_law_27 : decode cL_law 27 = .ok (.bipush 6, 2) := by decide +kernel
theorem dL_law_29 : decode cL_law 29 = .ok (.isub, 1) := by decide +kernel
theorem dL_law_30 : decode cL_law 30 = .ok (.if_icmp .gt 944, 3) := by decide +kernel
theorem dL_law_33 : decode cL_law 33 = .ok (.aload_n 0, 1) := by decide +kernel
theorem dL_law_34 : decode cL_law 34 = .ok (.iload 4, 2) := by decide +kernel
theorem dL_law_36 : decode cL_law 36 = .ok (.iaload, 1) := by decide +kernel
theorem dL_law_37 : decode cL_law 37 = .ok (.bipush 15, 2) := by decide +kernel
theorem dL_law_39 : decode cL_law 39 = .ok (.iand, 1) := by decide +kernel
theorem dL_law_40 : decode cL_law 40 = .ok (.tableswitch 928 0 13 #[72, 83, 143, 227, 311, 375, 451, 499, 512, 580, 660, 740, 815, 871], 72) := by decide +kernel
theorem dL_law_112 : decode cL_law 112 = .ok (.aload_n 1, 1) := by decide +kernel
theorem dL_law_113 : decode cL_law 113 = .ok (.invokevirtual 57, 3) := by decide +kernel
theorem dL_law_116 : decode cL_law 116 = .ok (.aload_n 2, 1) := by decide +kernel
theorem dL_law_117 : decode cL_law 117 = .ok (.invokevirtual 60, 3) := by decide +kernel
theorem dL_law_120 : decode cL_law 120 = .ok (.goto 848, 3) := by decide +kernel
theorem dL_law_123 : decode cL_law 123 = .ok (.aload_n 1, 1) := by decide +kernel
theorem dL_law_124 : decode cL_law 124 = .ok (.aload_n 0, 1) := by decide +kernel
theorem dL_law_125 : decode cL_law 125 = .ok (.iload 4, 2) := by decide +kernel
theorem dL_law_127 : decode cL_law 127 = .ok (.iconst 1, 1) := by decide +kernel
theorem dL_law_128 : decode cL_law 128 = .ok (.iadd, 1) := by decide +kernel
theorem dL_law_129 : decode cL_law 129 = .ok (.iaload, 1) := by decide +kernel
theorem dL_law_130 : decode cL_law 130 = .ok (.aload_n 0, 1) := by decide +kernel
theorem dL_law_131 : decode cL_law 131 = .ok (.iload 4, 2) := by decide +kernel
theorem dL_law_133 : decode cL_law 133 = .ok (.iconst 2, 1) := by decide +kernel
theorem dL_law_134 : decode cL_law 134 = .ok (.iadd, 1) := by decide +kernel
theorem dL_law_135 : decode cL_law 135 = .ok (.iaload, 1) := by decide +kernel
theorem dL_law_136 : decode cL_law 136 = .ok (.aload_n 0, 1) := by decide +kernel
theorem dL_law_137 : decode cL_law 137 = .ok (.iload 4, 2) := by decide +kernel
theorem dL_law_139 : decode cL_law 139 = .ok (.iconst 3, 1) := by decide +kernel
theorem dL_law_140 : decode cL_law 140 = .ok (.iadd, 1) := by decide +kernel
theorem dL_law_141 : decode cL_law 141 = .ok (.iaload, 1) := by decide +kernel
theorem dL_law_142 : decode cL_law 142 = .ok (.invokestatic 61, 3) := by decide +kernel
theorem dL_law_145 : decode cL_law 145 = .ok (.istore 5, 2) := by decide +kernel
theorem dL_law_147 : decode cL_law 147 = .ok (.aload_n 2, 1) := by decide +kernel
theorem dL_law_148 : decode cL_law 148 = .ok (.aload_n 0, 1) := by decide +kernel
theorem dL_law_149 : decode cL_law 149 = .ok (.iload 4, 2) := by decide +kernel
theorem dL_law_151 : decode cL_law 151 = .ok (.iconst 1, 1) := by decide +kernel
theorem dL_law_152 : decode cL_law 152 = .ok (.iadd, 1) := by decide +kernel
theorem dL_law_153 : decode cL_law 153 = .ok (.iaload, 1) := by decide +kernel
theorem dL_law_154 : decode cL_law 154 = .ok (.aload_n 0, 1) := by decide +kernel
theorem dL_law_155 : decode cL_law 155 = .ok (.iload 4, 2) := by decide +kernel
theorem dL_law_157 : decode cL_law 157 = .ok (.iconst 2, 1) := by decide +kernel
theorem dL_law_158 : decode cL_law 158 = .ok (.iadd, 1) := by decide +kernel
theorem dL_law_159 : decode cL_law 159 = .ok (.iaload, 1) := by decide +kernel
theorem dL_law_160 : decode cL_law 160 = .ok (.aload_n 0, 1) := by decide +kernel
theorem dL_law_161 : decode cL_law 161 = .ok (.iload 4, 2) := by decide +kernel
theorem dL_law_163 : decode cL_law 163 = .ok (.iconst 3, 1) := by decide +kernel
theorem dL_law_164 : decode cL_law 164 = .ok (.iadd, 1) := by decide +kernel
theorem dL_law_165 : decode cL_law 165 = .ok (.iaload, 1) := by decide +kernel
theorem dL_law_166 : decode cL_law 166 = .ok (.invokevirtual 66, 3) := by decide +kernel
theorem dL_law_169 : decode cL_law 169 = .ok (.aload_n 2, 1) := by decide +kernel
theorem dL_law_170 : decode cL_law 170 = .ok (.invokevirtual 67, 3) := by decide +kernel
theorem dL_law_173 : decode cL_law 173 = .ok (.iload 5, 2) := by decide +kernel
theorem dL_law_175 : decode cL_law 175 = .ok (.if_icmp .eq 5, 3) := by decide +kernel
theorem dL_law_178 : decode cL_law 178 = .ok (.iconst 0, 1) := by decide +kernel
theorem dL_law_179 : decode cL_law 179 = .ok (.ireturn, 1) := by decide +kernel
theorem dL_law_180 : decode cL_law 180 = .ok (.goto 788, 3) := by decide +kernel
theorem dL_law_183 : decode cL_law 183 = .ok (.aload_n 1, 1) := by decide +kernel
theorem dL_law_184 : decode cL_law 184 = .ok (.aload_n 0, 1) := by decide +kernel
theorem dL_law_185 : decode cL_law 185 = .ok (.iload 4, 2) := by decide +kernel
theorem dL_law_187 : decode cL_law 187 = .ok (.iconst 1, 1) := by decide +kernel
theorem dL_law_188 : decode cL_law 188 = .ok (.iadd, 1) := by decide +kernel
theorem dL_law_189 : decode cL_law 189 = .ok (.iaload, 1) := by decide +kernel
theorem dL_law_190 : decode cL_law 190 = .ok (.aload_n 0, 1) := by decide +kernel
theorem dL_law_191 : decode cL_law 191 = .ok (.iload 4, 2) := by decide +kernel
theorem dL_law_193 : decode cL_law 193 = .ok (.iconst 2, 1) := by decide +kernel
theorem dL_law_194 : decode cL_law 194 = .ok (.iadd, 1) := by decide +kernel
theorem dL_law_195 : decode cL_law 195 = .ok (.iaload, 1) := by decide +kernel
theorem dL_law_196 : decode cL_law 196 = .ok (.aload_n 0, 1) := by decide +kernel
theorem dL_law_197 : decode cL_law 197 = .ok (.iload 4, 2) := by decide +kernel
theorem dL_law_199 : decode cL_law 199 = .ok (.iconst 3, 1) := by decide +kernel
theorem dL_law_200 : decode cL_law 200 = .ok (.iadd, 1) := by decide +kernel
theorem dL_law_201 : decode cL_law 201 = .ok (.iaload, 1) := by decide +kernel
theorem dL_law_202 : decode cL_law 202 = .ok (.aload_n 0, 1) := by decide +kernel
theorem dL_law_203 : decode cL_law 203 = .ok (.iload 4, 2) := by decide +kernel
theorem dL_law_205 : decode cL_law 205 = .ok (.iconst 4, 1) := by decide +kernel
theorem dL_law_206 : decode cL_law 206 = .ok (.iadd, 1) := by decide +kernel
theorem dL_law_207 : decode cL_law 207 = .ok (.iaload, 1) := by decide +kernel
theorem dL_law_208 : decode cL_law 208 = .ok (.aload_n 0, 1) := by decide +kernel
theorem dL_law_209 : decode cL_law 209 = .ok (.iload 4, 2) := by decide +kernel
theorem dL_law_211 : decode cL_law 211 = .ok (.iconst 5, 1) := by decide +kernel
theorem dL_law_212 : decode cL_law 212 = .ok (.iadd, 1) := by decide +kernel
theorem dL_law_213 : decode cL_law 213 = .ok (.iaload, 1) := by decide +kernel
theorem dL_law_214 : decode cL_law 214 = .ok (.invokestatic 71, 3) := by decide +kernel
theorem dL_law_217 : decode cL_law 217 = .ok (.istore 5, 2) := by decide +kernel
theorem dL_law_219 : decode cL_law 219 = .ok (.aload_n 2, 1) := by decide +kernel
theorem dL_law_220 : decode cL_law 220 = .ok (.aload_n 0, 1) := by decide +kernel
theorem dL_law_221 : decode cL_law 221 = .ok (.iload 4, 2) := by decide +kernel
theorem dL_law_223 : decode cL_law 223 = .ok (.iconst 1, 1) := by decide +kernel
theorem dL_law_224 : decode cL_law 224 = .ok (.iadd, 1) := by decide +kernel
theorem dL_law_225 : decode cL_law 225 = .ok (.iaload, 1) := by decide +kernel
theorem dL_law_226 : decode cL_law 226 = .ok (.aload_n 0, 1) := by decide +kernel
theorem dL_law_227 : decode cL_law 227 = .ok (.iload 4, 2) := by decide +kernel
theorem dL_law_229 : decode cL_law 229 = .ok (.iconst 2, 1) := by decide +kernel
theorem dL_law_230 : decode cL_law 230 = .ok (.iadd, 1) := by decide +kernel
theorem dL_law_231 : decode cL_law 231 = .ok (.iaload, 1) := by decide +kernel
theorem dL_law_232 : decode cL_law 232 = .ok (.aload_n 0, 1) := by decide +kernel
theorem dL_law_233 : decode cL_law 233 = .ok (.iload 4, 2) := by decide +kernel
theorem dL_law_235 : decode cL_law 235 = .ok (.iconst 3, 1) := by decide +kernel
theorem dL_law_236 : decode cL_law 236 = .ok (.iadd, 1) := by decide +kernel
theorem dL_law_237 : decode cL_law 237 = .ok (.iaload, 1) := by decide +kernel
theorem dL_law_238 : decode cL_law 238 = .ok (.aload_n 0, 1) := by decide +kernel
theorem dL_law_239 : decode cL_law 239 = .ok (.iload 4, 2) := by decide +kernel
theorem dL_law_241 : decode cL_law 241 = .ok (.iconst 4, 1) := by decide +kernel
theorem dL_law_242 : decode cL_law 242 = .ok (.iadd, 1) := by decide +kernel
theorem dL_law_243 : decode cL_law 243 = .ok (.iaload, 1) := by decide +kernel
theorem dL_law_244 : decode cL_law 244 = .ok (.aload_n 0, 1) := by decide +kernel
theorem dL_law_245 : decode cL_law 245 = .ok (.iload 4, 2) := by decide +kernel
theorem dL_law_247 : decode cL_law 247 = .ok (.iconst 5, 1) := by decide +kernel
theorem dL_law_248 : decode cL_law 248 = .ok (.iadd, 1) := by decide +kernel
theorem dL_law_249 : decode cL_law 249 = .ok (.iaload, 1) := by decide +kernel
theorem dL_law_250 : decode cL_law 250 = .ok (.invokevirtual 74, 3) := by decide +kernel
theorem dL_law_253 : decode cL_law 253 = .ok (.aload_n 2, 1) := by decide +kernel
theorem dL_law_254 : decode cL_law 254 = .ok (.invokevirtual 67, 3) := by decide +kernel
theorem dL_law_257 : decode cL_law 257 = .ok (.iload 5, 2) := by decide +kernel
theorem dL_law_259 : decode cL_law 259 = .ok (.if_icmp .eq 5, 3) := by decide +kernel
theorem dL_law_262 : decode cL_law 262 = .ok (.iconst 0, 1) := by decide +kernel
theorem dL_law_263 : decode cL_law 263 = .ok (.ireturn, 1) := by decide +kernel
theorem dL_law_264 : decode cL_law 264 = .ok (.goto 704, 3) := by decide +kernel
theorem dL_law_267 : decode cL_law 267 = .ok (.aload_n 1, 1) := by decide +kernel
theorem dL_law_268 : decode cL_law 268 = .ok (.aload_n 0, 1) := by decide +kernel
theorem dL_law_269 : decode cL_law 269 = .ok (.iload 4, 2) := by decide +kernel
theorem dL_law_271 : decode cL_law 271 = .ok (.iconst 1, 1) := by decide +kernel
theorem dL_law_272 : decode cL_law 272 = .ok (.iadd, 1) := by decide +kernel
theorem dL_law_273 : decode cL_law 273 = .ok (.iaload, 1) := by decide +kernel
theorem dL_law_274 : decode cL_law 274 = .ok (.aload_n 0, 1) := by decide +kernel
theorem dL_law_275 : decode cL_law 275 = .ok (.iload 4, 2) := by decide +kernel
theorem dL_law_277 : decode cL_law 277 = .ok (.iconst 2, 1) := by decide +kernel
theorem dL_law_278 : decode cL_law 278 = .ok (.iadd, 1) := by decide +kernel
theorem dL_law_279 : decode cL_law 279 = .ok (.iaload, 1) := by decide +kernel
theorem dL_law_280 : decode cL_law 280 = .ok (.aload_n 0, 1) := by decide +kernel
theorem dL_law_281 : decode cL_law 281 = .ok (.iload 4, 2) := by decide +kernel
theorem dL_law_283 : decode cL_law 283 = .ok (.iconst 3, 1) := by decide +kernel
theorem dL_law_284 : decode cL_law 284 = .ok (.iadd, 1) := by decide +kernel
theorem dL_law_285 : decode cL_law 285 = .ok (.iaload, 1) := by decide +kernel
theorem dL_law_286 : decode cL_law 286 = .ok (.aload_n 0, 1) := by decide +kernel
theorem dL_law_287 : decode cL_law 287 = .ok (.iload 4, 2) := by decide +kernel
theorem dL_law_289 : decode cL_law 289 = .ok (.iconst 4, 1) := by decide +kernel
theorem dL_law_290 : decode cL_law 290 = .ok (.iadd, 1) := by decide +kernel
theorem dL_law_291 : decode cL_law 291 = .ok (.iaload, 1) := by decide +kernel
theorem dL_law_292 : decode cL_law 292 = .ok (.aload_n 0, 1) := by decide +kernel
theorem dL_law_293 : decode cL_law 293 = .ok (.iload 4, 2) := by decide +kernel
theorem dL_law_295 : decode cL_law 295 = .ok (.iconst 5, 1) := by decide +kernel
theorem dL_law_296 : decode cL_law 296 = .ok (.iadd, 1) := by decide +kernel
theorem dL_law_297 : decode cL_law 297 = .ok (.iaload, 1) := by decide +kernel
theorem dL_law_298 : decode cL_law 298 = .ok (.invokestatic 75, 3) := by decide +kernel
theorem dL_law_301 : decode cL_law 301 = .ok (.istore 5, 2) := by decide +kernel
theorem dL_law_303 : decode cL_law 303 = .ok (.aload_n 2, 1) := by decide +kernel
theorem dL_law_304 : decode cL_law 304 = .ok (.aload_n 0, 1) := by decide +kernel
theorem dL_law_305 : decode cL_law 305 = .ok (.iload 4, 2) := by decide +kernel
theorem dL_law_307 : decode cL_law 307 = .ok (.iconst 1, 1) := by decide +kernel
theorem dL_law_308 : decode cL_law 308 = .ok (.iadd, 1) := by decide +kernel
theorem dL_law_309 : decode cL_law 309 = .ok (.iaload, 1) := by decide +kernel
theorem dL_law_310 : decode cL_law 310 = .ok (.aload_n 0, 1) := by decide +kernel
theorem dL_law_311 : decode cL_law 311 = .ok (.iload 4, 2) := by decide +kernel
theorem dL_law_313 : decode cL_law 313 = .ok (.iconst 2, 1) := by decide +kernel
theorem dL_law_314 : decode cL_law 314 = .ok (.iadd, 1) := by decide +kernel
theorem dL_law_315 : decode cL_law 315 = .ok (.iaload, 1) := by decide +kernel
theorem dL_law_316 : decode cL_law 316 = .ok (.aload_n 0, 1) := by decide +kernel
theorem dL_law_317 : decode cL_law 317 = .ok (.iload 4, 2) := by decide +kernel
theorem dL_law_319 : decode cL_law 319 = .ok (.iconst 3, 1) := by decide +kernel
theorem dL_law_320 : decode cL_law 320 = .ok (.iadd, 1) := by decide +kernel
theorem dL_law_321 : decode cL_law 321 = .ok (.iaload, 1) := by decide +kernel
theorem dL_law_322 : decode cL_law 322 = .ok (.aload_n 0, 1) := by decide +kernel
theorem dL_law_323 : decode cL_law 323 = .ok (.iload 4, 2) := by decide +kernel
theorem dL_law_325 : decode cL_law 325 = .ok (.iconst 4, 1) := by decide +kernel
theorem dL_law_326 : decode cL_law 326 = .ok (.iadd, 1) := by decide +kernel
theorem dL_law_327 : decode cL_law 327 = .ok (.iaload, 1) := by decide +kernel
theorem dL_law_328 : decode cL_law 328 = .ok (.aload_n 0, 1) := by decide +kernel
theorem dL_law_329 : decode cL_law 329 = .ok (.iload 4, 2) := by decide +kernel
theorem dL_law_331 : decode cL_law 331 = .ok (.iconst 5, 1) := by decide +kernel
theorem dL_law_332 : decode cL_law 332 = .ok (.iadd, 1) := by decide +kernel
theorem dL_law_333 : decode cL_law 333 = .ok (.iaload, 1) := by decide +kernel
theorem dL_law_334 : decode cL_law 334 = .ok (.invokevirtual 77, 3) := by decide +kernel
theorem dL_law_337 : decode cL_law 337 = .ok (.aload_n 2, 1) := by decide +kernel
theorem dL_law_338 : decode cL_law 338 = .ok (.invokevirtual 67, 3) := by decide +kernel
theorem dL_law_341 : decode cL_law 341 = .ok (.iload 5, 2) := by decide +kernel
theorem dL_law_343 : decode cL_law 343 = .ok (.if_icmp .eq 5, 3) := by decide +kernel
theorem dL_law_346 : decode cL_law 346 = .ok (.iconst 0, 1) := by decide +kernel
theorem dL_law_347 : decode cL_law 347 = .ok (.ireturn, 1) := by decide +kernel
theorem dL_law_348 : decode cL_law 348 = .ok (.goto 620, 3) := by decide +kernel
theorem dL_law_351 : decode cL_law 351 = .ok (.aload_n 1, 1) := by decide +kernel
theorem dL_law_352 : decode cL_law 352 = .ok (.aload_n 0, 1) := by decide +kernel
theorem dL_law_353 : decode cL_law 353 = .ok (.iload 4, 2) := by decide +kernel
theorem dL_law_355 : decode cL_law 355 = .ok (.iconst 1, 1) := by decide +kernel
theorem dL_law_356 : decode cL_law 356 = .ok (.iadd, 1) := by decide +kernel
theorem dL_law_357 : decode cL_law 357 = .ok (.iaload, 1) := by decide +kernel
theorem dL_law_358 : decode cL_law 358 = .ok (.aload_n 0, 1) := by decide +kernel
theorem dL_law_359 : decode cL_law 359 = .ok (.iload 4, 2) := by decide +kernel
theorem dL_law_361 : decode cL_law 361 = .ok (.iconst 2, 1) := by decide +kernel
theorem dL_law_362 : decode cL_law 362 = .ok (.iadd, 1) := by decide +kernel
theorem dL_law_363 : decode cL_law 363 = .ok (.iaload, 1) := by decide +kernel
theorem dL_law_364 : decode cL_law 364 = .ok (.ifCond .eq 7, 3) := by decide +kernel
theorem dL_law_367 : decode cL_law 367 = .ok (.iconst 1, 1) := by decide +kernel
theorem dL_law_368 : decode cL_law 368 = .ok (.goto 4, 3) := by decide +kernel
theorem dL_law_371 : decode cL_law 371 = .ok (.iconst 0, 1) := by decide +kernel
theorem dL_law_372 : decode cL_law 372 = .ok (.invokestatic 78, 3) := by decide +kernel
theorem dL_law_375 : decode cL_law 375 = .ok (.istore 5, 2) := by decide +kernel
theorem dL_law_377 : decode cL_law 377 = .ok (.aload_n 2, 1) := by decide +kernel
theorem dL_law_378 : decode cL_law 378 = .ok (.aload_n 0, 1) := by decide +kernel
theorem dL_law_379 : decode cL_law 379 = .ok (.iload 4, 2) := by decide +kernel
theorem dL_law_381 : decode cL_law 381 = .ok (.iconst 1, 1) := by decide +kernel
theorem dL_law_382 : decode cL_law 382 = .ok (.iadd, 1) := by decide +kernel
theorem dL_law_383 : decode cL_law 383 = .ok (.iaload, 1) := by decide +kernel
theorem dL_law_384 : decode cL_law 384 = .ok (.aload_n 0, 1) := by decide +kernel
theorem dL_law_385 : decode cL_law 385 = .ok (.iload 4, 2) := by decide +kernel
theorem dL_law_387 : decode cL_law 387 = .ok (.iconst 2, 1) := by decide +kernel
theorem dL_law_388 : decode cL_law 388 = .ok (.iadd, 1) := by decide +kernel
theorem dL_law_389 : decode cL_law 389 = .ok (.iaload, 1) := by decide +kernel
theorem dL_law_390 : decode cL_law 390 = .ok (.ifCond .eq 7, 3) := by decide +kernel
theorem dL_law_393 : decode cL_law 393 = .ok (.iconst 1, 1) := by decide +kernel
theorem dL_law_394 : decode cL_law 394 = .ok (.goto 4, 3) := by decide +kernel
theorem dL_law_397 : decode cL_law 397 = .ok (.iconst 0, 1) := by decide +kernel
theorem dL_law_398 : decode cL_law 398 = .ok (.invokevirtual 81, 3) := by decide +kernel
theorem dL_law_401 : decode cL_law 401 = .ok (.aload_n 2, 1) := by decide +kernel
theorem dL_law_402 : decode cL_law 402 = .ok (.invokevirtual 67, 3) := by decide +kernel
theorem dL_law_405 : decode cL_law 405 = .ok (.iload 5, 2) := by decide +kernel
theorem dL_law_407 : decode cL_law 407 = .ok (.if_icmp .eq 5, 3) := by decide +kernel
theorem dL_law_410 : decode cL_law 410 = .ok (.iconst 0, 1) := by decide +kernel
theorem dL_law_411 : decode cL_law 411 = .ok (.ireturn, 1) := by decide +kernel
theorem dL_law_412 : decode cL_law 412 = .ok (.goto 556, 3) := by decide +kernel
theorem dL_law_415 : decode cL_law 415 = .ok (.aload_n 1, 1) := by decide +kernel
theorem dL_law_416 : decode cL_law 416 = .ok (.aload_n 0, 1) := by decide +kernel
theorem dL_law_417 : decode cL_law 417 = .ok (.iload 4, 2) := by decide +kernel
theorem dL_law_419 : decode cL_law 419 = .ok (.iconst 1, 1) := by decide +kernel
theorem dL_law_420 : decode cL_law 420 = .ok (.iadd, 1) := by decide +kernel
theorem dL_law_421 : decode cL_law 421 = .ok (.iaload, 1) := by decide +kernel
theorem dL_law_422 : decode cL_law 422 = .ok (.aload_n 0, 1) := by decide +kernel
theorem dL_law_423 : decode cL_law 423 = .ok (.iload 4, 2) := by decide +kernel
theorem dL_law_425 : decode cL_law 425 = .ok (.iconst 2, 1) := by decide +kernel
theorem dL_law_426 : decode cL_law 426 = .ok (.iadd, 1) := by decide +kernel
theorem dL_law_427 : decode cL_law 427 = .ok (.iaload, 1) := by decide +kernel
theorem dL_law_428 : decode cL_law 428 = .ok (.aload_n 0, 1) := by decide +kernel
theorem dL_law_429 : decode cL_law 429 = .ok (.iload 4, 2) := by decide +kernel
theorem dL_law_431 : decode cL_law 431 = .ok (.iconst 3, 1) := by decide +kernel
theorem dL_law_432 : decode cL_law 432 = .ok (.iadd, 1) := by decide +kernel
theorem dL_law_433 : decode cL_law 433 = .ok (.iaload, 1) := by decide +kernel
theorem dL_law_434 : decode cL_law 434 = .ok (.ifCond .eq 7, 3) := by decide +kernel
theorem dL_law_437 : decode cL_law 437 = .ok (.iconst 1, 1) := by decide +kernel
theorem dL_law_438 : decode cL_law 438 = .ok (.goto 4, 3) := by decide +kernel
theorem dL_law_441 : decode cL_law 441 = .ok (.iconst 0, 1) := by decide +kernel
theorem dL_law_442 : decode cL_law 442 = .ok (.invokestatic 82, 3) := by decide +kernel
theorem dL_law_445 : decode cL_law 445 = .ok (.istore 5, 2) := by decide +kernel
theorem dL_law_447 : decode cL_law 447 = .ok (.aload_n 2, 1) := by decide +kernel
theorem dL_law_448 : decode cL_law 448 = .ok (.aload_n 0, 1) := by decide +kernel
theorem dL_law_449 : decode cL_law 449 = .ok (.iload 4, 2) := by decide +kernel
theorem dL_law_451 : decode cL_law 451 = .ok (.iconst 1, 1) := by decide +kernel
theorem dL_law_452 : decode cL_law 452 = .ok (.iadd, 1) := by decide +kernel
