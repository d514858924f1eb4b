def wsX7_next : List Cond := .code yX7_next cX7_next 5 (some .int) :: ((wsX7_next_r1 ++ wsX7_next_r2) ++ wsX70 ++ wsX00 ++ wsX10 ++ wsX20)
def wsX7_world_r1 : List Cond := [Cond.fieldLink RX7 70 "TypeCourt" "told" "Z", Cond.fieldLink RX7 44 "TypeCourt" "world" "LTypeCourt$World;", Cond.fieldLink RX7 37 "TypeCourt" "kinds" "LTypeCourt$Kinds;", Cond.fieldLink RX7 16 "TypeCourt" "book" "LTypeCourt$Book;", Cond.fieldLink RX7 124 "TypeCourt$World" "thingCount" "I", Cond.methodLink RX7 152 yX7_isQuestion, Cond.instanceMethod yX7_isQuestion, Cond.selects RX7 yX7_isQuestion yX7_isQuestion, Cond.initialized RX7, Cond.code yX7_isQuestion cX7_isQuestion 2 (some .boolean), Cond.fieldLink RX7 98 "TypeCourt$Book" "questionCount" "I", Cond.methodLink RX7 155 yX0_question, Cond.instanceMethod yX0_question, Cond.selects RX0 yX0_question yX0_question, Cond.initialized RX0, Cond.code yX0_question cX0_question 2 (some .int), Cond.fieldLink RX0 57 "TypeCourt$Book" "questionCount" "I", Cond.fieldLink RX0 32 "TypeCourt$Book" "questions" "[I", Cond.methodLink RX7 175 yX6_build, Cond.instanceMethod yX6_build, Cond.selects RX6 yX6_build yX6_build, Cond.initialized RX6, Cond.code yX6_build cX6_build 5 none, Cond.fieldLink RX6 32 "TypeCourt$Kinds" "standing" "[J"]
def wsX7_world_r2 : List Cond := [Cond.fieldLink RX6 22 "TypeCourt$World" "thingCount" "I", Cond.methodLink RX6 29 yX6_clear, Cond.instanceMethod yX6_clear, Cond.selects RX6 yX6_clear yX6_clear, Cond.code yX6_clear cX6_clear 2 none, Cond.fieldLink RX6 26 "TypeCourt$World" "edgeCount" "I", Cond.fieldLink RX6 15 "TypeCourt$World" "thingOfType" "[S", Cond.methodLink RX6 38 yX2_leastWhere, Cond.instanceMethod yX2_leastWhere, Cond.selects RX2 yX2_leastWhere yX2_leastWhere, Cond.initialized RX2, Cond.code yX2_leastWhere cX2_leastWhere 6 (some .int), Cond.methodLink RX2 81 yX2_truthOf, Cond.instanceMethod yX2_truthOf, Cond.selects RX2 yX2_truthOf yX2_truthOf, Cond.code yX2_truthOf cX2_truthOf 3 (some .long), Cond.fieldLink RX2 9 "TypeCourt$Kinds" "truths" "[J", Cond.methodLink RX2 180 yX2_lowestBit, Cond.static yX2_lowestBit, Cond.code yX2_lowestBit cX2_lowestBit 2 (some .int), Cond.methodLink RX2 191 yJ13_bitCount_95d88, Cond.static yJ13_bitCount_95d88, Cond.initialized RJ13, Cond.code yJ13_bitCount_95d88 cJ13_bitCount_95d88 2 (some .int)]
def wsX7_world_r3 : List Cond := [Cond.constantLong RJ13 314 (6148914691236517205), Cond.constantLong RJ13 316 (3689348814741910323), Cond.constantLong RJ13 318 (1085102592571150095), Cond.methodLink RX6 42 yX6_thingFor, Cond.instanceMethod yX6_thingFor, Cond.selects RX6 yX6_thingFor yX6_thingFor, Cond.code yX6_thingFor cX6_thingFor 2 (some .int), Cond.fieldLink RX6 9 "TypeCourt$World" "things" "[S", Cond.methodLink RX6 46 yX6_addEdges, Cond.instanceMethod yX6_addEdges, Cond.selects RX6 yX6_addEdges yX6_addEdges, Cond.code yX6_addEdges cX6_addEdges 7 none, Cond.fieldLink RX6 18 "TypeCourt$World" "edges" "[I", Cond.methodLink RX6 50 yX2_isServed, Cond.instanceMethod yX2_isServed, Cond.selects RX2 yX2_isServed yX2_isServed, Cond.code yX2_isServed cX2_isServed 4 (some .boolean), Cond.fieldLink RX2 54 "TypeCourt$Kinds" "concepts" "LTypeCourt$Concepts;", Cond.fieldLink RX2 44 "TypeCourt$Kinds" "book" "LTypeCourt$Book;", Cond.fieldLink RX2 18 "TypeCourt$Kinds" "ownAtoms" "[I", Cond.methodLink RX2 147 yX1_roleOfAtom, Cond.instanceMethod yX1_roleOfAtom, Cond.selects RX1 yX1_roleOfAtom yX1_roleOfAtom, Cond.initialized RX1]
def wsX7_world_r4 : List Cond := [Cond.code yX1_roleOfAtom cX1_roleOfAtom 2 (some .int), Cond.fieldLink RX1 40 "TypeCourt$Concepts" "atomCount" "I", Cond.fieldLink RX1 24 "TypeCourt$Concepts" "atomRoles" "[I", Cond.methodLink RX2 177 yX0_isSingle, Cond.instanceMethod yX0_isSingle, Cond.selects RX0 yX0_isSingle yX0_isSingle, Cond.code yX0_isSingle cX0_isSingle 2 (some .boolean), Cond.fieldLink RX0 60 "TypeCourt$Book" "singles" "I", Cond.methodLink RX6 54 yX2_leastMeeting, Cond.instanceMethod yX2_leastMeeting, Cond.selects RX2 yX2_leastMeeting yX2_leastMeeting, Cond.code yX2_leastMeeting cX2_leastMeeting 11 (some .int), Cond.fieldLink RX2 22 "TypeCourt$Kinds" "farAtoms" "[I", Cond.fieldLink RX2 15 "TypeCourt$Kinds" "parts" "[J", Cond.constantLong RX2 88 (-1), Cond.methodLink RX6 62 yX1_roleOfAtom]
def wsX7_world : List Cond := .code yX7_world cX7_world 2 (some .int) :: ((wsX7_world_r1 ++ (wsX7_world_r2 ++ (wsX7_world_r3 ++ wsX7_world_r4))) ++ wsX70 ++ wsX60 ++ wsX00 ++ wsX20 ++ wsX10)
def wsX7_thing : List Cond := .code yX7_thing cX7_thing 2 (some .int) :: ([.fieldLink RX7 70 "TypeCourt" "told" "Z", .fieldLink RX7 44 "TypeCourt" "world" "LTypeCourt$World;", .fieldLink RX7 124 "TypeCourt$World" "thingCount" "I", .fieldLink RX7 179 "TypeCourt$World" "things" "[S"] ++ wsX70 ++ wsX60)
def wsX7_edge : List Cond := .code yX7_edge cX7_edge 3 (some .int) :: ([.fieldLink RX7 70 "TypeCourt" "told" "Z", .fieldLink RX7 44 "TypeCourt" "world" "LTypeCourt$World;", .fieldLink RX7 127 "TypeCourt$World" "edgeCount" "I", .methodLink RX7 183 yX6_from, .instanceMethod yX6_from, .selects RX6 yX6_from yX6_from, .initialized RX6, .code yX6_from cX6_from 2 (some .int), .methodLink RX6 67 yX6_edgeAt, .instanceMethod yX6_edgeAt, .selects RX6 yX6_edgeAt yX6_edgeAt, .code yX6_edgeAt cX6_edgeAt 2 (some .int), .fieldLink RX6 26 "TypeCourt$World" "edgeCount" "I", .fieldLink RX6 18 "TypeCourt$World" "edges" "[I", .methodLink RX7 186 yX6_to, .instanceMethod yX6_to, .selects RX6 yX6_to yX6_to, .code yX6_to cX6_to 2 (some .int), .methodLink RX7 189 yX6_role, .instanceMethod yX6_role, .selects RX6 yX6_role yX6_role, .code yX6_role cX6_role 2 (some .int)] ++ wsX70 ++ wsX60)
def wsX7_bones_r1 : List Cond := [Cond.fieldLink RX7 70 "TypeCourt" "told" "Z", Cond.fieldLink RX7 37 "TypeCourt" "kinds" "LTypeCourt$Kinds;", Cond.fieldLink RX7 16 "TypeCourt" "book" "LTypeCourt$Book;", Cond.methodLink RX7 152 yX7_isQuestion, Cond.instanceMethod yX7_isQuestion, Cond.selects RX7 yX7_isQuestion yX7_isQuestion, Cond.initialized RX7, Cond.code yX7_isQuestion cX7_isQuestion 2 (some .boolean), Cond.fieldLink RX7 98 "TypeCourt$Book" "questionCount" "I", Cond.methodLink RX7 155 yX0_question, Cond.instanceMethod yX0_question, Cond.selects RX0 yX0_question yX0_question, Cond.initialized RX0, Cond.code yX0_question cX0_question 2 (some .int), Cond.fieldLink RX0 57 "TypeCourt$Book" "questionCount" "I", Cond.fieldLink RX0 32 "TypeCourt$Book" "questions" "[I", Cond.methodLink RX7 192 yX2_rulesThatForbid, Cond.instanceMethod yX2_rulesThatForbid, Cond.selects RX2 yX2_rulesThatForbid yX2_rulesThatForbid, Cond.initialized RX2, Cond.code yX2_rulesThatForbid cX2_rulesThatForbid 5 (some .int), Cond.fieldLink RX2 28 "TypeCourt$Kinds" "standing" "[J", Cond.fieldLink RX2 44 "TypeCourt$Kinds" "book" "LTypeCourt$Book;", Cond.fieldLink RX2 93 "TypeCourt$Book" "ruleCount" "I"]
def wsX7_bones_r2 : List Cond := [Cond.fieldLink RX2 31 "TypeCourt$Kinds" "trial" "[J", Cond.methodLink RX2 184 yX2_leastWhere, Cond.instanceMethod yX2_leastWhere, Cond.selects RX2 yX2_leastWhere yX2_leastWhere, Cond.code yX2_leastWhere cX2_leastWhere 6 (some .int), Cond.methodLink RX2 81 yX2_truthOf, Cond.instanceMethod yX2_truthOf, Cond.selects RX2 yX2_truthOf yX2_truthOf, Cond.code yX2_truthOf cX2_truthOf 3 (some .long), Cond.fieldLink RX2 9 "TypeCourt$Kinds" "truths" "[J", Cond.methodLink RX2 180 yX2_lowestBit, Cond.static yX2_lowestBit, Cond.code yX2_lowestBit cX2_lowestBit 2 (some .int), Cond.methodLink RX2 191 yJ13_bitCount_95d88, Cond.static yJ13_bitCount_95d88, Cond.initialized RJ13, Cond.code yJ13_bitCount_95d88 cJ13_bitCount_95d88 2 (some .int), Cond.constantLong RJ13 314 (6148914691236517205), Cond.constantLong RJ13 316 (3689348814741910323), Cond.constantLong RJ13 318 (1085102592571150095), Cond.methodLink RX2 96 yX2_takeFair, Cond.instanceMethod yX2_takeFair, Cond.selects RX2 yX2_takeFair yX2_takeFair, Cond.code yX2_takeFair cX2_takeFair 8 none]
def wsX7_bones_r3 : List Cond := [Cond.fieldLink RX2 67 "TypeCourt$Kinds" "types" "I", Cond.constantLong RX2 88 (-1), Cond.methodLink RX2 154 yX0_ruleStatement, Cond.instanceMethod yX0_ruleStatement, Cond.selects RX0 yX0_ruleStatement yX0_ruleStatement, Cond.code yX0_ruleStatement cX0_ruleStatement 2 (some .int), Cond.fieldLink RX0 54 "TypeCourt$Book" "ruleCount" "I", Cond.fieldLink RX0 29 "TypeCourt$Book" "rules" "[I", Cond.methodLink RX2 157 yX2_broken, Cond.instanceMethod yX2_broken, Cond.selects RX2 yX2_broken yX2_broken, Cond.code yX2_broken cX2_broken 7 (some .long), Cond.methodLink RX2 160 yX0_leftOf, Cond.static yX0_leftOf, Cond.code yX0_leftOf cX0_leftOf 1 (some .int), Cond.methodLink RX2 161 yX0_rightOf, Cond.static yX0_rightOf, Cond.code yX0_rightOf cX0_rightOf 1 (some .int), Cond.methodLink RX2 162 yX0_sortOf, Cond.static yX0_sortOf, Cond.code yX0_sortOf cX0_sortOf 1 (some .int), Cond.methodLink RX2 110 yX2_settle, Cond.instanceMethod yX2_settle, Cond.selects RX2 yX2_settle yX2_settle]
def wsX7_bones_r4 : List Cond := [Cond.code yX2_settle cX2_settle 4 (some .int), Cond.methodLink RX2 163 yX2_goRound, Cond.instanceMethod yX2_goRound, Cond.selects RX2 yX2_goRound yX2_goRound, Cond.code yX2_goRound cX2_goRound 6 (some .boolean), Cond.fieldLink RX2 34 "TypeCourt$Kinds" "before" "[J", Cond.methodLink RX2 100 arraycopyName, Cond.native arraycopyName, Cond.static arraycopyName, Cond.initialized "java/lang/System", Cond.fieldLink RX2 144 "TypeCourt$Kinds" "roleAtoms" "I", Cond.fieldLink RX2 37 "TypeCourt$Kinds" "met" "[J", Cond.fieldLink RX2 40 "TypeCourt$Kinds" "ranks" "[S", Cond.methodLink RX2 166 yX2_isMet, Cond.instanceMethod yX2_isMet, Cond.selects RX2 yX2_isMet yX2_isMet, Cond.code yX2_isMet cX2_isMet 4 (some .boolean), Cond.fieldLink RX2 54 "TypeCourt$Kinds" "concepts" "LTypeCourt$Concepts;", Cond.fieldLink RX2 55 "TypeCourt$Concepts" "atomCount" "I", Cond.methodLink RX2 147 yX1_roleOfAtom, Cond.instanceMethod yX1_roleOfAtom, Cond.selects RX1 yX1_roleOfAtom yX1_roleOfAtom, Cond.initialized RX1, Cond.code yX1_roleOfAtom cX1_roleOfAtom 2 (some .int)]
def wsX7_bones_r5 : List Cond := [Cond.fieldLink RX1 40 "TypeCourt$Concepts" "atomCount" "I", Cond.fieldLink RX1 24 "TypeCourt$Concepts" "atomRoles" "[I", Cond.methodLink RX2 173 yX2_leastMeeting, Cond.instanceMethod yX2_leastMeeting, Cond.selects RX2 yX2_leastMeeting yX2_leastMeeting, Cond.code yX2_leastMeeting cX2_leastMeeting 11 (some .int), Cond.fieldLink RX2 18 "TypeCourt$Kinds" "ownAtoms" "[I", Cond.fieldLink RX2 22 "TypeCourt$Kinds" "farAtoms" "[I", Cond.fieldLink RX2 15 "TypeCourt$Kinds" "parts" "[J", Cond.methodLink RX2 177 yX0_isSingle, Cond.instanceMethod yX0_isSingle, Cond.selects RX0 yX0_isSingle yX0_isSingle, Cond.code yX0_isSingle cX0_isSingle 2 (some .boolean), Cond.fieldLink RX0 60 "TypeCourt$Book" "singles" "I", Cond.methodLink RX2 169 yX2_put, Cond.static yX2_put, Cond.code yX2_put cX2_put 6 none, Cond.methodLink RX2 106 yX2_has, Cond.static yX2_has, Cond.code yX2_has cX2_has 3 (some .boolean)]
def wsX7_bones : List Cond := .code yX7_bones cX7_bones 2 (some .int) :: ((wsX7_bones_r1 ++ (wsX7_bones_r2 ++ (wsX7_bones_r3 ++ (wsX7_bones_r4 ++ wsX7_bones_r5)))) ++ wsX70 ++ wsX00 ++ wsX20 ++ wsX10)
def wsX7_same_r1 : List Cond := [Cond.fieldLink RX7 70 "TypeCourt" "told" "Z", Cond.fieldLink RX7 37 "TypeCourt" "kinds" "LTypeCourt$Kinds;", Cond.fieldLink RX7 16 "TypeCourt" "book" "LTypeCourt$Book;", Cond.methodLink RX7 152 yX7_isQuestion, Cond.instanceMethod yX7_isQuestion, Cond.selects RX7 yX7_isQuestion yX7_isQuestion, Cond.initialized RX7, Cond.code yX7_isQuestion cX7_isQuestion 2 (some .boolean), Cond.fieldLink RX7 98 "TypeCourt$Book" "questionCount" "I", Cond.methodLink RX7 155 yX0_question, Cond.instanceMethod yX0_question, Cond.selects RX0 yX0_question yX0_question, Cond.initialized RX0, Cond.code yX0_question cX0_question 2 (some .int), Cond.fieldLink RX0 57 "TypeCourt$Book" "questionCount" "I", Cond.fieldLink RX0 32 "TypeCourt$Book" "questions" "[I", Cond.methodLink RX7 195 yX2_agree, Cond.instanceMethod yX2_agree, Cond.selects RX2 yX2_agree yX2_agree, Cond.initialized RX2, Cond.code yX2_agree cX2_agree 3 (some .boolean), Cond.methodLink RX2 188 yX2_implies, Cond.instanceMethod yX2_implies, Cond.selects RX2 yX2_implies yX2_implies]
def wsX7_same_r2 : List Cond := [Cond.code yX2_implies cX2_implies 4 (some .boolean), Cond.fieldLink RX2 28 "TypeCourt$Kinds" "standing" "[J", Cond.constantLong RX2 88 (-1), Cond.methodLink RX2 81 yX2_truthOf, Cond.instanceMethod yX2_truthOf, Cond.selects RX2 yX2_truthOf yX2_truthOf, Cond.code yX2_truthOf cX2_truthOf 3 (some .long), Cond.fieldLink RX2 9 "TypeCourt$Kinds" "truths" "[J", Cond.methodLink RX7 148 yX7_oneIf, Cond.static yX7_oneIf, Cond.code yX7_oneIf cX7_oneIf 1 (some .int)]
def wsX7_same : List Cond := .code yX7_same cX7_same 3 (some .int) :: ((wsX7_same_r1 ++ wsX7_same_r2) ++ wsX70 ++ wsX00 ++ wsX20)
def wsX7_print_r1 : List Cond := [Cond.fieldLink RX7 70 "TypeCourt" "told" "Z", Cond.fieldLink RX7 51 "TypeCourt" "printer" "LTypeCourt$Printer;", Cond.fieldLink RX7 16 "TypeCourt" "book" "LTypeCourt$Book;", Cond.fieldLink RX7 86 "TypeCourt$Printer" "size" "I", Cond.methodLink RX7 198 yX3_printBook, Cond.instanceMethod yX3_printBook, Cond.selects RX3 yX3_printBook yX3_printBook, Cond.initialized RX3, Cond.code yX3_printBook cX3_printBook 3 none, Cond.fieldLink RX3 19 "TypeCourt$Printer" "book" "LTypeCourt$Book;", Cond.fieldLink RX3 23 "TypeCourt$Printer" "size" "I", Cond.fieldLink RX3 27 "TypeCourt$Book" "statementCount" "I", Cond.constantLong RX3 40 (59), Cond.constantLong RX3 46 (10), Cond.methodLink RX3 32 yX0_statement, Cond.instanceMethod yX0_statement, Cond.selects RX0 yX0_statement yX0_statement, Cond.initialized RX0, Cond.code yX0_statement cX0_statement 2 (some .int), Cond.fieldLink RX0 51 "TypeCourt$Book" "statementCount" "I", Cond.fieldLink RX0 25 "TypeCourt$Book" "statements" "[I", Cond.methodLink RX3 36 yX3_printStatement, Cond.instanceMethod yX3_printStatement, Cond.selects RX3 yX3_printStatement yX3_printStatement]
def wsX7_print_r2 : List Cond := [Cond.code yX3_printStatement cX3_printStatement 5 none, Cond.constantLong RX3 60 (32), Cond.constantLong RX3 62 (60), Cond.constantLong RX3 64 (61), Cond.constantLong RX3 69 (6386539), Cond.constantLong RX3 71 (504363246962), Cond.constantLong RX3 77 (126896661032037), Cond.methodLink RX3 48 yX0_leftOf, Cond.static yX0_leftOf, Cond.code yX0_leftOf cX0_leftOf 1 (some .int), Cond.methodLink RX3 51 yX0_rightOf, Cond.static yX0_rightOf, Cond.code yX0_rightOf cX0_rightOf 1 (some .int), Cond.methodLink RX3 54 yX0_sortOf, Cond.static yX0_sortOf, Cond.code yX0_sortOf cX0_sortOf 1 (some .int), Cond.methodLink RX3 57 yX3_printConcept, Cond.instanceMethod yX3_printConcept, Cond.selects RX3 yX3_printConcept yX3_printConcept, Cond.code yX3_printConcept cX3_printConcept 4 none, Cond.fieldLink RX3 79 "TypeCourt$Printer" "waitingCount" "I", Cond.fieldLink RX3 15 "TypeCourt$Printer" "waiting" "[I", Cond.constantLong RX3 85 (40), Cond.constantLong RX3 87 (41)]
def wsX7_print_r3 : List Cond := [Cond.constantLong RX3 89 (6385252), Cond.constantLong RX3 94 (28530), Cond.methodLink RX3 82 yX3_await, Cond.instanceMethod yX3_await, Cond.selects RX3 yX3_await yX3_await, Cond.code yX3_await cX3_await 2 none, Cond.methodLink RX3 42 yX3_putWord, Cond.instanceMethod yX3_putWord, Cond.selects RX3 yX3_putWord yX3_putWord, Cond.code yX3_putWord cX3_putWord 6 none, Cond.constantLong RX3 125 (255), Cond.fieldLink RX3 9 "TypeCourt$Printer" "bytes" "[B", Cond.methodLink RX3 91 yX3_putJoint, Cond.instanceMethod yX3_putJoint, Cond.selects RX3 yX3_putJoint yX3_putJoint, Cond.code yX3_putJoint cX3_putJoint 3 none, Cond.methodLink RX3 66 yX3_putBehind, Cond.instanceMethod yX3_putBehind, Cond.selects RX3 yX3_putBehind yX3_putBehind, Cond.code yX3_putBehind cX3_putBehind 3 none, Cond.methodLink RX3 96 yX3_printNode, Cond.instanceMethod yX3_printNode, Cond.selects RX3 yX3_printNode yX3_printNode, Cond.code yX3_printNode cX3_printNode 6 none]
def wsX7_print_r4 : List Cond := [Cond.fieldLink RX3 99 "TypeCourt$Book" "concepts" "LTypeCourt$Concepts;", Cond.constantLong RX3 111 (7630704), Cond.constantLong RX3 113 (108230834679661), Cond.constantLong RX3 119 (7237492), Cond.constantLong RX3 121 (1936682341), Cond.constantLong RX3 123 (435778056825), Cond.methodLink RX3 103 yX1_sortOf, Cond.instanceMethod yX1_sortOf, Cond.selects RX1 yX1_sortOf yX1_sortOf, Cond.initialized RX1, Cond.code yX1_sortOf cX1_sortOf 2 (some .int), Cond.fieldLink RX1 36 "TypeCourt$Concepts" "size" "I", Cond.fieldLink RX1 9 "TypeCourt$Concepts" "sorts" "[I", Cond.methodLink RX3 106 yX1_leftOf, Cond.instanceMethod yX1_leftOf, Cond.selects RX1 yX1_leftOf yX1_leftOf, Cond.code yX1_leftOf cX1_leftOf 2 (some .int), Cond.fieldLink RX1 15 "TypeCourt$Concepts" "lefts" "[I", Cond.methodLink RX3 107 yX1_rightOf, Cond.instanceMethod yX1_rightOf, Cond.selects RX1 yX1_rightOf yX1_rightOf, Cond.code yX1_rightOf cX1_rightOf 2 (some .int), Cond.fieldLink RX1 18 "TypeCourt$Concepts" "rights" "[I", Cond.methodLink RX3 108 yX0_nameWord]
def wsX7_print_r5 : List Cond := [Cond.instanceMethod yX0_nameWord, Cond.selects RX0 yX0_nameWord yX0_nameWord, Cond.code yX0_nameWord cX0_nameWord 2 (some .long), Cond.fieldLink RX0 45 "TypeCourt$Book" "nameCount" "I", Cond.fieldLink RX0 18 "TypeCourt$Book" "names" "[J", Cond.methodLink RX3 115 yX3_awaitPart, Cond.instanceMethod yX3_awaitPart, Cond.selects RX3 yX3_awaitPart yX3_awaitPart, Cond.code yX3_awaitPart cX3_awaitPart 3 none, Cond.methodLink RX3 73 yX0_roleWord, Cond.instanceMethod yX0_roleWord, Cond.selects RX0 yX0_roleWord yX0_roleWord, Cond.code yX0_roleWord cX0_roleWord 2 (some .long), Cond.fieldLink RX0 48 "TypeCourt$Book" "roleCount" "I", Cond.fieldLink RX0 22 "TypeCourt$Book" "roles" "[J"]
def wsX7_print : List Cond := .code yX7_print cX7_print 1 (some .int) :: ((wsX7_print_r1 ++ (wsX7_print_r2 ++ (wsX7_print_r3 ++ (wsX7_print_r4 ++ wsX7_print_r5)))) ++ wsX70 ++ wsX30 ++ wsX00 ++ wsX10)
def wsX7_out : List Cond := .code yX7_out cX7_out 2 (some .int) :: ([.fieldLink RX7 51 "TypeCourt" "printer" "LTypeCourt$Printer;", .fieldLink RX7 86 "TypeCourt$Printer" "size" "I", .fieldLink RX7 201 "TypeCourt$Printer" "bytes" "[B"] ++ wsX70 ++ wsX30)
def wsX7_back : List Cond := .code yX7_back cX7_back 1 (some .int) :: ([.fieldLink RX7 51 "TypeCourt" "printer" "LTypeCourt$Printer;", .fieldLink RX7 86 "TypeCourt$Printer" "size" "I", .methodLink RX7 204 Lib.Math.min.name, .static Lib.Math.min.name, .initialized "java/lang/Math", .code Lib.Math.min.name Lib.Math.min.code 2 (some .int), .fieldLink RX7 55 "TypeCourt" "tapeSize" "I", .fieldLink RX7 201 "TypeCourt$Printer" "bytes" "[B", .fieldLink RX7 9 "TypeCourt" "tape" "[B", .methodLink RX7 210 arraycopyName, .native arraycopyName, .static arraycopyName, .initialized "java/lang/System"] ++ wsX70 ++ wsX30)
def wsX8_init_r1 : List Cond := [Cond.methodLink RX8 1 objectInit, Cond.instanceMethod objectInit, Cond.code objectInit ⟨#[0xb1]⟩ 1 none, Cond.arrayClass .byte, Cond.fieldLink RX8 7 "TypeCourtModel" "tape" "[B", Cond.arrayClass .char, Cond.fieldLink RX8 13 "TypeCourtModel" "words" "[C", Cond.arrayClass .int, Cond.fieldLink RX8 17 "TypeCourtModel" "kind" "[I", Cond.fieldLink RX8 21 "TypeCourtModel" "one" "[I", Cond.fieldLink RX8 24 "TypeCourtModel" "two" "[I", Cond.fieldLink RX8 27 "TypeCourtModel" "atomOf" "[I", Cond.fieldLink RX8 30 "TypeCourtModel" "byteOf" "[I", Cond.fieldLink RX8 33 "TypeCourtModel" "order" "[I", Cond.fieldLink RX8 36 "TypeCourtModel" "said" "[I", Cond.fieldLink RX8 39 "TypeCourtModel" "saidA" "[I", Cond.fieldLink RX8 42 "TypeCourtModel" "saidB" "[I", Cond.fieldLink RX8 45 "TypeCourtModel" "rule" "[I", Cond.fieldLink RX8 48 "TypeCourtModel" "question" "[I", Cond.fieldLink RX8 51 "TypeCourtModel" "nameLetters" "[B", Cond.fieldLink RX8 54 "TypeCourtModel" "nameSize" "[I", Cond.fieldLink RX8 57 "TypeCourtModel" "roleLetters" "[B", Cond.fieldLink RX8 60 "TypeCourtModel" "roleSize" "[I", Cond.arrayClass .boolean]
def wsX8_init_r2 : List Cond := [Cond.fieldLink RX8 63 "TypeCourtModel" "isSingle" "[Z", Cond.fieldLink RX8 67 "TypeCourtModel" "isUnder" "[Z", Cond.fieldLink RX8 70 "TypeCourtModel" "hasUnder" "[Z", Cond.fieldLink RX8 73 "TypeCourtModel" "atomRole" "[I", Cond.fieldLink RX8 76 "TypeCourtModel" "atomName" "[I", Cond.fieldLink RX8 79 "TypeCourtModel" "atomNode" "[I", Cond.fieldLink RX8 82 "TypeCourtModel" "atomLess" "[Z", Cond.fieldLink RX8 85 "TypeCourtModel" "placed" "I", Cond.fieldLink RX8 89 "TypeCourtModel" "pairA" "[I", Cond.fieldLink RX8 92 "TypeCourtModel" "pairB" "[I", Cond.fieldLink RX8 95 "TypeCourtModel" "waits" "[I", Cond.fieldLink RX8 98 "TypeCourtModel" "waitNode" "[I", Cond.constant RX8 101 (102400), Cond.fieldLink RX8 102 "TypeCourtModel" "is" "[Z", Cond.fieldLink RX8 105 "TypeCourtModel" "atX" "[I", Cond.fieldLink RX8 108 "TypeCourtModel" "roleAtoms" "[I", Cond.fieldLink RX8 111 "TypeCourtModel" "ownAtoms" "[I", Cond.fieldLink RX8 114 "TypeCourtModel" "rankOf" "[I", Cond.fieldLink RX8 117 "TypeCourtModel" "stands" "[Z", Cond.fieldLink RX8 120 "TypeCourtModel" "stood" "[Z", Cond.fieldLink RX8 123 "TypeCourtModel" "thing" "[I", Cond.fieldLink RX8 126 "TypeCourtModel" "edgeFrom" "[I", Cond.fieldLink RX8 129 "TypeCourtModel" "edgeTo" "[I", Cond.fieldLink RX8 132 "TypeCourtModel" "edgeRole" "[I"]
def wsX8_init_r3 : List Cond := [Cond.fieldLink RX8 135 "TypeCourtModel" "out" "[B", Cond.fieldLink RX8 138 "TypeCourtModel" "put" "[I", Cond.fieldLink RX8 141 "TypeCourtModel" "putOf" "[I", Cond.fieldLink RX8 144 "TypeCourtModel" "putLeast" "[I"]
def wsX8_init : List Cond := .code yX8_init cX8_init 1 none :: ((wsX8_init_r1 ++ (wsX8_init_r2 ++ wsX8_init_r3)) ++ wsX80)
def wsX8_in : List Cond := .code yX8_in cX8_in 6 (some .boolean) :: ([])
def wsX8_four : List Cond := .code yX8_four cX8_four 3 none :: ([.fieldLink RX8 7 "TypeCourtModel" "tape" "[B", .fieldLink RX8 147 "TypeCourtModel" "taped" "I"] ++ wsX80)
def wsX8_feed : List Cond := .code yX8_feed cX8_feed 6 (some .int) :: ([.fieldLink RX8 147 "TypeCourtModel" "taped" "I", .methodLink RX8 150 yX8_four, .instanceMethod yX8_four, .selects RX8 yX8_four yX8_four, .initialized RX8, .code yX8_four cX8_four 3 none, .fieldLink RX8 7 "TypeCourtModel" "tape" "[B"] ++ wsX80)
def wsX8_cut : List Cond := .code yX8_cut cX8_cut 3 (some .int) :: ([.fieldLink RX8 147 "TypeCourtModel" "taped" "I", .methodLink RX8 154 yX8_in, .static yX8_in, .initialized RX8, .code yX8_in cX8_in 6 (some .boolean)] ++ wsX80)
def wsX8_isLetter : List Cond := .code yX8_isLetter cX8_isLetter 1 (some .boolean) :: ([.constantLong RX8 158 (97), .constantLong RX8 160 (122), .methodLink RX8 154 yX8_in, .static yX8_in, .initialized RX8, .code yX8_in cX8_in 6 (some .boolean)])
def wsX8_isFigure : List Cond := .code yX8_isFigure cX8_isFigure 1 (some .boolean) :: ([.constantLong RX8 162 (48), .constantLong RX8 164 (57), .methodLink RX8 154 yX8_in, .static yX8_in, .initialized RX8, .code yX8_in cX8_in 6 (some .boolean)])
def wsX8_next : List Cond := .code yX8_next cX8_next 2 none :: ([.fieldLink RX8 166 "TypeCourtModel" "at" "I", .fieldLink RX8 147 "TypeCourtModel" "taped" "I", .fieldLink RX8 7 "TypeCourtModel" "tape" "[B", .fieldLink RX8 169 "TypeCourtModel" "tokenAt" "I", .fieldLink RX8 172 "TypeCourtModel" "tokenSize" "I", .fieldLink RX8 175 "TypeCourtModel" "sign" "I", .fieldLink RX8 178 "TypeCourtModel" "token" "I", .methodLink RX8 181 yX8_isLetter, .static yX8_isLetter, .initialized RX8, .code yX8_isLetter cX8_isLetter 1 (some .boolean), .constantLong RX8 158 (97), .constantLong RX8 160 (122), .methodLink RX8 154 yX8_in, .static yX8_in, .code yX8_in cX8_in 6 (some .boolean), .methodLink RX8 185 yX8_isFigure, .static yX8_isFigure, .code yX8_isFigure cX8_isFigure 1 (some .boolean), .constantLong RX8 162 (48), .constantLong RX8 164 (57)] ++ wsX80)
def wsX8_kept : List Cond := .code yX8_kept cX8_kept 6 (some .int) :: ([.fieldLink RX8 13 "TypeCourtModel" "words" "[C", .fieldLink RX8 178 "TypeCourtModel" "token" "I", .fieldLink RX8 172 "TypeCourtModel" "tokenSize" "I", .fieldLink RX8 7 "TypeCourtModel" "tape" "[B", .fieldLink RX8 169 "TypeCourtModel" "tokenAt" "I"] ++ wsX80)
def wsX8_isSignHere : List Cond := .code yX8_isSignHere cX8_isSignHere 2 (some .boolean) :: ([.fieldLink RX8 178 "TypeCourtModel" "token" "I", .fieldLink RX8 175 "TypeCourtModel" "sign" "I"] ++ wsX80)
def wsX8_wrong : List Cond := .code yX8_wrong cX8_wrong 3 none :: ([.fieldLink RX8 188 "TypeCourtModel" "fault" "I", .fieldLink RX8 191 "TypeCourtModel" "faultAt" "I"] ++ wsX80)
def wsX8_fine : List Cond := .code yX8_fine cX8_fine 1 (some .boolean) :: ([.fieldLink RX8 188 "TypeCourtModel" "fault" "I"] ++ wsX80)
def wsX8_misplaced : List Cond := .code yX8_misplaced cX8_misplaced 1 none :: ([.fieldLink RX8 178 "TypeCourtModel" "token" "I", .fieldLink RX8 169 "TypeCourtModel" "tokenAt" "I", .methodLink RX8 194 yX8_wrong, .instanceMethod yX8_wrong, .selects RX8 yX8_wrong yX8_wrong, .initialized RX8, .code yX8_wrong cX8_wrong 3 none, .fieldLink RX8 188 "TypeCourtModel" "fault" "I", .fieldLink RX8 191 "TypeCourtModel" "faultAt" "I"] ++ wsX80)
def wsX8_take_r1 : List Cond := [Cond.methodLink RX8 198 yX8_fine, Cond.instanceMethod yX8_fine, Cond.selects RX8 yX8_fine yX8_fine, Cond.initialized RX8, Cond.code yX8_fine cX8_fine 1 (some .boolean), Cond.fieldLink RX8 188 "TypeCourtModel" "fault" "I", Cond.methodLink RX8 202 yX8_isSignHere, Cond.instanceMethod yX8_isSignHere, Cond.selects RX8 yX8_isSignHere yX8_isSignHere, Cond.code yX8_isSignHere cX8_isSignHere 2 (some .boolean), Cond.fieldLink RX8 178 "TypeCourtModel" "token" "I", Cond.fieldLink RX8 175 "TypeCourtModel" "sign" "I", Cond.methodLink RX8 205 yX8_next, Cond.instanceMethod yX8_next, Cond.selects RX8 yX8_next yX8_next, Cond.code yX8_next cX8_next 2 none, Cond.fieldLink RX8 166 "TypeCourtModel" "at" "I", Cond.fieldLink RX8 147 "TypeCourtModel" "taped" "I", Cond.fieldLink RX8 7 "TypeCourtModel" "tape" "[B", Cond.fieldLink RX8 169 "TypeCourtModel" "tokenAt" "I", Cond.fieldLink RX8 172 "TypeCourtModel" "tokenSize" "I", Cond.methodLink RX8 181 yX8_isLetter, Cond.static yX8_isLetter, Cond.code yX8_isLetter cX8_isLetter 1 (some .boolean)]
def wsX8_take_r2 : List Cond := [Cond.constantLong RX8 158 (97), Cond.constantLong RX8 160 (122), Cond.methodLink RX8 154 yX8_in, Cond.static yX8_in, Cond.code yX8_in cX8_in 6 (some .boolean), Cond.methodLink RX8 185 yX8_isFigure, Cond.static yX8_isFigure, Cond.code yX8_isFigure cX8_isFigure 1 (some .boolean), Cond.constantLong RX8 162 (48), Cond.constantLong RX8 164 (57), Cond.methodLink RX8 208 yX8_misplaced, Cond.instanceMethod yX8_misplaced, Cond.selects RX8 yX8_misplaced yX8_misplaced, Cond.code yX8_misplaced cX8_misplaced 1 none, Cond.methodLink RX8 194 yX8_wrong, Cond.instanceMethod yX8_wrong, Cond.selects RX8 yX8_wrong yX8_wrong, Cond.code yX8_wrong cX8_wrong 3 none, Cond.fieldLink RX8 191 "TypeCourtModel" "faultAt" "I"]
def wsX8_take : List Cond := .code yX8_take cX8_take 2 none :: ((wsX8_take_r1 ++ wsX8_take_r2) ++ wsX80)
def wsX8_newNode : List Cond := .code yX8_newNode cX8_newNode 3 (some .int) :: ([.fieldLink RX8 211 "TypeCourtModel" "newNodes" "I", .fieldLink RX8 169 "TypeCourtModel" "tokenAt" "I", .fieldLink RX8 17 "TypeCourtModel" "kind" "[I", .fieldLink RX8 21 "TypeCourtModel" "one" "[I", .fieldLink RX8 24 "TypeCourtModel" "two" "[I", .fieldLink RX8 27 "TypeCourtModel" "atomOf" "[I", .fieldLink RX8 30 "TypeCourtModel" "byteOf" "[I", .methodLink RX8 194 yX8_wrong, .instanceMethod yX8_wrong, .selects RX8 yX8_wrong yX8_wrong, .initialized RX8, .code yX8_wrong cX8_wrong 3 none, .fieldLink RX8 188 "TypeCourtModel" "fault" "I", .fieldLink RX8 191 "TypeCourtModel" "faultAt" "I"] ++ wsX80)
def wsX8_isHere : List Cond := .code yX8_isHere cX8_isHere 6 (some .boolean) :: ([.fieldLink RX8 172 "TypeCourtModel" "tokenSize" "I", .fieldLink RX8 7 "TypeCourtModel" "tape" "[B", .fieldLink RX8 169 "TypeCourtModel" "tokenAt" "I"] ++ wsX80)
def wsX8_nameHere : List Cond := .code yX8_nameHere cX8_nameHere 2 (some .int) :: ([.fieldLink RX8 214 "TypeCourtModel" "newNames" "I", .fieldLink RX8 51 "TypeCourtModel" "nameLetters" "[B", .fieldLink RX8 54 "TypeCourtModel" "nameSize" "[I", .methodLink RX8 217 yX8_isHere, .instanceMethod yX8_isHere, .selects RX8 yX8_isHere yX8_isHere, .initialized RX8, .code yX8_isHere cX8_isHere 6 (some .boolean), .fieldLink RX8 172 "TypeCourtModel" "tokenSize" "I", .fieldLink RX8 7 "TypeCourtModel" "tape" "[B", .fieldLink RX8 169 "TypeCourtModel" "tokenAt" "I"] ++ wsX80)
def wsX8_roleHere : List Cond := .code yX8_roleHere cX8_roleHere 2 (some .int) :: ([.fieldLink RX8 221 "TypeCourtModel" "newRoles" "I", .fieldLink RX8 57 "TypeCourtModel" "roleLetters" "[B", .fieldLink RX8 60 "TypeCourtModel" "roleSize" "[I", .methodLink RX8 217 yX8_isHere, .instanceMethod yX8_isHere, .selects RX8 yX8_isHere yX8_isHere, .initialized RX8, .code yX8_isHere cX8_isHere 6 (some .boolean), .fieldLink RX8 172 "TypeCourtModel" "tokenSize" "I", .fieldLink RX8 7 "TypeCourtModel" "tape" "[B", .fieldLink RX8 169 "TypeCourtModel" "tokenAt" "I"] ++ wsX80)
def wsX8_readRole_r1 : List Cond := [Cond.fieldLink RX8 178 "TypeCourtModel" "token" "I", Cond.fieldLink RX8 169 "TypeCourtModel" "tokenAt" "I", Cond.fieldLink RX8 221 "TypeCourtModel" "newRoles" "I", Cond.fieldLink RX8 172 "TypeCourtModel" "tokenSize" "I", Cond.fieldLink RX8 57 "TypeCourtModel" "roleLetters" "[B", Cond.fieldLink RX8 7 "TypeCourtModel" "tape" "[B", Cond.fieldLink RX8 60 "TypeCourtModel" "roleSize" "[I", Cond.fieldLink RX8 63 "TypeCourtModel" "isSingle" "[Z", Cond.fieldLink RX8 70 "TypeCourtModel" "hasUnder" "[Z", Cond.methodLink RX8 198 yX8_fine, Cond.instanceMethod yX8_fine, Cond.selects RX8 yX8_fine yX8_fine, Cond.initialized RX8, Cond.code yX8_fine cX8_fine 1 (some .boolean), Cond.fieldLink RX8 188 "TypeCourtModel" "fault" "I", Cond.methodLink RX8 224 yX8_kept, Cond.instanceMethod yX8_kept, Cond.selects RX8 yX8_kept yX8_kept, Cond.code yX8_kept cX8_kept 6 (some .int), Cond.fieldLink RX8 13 "TypeCourtModel" "words" "[C", Cond.methodLink RX8 208 yX8_misplaced, Cond.instanceMethod yX8_misplaced, Cond.selects RX8 yX8_misplaced yX8_misplaced, Cond.code yX8_misplaced cX8_misplaced 1 none]
def wsX8_readRole_r2 : List Cond := [Cond.methodLink RX8 194 yX8_wrong, Cond.instanceMethod yX8_wrong, Cond.selects RX8 yX8_wrong yX8_wrong, Cond.code yX8_wrong cX8_wrong 3 none, Cond.fieldLink RX8 191 "TypeCourtModel" "faultAt" "I", Cond.methodLink RX8 228 yX8_roleHere, Cond.instanceMethod yX8_roleHere, Cond.selects RX8 yX8_roleHere yX8_roleHere, Cond.code yX8_roleHere cX8_roleHere 2 (some .int), Cond.methodLink RX8 217 yX8_isHere, Cond.instanceMethod yX8_isHere, Cond.selects RX8 yX8_isHere yX8_isHere, Cond.code yX8_isHere cX8_isHere 6 (some .boolean), Cond.methodLink RX8 231 yX8_nameHere, Cond.instanceMethod yX8_nameHere, Cond.selects RX8 yX8_nameHere yX8_nameHere, Cond.code yX8_nameHere cX8_nameHere 2 (some .int), Cond.fieldLink RX8 214 "TypeCourtModel" "newNames" "I", Cond.fieldLink RX8 51 "TypeCourtModel" "nameLetters" "[B", Cond.fieldLink RX8 54 "TypeCourtModel" "nameSize" "[I"]
def wsX8_readRole : List Cond := .code yX8_readRole cX8_readRole 3 (some .int) :: ((wsX8_readRole_r1 ++ wsX8_readRole_r2) ++ wsX80)
def wsX8_newAtom : List Cond := .code yX8_newAtom cX8_newAtom 6 none :: ([.fieldLink RX8 234 "TypeCourtModel" "newAtoms" "I", .fieldLink RX8 30 "TypeCourtModel" "byteOf" "[I", .fieldLink RX8 27 "TypeCourtModel" "atomOf" "[I", .fieldLink RX8 73 "TypeCourtModel" "atomRole" "[I", .fieldLink RX8 76 "TypeCourtModel" "atomName" "[I", .fieldLink RX8 79 "TypeCourtModel" "atomNode" "[I", .fieldLink RX8 82 "TypeCourtModel" "atomLess" "[Z", .methodLink RX8 194 yX8_wrong, .instanceMethod yX8_wrong, .selects RX8 yX8_wrong yX8_wrong, .initialized RX8, .code yX8_wrong cX8_wrong 3 none, .fieldLink RX8 188 "TypeCourtModel" "fault" "I", .fieldLink RX8 191 "TypeCourtModel" "faultAt" "I"] ++ wsX80)
def wsX8_readName_r1 : List Cond := [Cond.fieldLink RX8 169 "TypeCourtModel" "tokenAt" "I", Cond.fieldLink RX8 214 "TypeCourtModel" "newNames" "I", Cond.fieldLink RX8 172 "TypeCourtModel" "tokenSize" "I", Cond.fieldLink RX8 51 "TypeCourtModel" "nameLetters" "[B", Cond.fieldLink RX8 7 "TypeCourtModel" "tape" "[B", Cond.fieldLink RX8 54 "TypeCourtModel" "nameSize" "[I", Cond.fieldLink RX8 21 "TypeCourtModel" "one" "[I", Cond.fieldLink RX8 234 "TypeCourtModel" "newAtoms" "I", Cond.fieldLink RX8 76 "TypeCourtModel" "atomName" "[I", Cond.fieldLink RX8 27 "TypeCourtModel" "atomOf" "[I", Cond.methodLink RX8 231 yX8_nameHere, Cond.instanceMethod yX8_nameHere, Cond.selects RX8 yX8_nameHere yX8_nameHere, Cond.initialized RX8, Cond.code yX8_nameHere cX8_nameHere 2 (some .int), Cond.methodLink RX8 217 yX8_isHere, Cond.instanceMethod yX8_isHere, Cond.selects RX8 yX8_isHere yX8_isHere, Cond.code yX8_isHere cX8_isHere 6 (some .boolean), Cond.methodLink RX8 228 yX8_roleHere, Cond.instanceMethod yX8_roleHere, Cond.selects RX8 yX8_roleHere yX8_roleHere, Cond.code yX8_roleHere cX8_roleHere 2 (some .int), Cond.fieldLink RX8 221 "TypeCourtModel" "newRoles" "I"]
def wsX8_readName_r2 : List Cond := [Cond.fieldLink RX8 57 "TypeCourtModel" "roleLetters" "[B", Cond.fieldLink RX8 60 "TypeCourtModel" "roleSize" "[I", Cond.methodLink RX8 194 yX8_wrong, Cond.instanceMethod yX8_wrong, Cond.selects RX8 yX8_wrong yX8_wrong, Cond.code yX8_wrong cX8_wrong 3 none, Cond.fieldLink RX8 188 "TypeCourtModel" "fault" "I", Cond.fieldLink RX8 191 "TypeCourtModel" "faultAt" "I", Cond.methodLink RX8 237 yX8_newAtom, Cond.instanceMethod yX8_newAtom, Cond.selects RX8 yX8_newAtom yX8_newAtom, Cond.code yX8_newAtom cX8_newAtom 6 none, Cond.fieldLink RX8 30 "TypeCourtModel" "byteOf" "[I", Cond.fieldLink RX8 73 "TypeCourtModel" "atomRole" "[I", Cond.fieldLink RX8 79 "TypeCourtModel" "atomNode" "[I", Cond.fieldLink RX8 82 "TypeCourtModel" "atomLess" "[Z"]
def wsX8_readName : List Cond := .code yX8_readName cX8_readName 4 none :: ((wsX8_readName_r1 ++ wsX8_readName_r2) ++ wsX80)
def wsX8_areLike : List Cond := .code yX8_areLike cX8_areLike 8 (some .boolean) :: ([.fieldLink RX8 89 "TypeCourtModel" "pairA" "[I", .fieldLink RX8 92 "TypeCourtModel" "pairB" "[I", .fieldLink RX8 17 "TypeCourtModel" "kind" "[I", .fieldLink RX8 21 "TypeCourtModel" "one" "[I", .fieldLink RX8 24 "TypeCourtModel" "two" "[I"] ++ wsX80)
def wsX8_findAtom_r1 : List Cond := [Cond.fieldLink RX8 17 "TypeCourtModel" "kind" "[I", Cond.fieldLink RX8 24 "TypeCourtModel" "two" "[I", Cond.fieldLink RX8 234 "TypeCourtModel" "newAtoms" "I", Cond.fieldLink RX8 73 "TypeCourtModel" "atomRole" "[I", Cond.fieldLink RX8 21 "TypeCourtModel" "one" "[I", Cond.fieldLink RX8 82 "TypeCourtModel" "atomLess" "[Z", Cond.fieldLink RX8 79 "TypeCourtModel" "atomNode" "[I", Cond.fieldLink RX8 27 "TypeCourtModel" "atomOf" "[I", Cond.methodLink RX8 241 yX8_areLike, Cond.instanceMethod yX8_areLike, Cond.selects RX8 yX8_areLike yX8_areLike, Cond.initialized RX8, Cond.code yX8_areLike cX8_areLike 8 (some .boolean), Cond.fieldLink RX8 89 "TypeCourtModel" "pairA" "[I", Cond.fieldLink RX8 92 "TypeCourtModel" "pairB" "[I", Cond.methodLink RX8 237 yX8_newAtom, Cond.instanceMethod yX8_newAtom, Cond.selects RX8 yX8_newAtom yX8_newAtom, Cond.code yX8_newAtom cX8_newAtom 6 none, Cond.fieldLink RX8 30 "TypeCourtModel" "byteOf" "[I", Cond.fieldLink RX8 76 "TypeCourtModel" "atomName" "[I", Cond.methodLink RX8 194 yX8_wrong, Cond.instanceMethod yX8_wrong, Cond.selects RX8 yX8_wrong yX8_wrong]
def wsX8_findAtom_r2 : List Cond := [Cond.code yX8_wrong cX8_wrong 3 none, Cond.fieldLink RX8 188 "TypeCourtModel" "fault" "I", Cond.fieldLink RX8 191 "TypeCourtModel" "faultAt" "I"]
def wsX8_findAtom : List Cond := .code yX8_findAtom cX8_findAtom 5 none :: ((wsX8_findAtom_r1 ++ wsX8_findAtom_r2) ++ wsX80)
def wsX8_ended : List Cond := .code yX8_ended cX8_ended 2 none :: ([.fieldLink RX8 33 "TypeCourtModel" "order" "[I", .fieldLink RX8 245 "TypeCourtModel" "newOrder" "I"] ++ wsX80)
def wsX8_wait : List Cond := .code yX8_wait cX8_wait 3 none :: ([.fieldLink RX8 95 "TypeCourtModel" "waits" "[I", .fieldLink RX8 248 "TypeCourtModel" "waiting" "I", .fieldLink RX8 98 "TypeCourtModel" "waitNode" "[I"] ++ wsX80)
def wsX8_stand_r1 : List Cond := [Cond.fieldLink RX8 251 "TypeCourtModel" "operand" "I", Cond.fieldLink RX8 95 "TypeCourtModel" "waits" "[I", Cond.fieldLink RX8 248 "TypeCourtModel" "waiting" "I", Cond.fieldLink RX8 254 "TypeCourtModel" "deep" "I", Cond.fieldLink RX8 98 "TypeCourtModel" "waitNode" "[I", Cond.fieldLink RX8 24 "TypeCourtModel" "two" "[I", Cond.fieldLink RX8 17 "TypeCourtModel" "kind" "[I", Cond.fieldLink RX8 263 "TypeCourtModel" "wants" "Z", Cond.methodLink RX8 198 yX8_fine, Cond.instanceMethod yX8_fine, Cond.selects RX8 yX8_fine yX8_fine, Cond.initialized RX8, Cond.code yX8_fine cX8_fine 1 (some .boolean), Cond.fieldLink RX8 188 "TypeCourtModel" "fault" "I", Cond.methodLink RX8 257 yX8_ended, Cond.instanceMethod yX8_ended, Cond.selects RX8 yX8_ended yX8_ended, Cond.code yX8_ended cX8_ended 2 none, Cond.fieldLink RX8 33 "TypeCourtModel" "order" "[I", Cond.fieldLink RX8 245 "TypeCourtModel" "newOrder" "I", Cond.methodLink RX8 260 yX8_findAtom, Cond.instanceMethod yX8_findAtom, Cond.selects RX8 yX8_findAtom yX8_findAtom, Cond.code yX8_findAtom cX8_findAtom 5 none]
def wsX8_stand_r2 : List Cond := [Cond.fieldLink RX8 234 "TypeCourtModel" "newAtoms" "I", Cond.fieldLink RX8 73 "TypeCourtModel" "atomRole" "[I", Cond.fieldLink RX8 21 "TypeCourtModel" "one" "[I", Cond.fieldLink RX8 82 "TypeCourtModel" "atomLess" "[Z", Cond.fieldLink RX8 79 "TypeCourtModel" "atomNode" "[I", Cond.fieldLink RX8 27 "TypeCourtModel" "atomOf" "[I", Cond.methodLink RX8 241 yX8_areLike, Cond.instanceMethod yX8_areLike, Cond.selects RX8 yX8_areLike yX8_areLike, Cond.code yX8_areLike cX8_areLike 8 (some .boolean), Cond.fieldLink RX8 89 "TypeCourtModel" "pairA" "[I", Cond.fieldLink RX8 92 "TypeCourtModel" "pairB" "[I", Cond.methodLink RX8 237 yX8_newAtom, Cond.instanceMethod yX8_newAtom, Cond.selects RX8 yX8_newAtom yX8_newAtom, Cond.code yX8_newAtom cX8_newAtom 6 none, Cond.fieldLink RX8 30 "TypeCourtModel" "byteOf" "[I", Cond.fieldLink RX8 76 "TypeCourtModel" "atomName" "[I", Cond.methodLink RX8 194 yX8_wrong, Cond.instanceMethod yX8_wrong, Cond.selects RX8 yX8_wrong yX8_wrong, Cond.code yX8_wrong cX8_wrong 3 none, Cond.fieldLink RX8 191 "TypeCourtModel" "faultAt" "I"]
def wsX8_stand : List Cond := .code yX8_stand cX8_stand 3 none :: ((wsX8_stand_r1 ++ wsX8_stand_r2) ++ wsX80)
def wsX8_close : List Cond := .code yX8_close cX8_close 3 none :: ([.fieldLink RX8 95 "TypeCourtModel" "waits" "[I", .fieldLink RX8 248 "TypeCourtModel" "waiting" "I", .fieldLink RX8 17 "TypeCourtModel" "kind" "[I", .fieldLink RX8 98 "TypeCourtModel" "waitNode" "[I", .fieldLink RX8 24 "TypeCourtModel" "two" "[I", .fieldLink RX8 251 "TypeCourtModel" "operand" "I", .methodLink RX8 257 yX8_ended, .instanceMethod yX8_ended, .selects RX8 yX8_ended yX8_ended, .initialized RX8, .code yX8_ended cX8_ended 2 none, .fieldLink RX8 33 "TypeCourtModel" "order" "[I", .fieldLink RX8 245 "TypeCourtModel" "newOrder" "I"] ++ wsX80)
def wsX8_goesDeeper : List Cond := .code yX8_goesDeeper cX8_goesDeeper 1 (some .boolean) :: ([.fieldLink RX8 254 "TypeCourtModel" "deep" "I", .fieldLink RX8 169 "TypeCourtModel" "tokenAt" "I", .methodLink RX8 194 yX8_wrong, .instanceMethod yX8_wrong, .selects RX8 yX8_wrong yX8_wrong, .initialized RX8, .code yX8_wrong cX8_wrong 3 none, .fieldLink RX8 188 "TypeCourtModel" "fault" "I", .fieldLink RX8 191 "TypeCourtModel" "faultAt" "I"] ++ wsX80)
def wsX8_readOne_r1 : List Cond := [Cond.fieldLink RX8 178 "TypeCourtModel" "token" "I", Cond.fieldLink RX8 21 "TypeCourtModel" "one" "[I", Cond.methodLink RX8 224 yX8_kept, Cond.instanceMethod yX8_kept, Cond.selects RX8 yX8_kept yX8_kept, Cond.initialized RX8, Cond.code yX8_kept cX8_kept 6 (some .int), Cond.fieldLink RX8 13 "TypeCourtModel" "words" "[C", Cond.fieldLink RX8 172 "TypeCourtModel" "tokenSize" "I", Cond.fieldLink RX8 7 "TypeCourtModel" "tape" "[B", Cond.fieldLink RX8 169 "TypeCourtModel" "tokenAt" "I", Cond.methodLink RX8 202 yX8_isSignHere, Cond.instanceMethod yX8_isSignHere, Cond.selects RX8 yX8_isSignHere yX8_isSignHere, Cond.code yX8_isSignHere cX8_isSignHere 2 (some .boolean), Cond.fieldLink RX8 175 "TypeCourtModel" "sign" "I", Cond.methodLink RX8 267 yX8_goesDeeper, Cond.instanceMethod yX8_goesDeeper, Cond.selects RX8 yX8_goesDeeper yX8_goesDeeper, Cond.code yX8_goesDeeper cX8_goesDeeper 1 (some .boolean), Cond.fieldLink RX8 254 "TypeCourtModel" "deep" "I", Cond.methodLink RX8 194 yX8_wrong, Cond.instanceMethod yX8_wrong, Cond.selects RX8 yX8_wrong yX8_wrong]
def wsX8_readOne_r2 : List Cond := [Cond.code yX8_wrong cX8_wrong 3 none, Cond.fieldLink RX8 188 "TypeCourtModel" "fault" "I", Cond.fieldLink RX8 191 "TypeCourtModel" "faultAt" "I", Cond.methodLink RX8 270 yX8_wait, Cond.instanceMethod yX8_wait, Cond.selects RX8 yX8_wait yX8_wait, Cond.code yX8_wait cX8_wait 3 none, Cond.fieldLink RX8 95 "TypeCourtModel" "waits" "[I", Cond.fieldLink RX8 248 "TypeCourtModel" "waiting" "I", Cond.fieldLink RX8 98 "TypeCourtModel" "waitNode" "[I", Cond.methodLink RX8 205 yX8_next, Cond.instanceMethod yX8_next, Cond.selects RX8 yX8_next yX8_next, Cond.code yX8_next cX8_next 2 none, Cond.fieldLink RX8 166 "TypeCourtModel" "at" "I", Cond.fieldLink RX8 147 "TypeCourtModel" "taped" "I", Cond.methodLink RX8 181 yX8_isLetter, Cond.static yX8_isLetter, Cond.code yX8_isLetter cX8_isLetter 1 (some .boolean), Cond.constantLong RX8 158 (97), Cond.constantLong RX8 160 (122), Cond.methodLink RX8 154 yX8_in, Cond.static yX8_in, Cond.code yX8_in cX8_in 6 (some .boolean)]
def wsX8_readOne_r3 : List Cond := [Cond.methodLink RX8 185 yX8_isFigure, Cond.static yX8_isFigure, Cond.code yX8_isFigure cX8_isFigure 1 (some .boolean), Cond.constantLong RX8 162 (48), Cond.constantLong RX8 164 (57), Cond.methodLink RX8 208 yX8_misplaced, Cond.instanceMethod yX8_misplaced, Cond.selects RX8 yX8_misplaced yX8_misplaced, Cond.code yX8_misplaced cX8_misplaced 1 none, Cond.methodLink RX8 273 yX8_newNode, Cond.instanceMethod yX8_newNode, Cond.selects RX8 yX8_newNode yX8_newNode, Cond.code yX8_newNode cX8_newNode 3 (some .int), Cond.fieldLink RX8 211 "TypeCourtModel" "newNodes" "I", Cond.fieldLink RX8 17 "TypeCourtModel" "kind" "[I", Cond.fieldLink RX8 24 "TypeCourtModel" "two" "[I", Cond.fieldLink RX8 27 "TypeCourtModel" "atomOf" "[I", Cond.fieldLink RX8 30 "TypeCourtModel" "byteOf" "[I", Cond.methodLink RX8 198 yX8_fine, Cond.instanceMethod yX8_fine, Cond.selects RX8 yX8_fine yX8_fine, Cond.code yX8_fine cX8_fine 1 (some .boolean), Cond.methodLink RX8 277 yX8_readRole, Cond.instanceMethod yX8_readRole]
def wsX8_readOne_r4 : List Cond := [Cond.selects RX8 yX8_readRole yX8_readRole, Cond.code yX8_readRole cX8_readRole 3 (some .int), Cond.fieldLink RX8 221 "TypeCourtModel" "newRoles" "I", Cond.fieldLink RX8 57 "TypeCourtModel" "roleLetters" "[B", Cond.fieldLink RX8 60 "TypeCourtModel" "roleSize" "[I", Cond.fieldLink RX8 63 "TypeCourtModel" "isSingle" "[Z", Cond.fieldLink RX8 70 "TypeCourtModel" "hasUnder" "[Z", Cond.methodLink RX8 228 yX8_roleHere, Cond.instanceMethod yX8_roleHere, Cond.selects RX8 yX8_roleHere yX8_roleHere, Cond.code yX8_roleHere cX8_roleHere 2 (some .int), Cond.methodLink RX8 217 yX8_isHere, Cond.instanceMethod yX8_isHere, Cond.selects RX8 yX8_isHere yX8_isHere, Cond.code yX8_isHere cX8_isHere 6 (some .boolean), Cond.methodLink RX8 231 yX8_nameHere, Cond.instanceMethod yX8_nameHere, Cond.selects RX8 yX8_nameHere yX8_nameHere, Cond.code yX8_nameHere cX8_nameHere 2 (some .int), Cond.fieldLink RX8 214 "TypeCourtModel" "newNames" "I", Cond.fieldLink RX8 51 "TypeCourtModel" "nameLetters" "[B", Cond.fieldLink RX8 54 "TypeCourtModel" "nameSize" "[I", Cond.methodLink RX8 280 yX8_readName, Cond.instanceMethod yX8_readName]
def wsX8_readOne_r5 : List Cond := [Cond.selects RX8 yX8_readName yX8_readName, Cond.code yX8_readName cX8_readName 4 none, Cond.fieldLink RX8 234 "TypeCourtModel" "newAtoms" "I", Cond.fieldLink RX8 76 "TypeCourtModel" "atomName" "[I", Cond.methodLink RX8 237 yX8_newAtom, Cond.instanceMethod yX8_newAtom, Cond.selects RX8 yX8_newAtom yX8_newAtom, Cond.code yX8_newAtom cX8_newAtom 6 none, Cond.fieldLink RX8 73 "TypeCourtModel" "atomRole" "[I", Cond.fieldLink RX8 79 "TypeCourtModel" "atomNode" "[I", Cond.fieldLink RX8 82 "TypeCourtModel" "atomLess" "[Z", Cond.methodLink RX8 257 yX8_ended, Cond.instanceMethod yX8_ended, Cond.selects RX8 yX8_ended yX8_ended, Cond.code yX8_ended cX8_ended 2 none, Cond.fieldLink RX8 33 "TypeCourtModel" "order" "[I", Cond.fieldLink RX8 245 "TypeCourtModel" "newOrder" "I", Cond.methodLink RX8 283 yX8_stand, Cond.instanceMethod yX8_stand, Cond.selects RX8 yX8_stand yX8_stand, Cond.code yX8_stand cX8_stand 3 none, Cond.fieldLink RX8 251 "TypeCourtModel" "operand" "I", Cond.fieldLink RX8 263 "TypeCourtModel" "wants" "Z", Cond.methodLink RX8 260 yX8_findAtom]
def wsX8_readOne_r6 : List Cond := [Cond.instanceMethod yX8_findAtom, Cond.selects RX8 yX8_findAtom yX8_findAtom, Cond.code yX8_findAtom cX8_findAtom 5 none, Cond.methodLink RX8 241 yX8_areLike, Cond.instanceMethod yX8_areLike, Cond.selects RX8 yX8_areLike yX8_areLike, Cond.code yX8_areLike cX8_areLike 8 (some .boolean), Cond.fieldLink RX8 89 "TypeCourtModel" "pairA" "[I", Cond.fieldLink RX8 92 "TypeCourtModel" "pairB" "[I"]
def wsX8_readOne : List Cond := .code yX8_readOne cX8_readOne 3 none :: ((wsX8_readOne_r1 ++ (wsX8_readOne_r2 ++ (wsX8_readOne_r3 ++ (wsX8_readOne_r4 ++ (wsX8_readOne_r5 ++ wsX8_readOne_r6))))) ++ wsX80)
def wsX8_readBehind_r1 : List Cond := [Cond.fieldLink RX8 21 "TypeCourtModel" "one" "[I", Cond.fieldLink RX8 251 "TypeCourtModel" "operand" "I", Cond.fieldLink RX8 263 "TypeCourtModel" "wants" "Z", Cond.fieldLink RX8 95 "TypeCourtModel" "waits" "[I", Cond.fieldLink RX8 248 "TypeCourtModel" "waiting" "I", Cond.fieldLink RX8 254 "TypeCourtModel" "deep" "I", Cond.methodLink RX8 224 yX8_kept, Cond.instanceMethod yX8_kept, Cond.selects RX8 yX8_kept yX8_kept, Cond.initialized RX8, Cond.code yX8_kept cX8_kept 6 (some .int), Cond.fieldLink RX8 13 "TypeCourtModel" "words" "[C", Cond.fieldLink RX8 178 "TypeCourtModel" "token" "I", Cond.fieldLink RX8 172 "TypeCourtModel" "tokenSize" "I", Cond.fieldLink RX8 7 "TypeCourtModel" "tape" "[B", Cond.fieldLink RX8 169 "TypeCourtModel" "tokenAt" "I", Cond.methodLink RX8 286 yX8_close, Cond.instanceMethod yX8_close, Cond.selects RX8 yX8_close yX8_close, Cond.code yX8_close cX8_close 3 none, Cond.fieldLink RX8 17 "TypeCourtModel" "kind" "[I", Cond.fieldLink RX8 98 "TypeCourtModel" "waitNode" "[I", Cond.fieldLink RX8 24 "TypeCourtModel" "two" "[I", Cond.methodLink RX8 257 yX8_ended]
def wsX8_readBehind_r2 : List Cond := [Cond.instanceMethod yX8_ended, Cond.selects RX8 yX8_ended yX8_ended, Cond.code yX8_ended cX8_ended 2 none, Cond.fieldLink RX8 33 "TypeCourtModel" "order" "[I", Cond.fieldLink RX8 245 "TypeCourtModel" "newOrder" "I", Cond.methodLink RX8 273 yX8_newNode, Cond.instanceMethod yX8_newNode, Cond.selects RX8 yX8_newNode yX8_newNode, Cond.code yX8_newNode cX8_newNode 3 (some .int), Cond.fieldLink RX8 211 "TypeCourtModel" "newNodes" "I", Cond.fieldLink RX8 27 "TypeCourtModel" "atomOf" "[I", Cond.fieldLink RX8 30 "TypeCourtModel" "byteOf" "[I", Cond.methodLink RX8 194 yX8_wrong, Cond.instanceMethod yX8_wrong, Cond.selects RX8 yX8_wrong yX8_wrong, Cond.code yX8_wrong cX8_wrong 3 none, Cond.fieldLink RX8 188 "TypeCourtModel" "fault" "I", Cond.fieldLink RX8 191 "TypeCourtModel" "faultAt" "I", Cond.methodLink RX8 198 yX8_fine, Cond.instanceMethod yX8_fine, Cond.selects RX8 yX8_fine yX8_fine, Cond.code yX8_fine cX8_fine 1 (some .boolean), Cond.methodLink RX8 270 yX8_wait, Cond.instanceMethod yX8_wait]
def wsX8_readBehind_r3 : List Cond := [Cond.selects RX8 yX8_wait yX8_wait, Cond.code yX8_wait cX8_wait 3 none, Cond.methodLink RX8 205 yX8_next, Cond.instanceMethod yX8_next, Cond.selects RX8 yX8_next yX8_next, Cond.code yX8_next cX8_next 2 none, Cond.fieldLink RX8 166 "TypeCourtModel" "at" "I", Cond.fieldLink RX8 147 "TypeCourtModel" "taped" "I", Cond.fieldLink RX8 175 "TypeCourtModel" "sign" "I", Cond.methodLink RX8 181 yX8_isLetter, Cond.static yX8_isLetter, Cond.code yX8_isLetter cX8_isLetter 1 (some .boolean), Cond.constantLong RX8 158 (97), Cond.constantLong RX8 160 (122), Cond.methodLink RX8 154 yX8_in, Cond.static yX8_in, Cond.code yX8_in cX8_in 6 (some .boolean), Cond.methodLink RX8 185 yX8_isFigure, Cond.static yX8_isFigure, Cond.code yX8_isFigure cX8_isFigure 1 (some .boolean), Cond.constantLong RX8 162 (48), Cond.constantLong RX8 164 (57), Cond.methodLink RX8 202 yX8_isSignHere, Cond.instanceMethod yX8_isSignHere]
def wsX8_readBehind_r4 : List Cond := [Cond.selects RX8 yX8_isSignHere yX8_isSignHere, Cond.code yX8_isSignHere cX8_isSignHere 2 (some .boolean), Cond.methodLink RX8 283 yX8_stand, Cond.instanceMethod yX8_stand, Cond.selects RX8 yX8_stand yX8_stand, Cond.code yX8_stand cX8_stand 3 none, Cond.methodLink RX8 260 yX8_findAtom, Cond.instanceMethod yX8_findAtom, Cond.selects RX8 yX8_findAtom yX8_findAtom, Cond.code yX8_findAtom cX8_findAtom 5 none, Cond.fieldLink RX8 234 "TypeCourtModel" "newAtoms" "I", Cond.fieldLink RX8 73 "TypeCourtModel" "atomRole" "[I", Cond.fieldLink RX8 82 "TypeCourtModel" "atomLess" "[Z", Cond.fieldLink RX8 79 "TypeCourtModel" "atomNode" "[I", Cond.methodLink RX8 241 yX8_areLike, Cond.instanceMethod yX8_areLike, Cond.selects RX8 yX8_areLike yX8_areLike, Cond.code yX8_areLike cX8_areLike 8 (some .boolean), Cond.fieldLink RX8 89 "TypeCourtModel" "pairA" "[I", Cond.fieldLink RX8 92 "TypeCourtModel" "pairB" "[I", Cond.methodLink RX8 237 yX8_newAtom, Cond.instanceMethod yX8_newAtom, Cond.selects RX8 yX8_newAtom yX8_newAtom, Cond.code yX8_newAtom cX8_newAtom 6 none]
def wsX8_readBehind_r5 : List Cond := [Cond.fieldLink RX8 76 "TypeCourtModel" "atomName" "[I", Cond.methodLink RX8 208 yX8_misplaced, Cond.instanceMethod yX8_misplaced, Cond.selects RX8 yX8_misplaced yX8_misplaced, Cond.code yX8_misplaced cX8_misplaced 1 none]
def wsX8_readBehind : List Cond := .code yX8_readBehind cX8_readBehind 3 (some .boolean) :: ((wsX8_readBehind_r1 ++ (wsX8_readBehind_r2 ++ (wsX8_readBehind_r3 ++ (wsX8_readBehind_r4 ++ wsX8_readBehind_r5)))) ++ wsX80)
def wsX8_readConcept_r1 : List Cond := [Cond.fieldLink RX8 248 "TypeCourtModel" "waiting" "I", Cond.fieldLink RX8 263 "TypeCourtModel" "wants" "Z", Cond.fieldLink RX8 251 "TypeCourtModel" "operand" "I", Cond.fieldLink RX8 254 "TypeCourtModel" "deep" "I", Cond.methodLink RX8 270 yX8_wait, Cond.instanceMethod yX8_wait, Cond.selects RX8 yX8_wait yX8_wait, Cond.initialized RX8, Cond.code yX8_wait cX8_wait 3 none, Cond.fieldLink RX8 95 "TypeCourtModel" "waits" "[I", Cond.fieldLink RX8 98 "TypeCourtModel" "waitNode" "[I", Cond.methodLink RX8 198 yX8_fine, Cond.instanceMethod yX8_fine, Cond.selects RX8 yX8_fine yX8_fine, Cond.code yX8_fine cX8_fine 1 (some .boolean), Cond.fieldLink RX8 188 "TypeCourtModel" "fault" "I", Cond.methodLink RX8 289 yX8_readOne, Cond.instanceMethod yX8_readOne, Cond.selects RX8 yX8_readOne yX8_readOne, Cond.code yX8_readOne cX8_readOne 3 none, Cond.fieldLink RX8 178 "TypeCourtModel" "token" "I", Cond.fieldLink RX8 21 "TypeCourtModel" "one" "[I", Cond.methodLink RX8 224 yX8_kept, Cond.instanceMethod yX8_kept]
def wsX8_readConcept_r2 : List Cond := [Cond.selects RX8 yX8_kept yX8_kept, Cond.code yX8_kept cX8_kept 6 (some .int), Cond.fieldLink RX8 13 "TypeCourtModel" "words" "[C", Cond.fieldLink RX8 172 "TypeCourtModel" "tokenSize" "I", Cond.fieldLink RX8 7 "TypeCourtModel" "tape" "[B", Cond.fieldLink RX8 169 "TypeCourtModel" "tokenAt" "I", Cond.methodLink RX8 202 yX8_isSignHere, Cond.instanceMethod yX8_isSignHere, Cond.selects RX8 yX8_isSignHere yX8_isSignHere, Cond.code yX8_isSignHere cX8_isSignHere 2 (some .boolean), Cond.fieldLink RX8 175 "TypeCourtModel" "sign" "I", Cond.methodLink RX8 267 yX8_goesDeeper, Cond.instanceMethod yX8_goesDeeper, Cond.selects RX8 yX8_goesDeeper yX8_goesDeeper, Cond.code yX8_goesDeeper cX8_goesDeeper 1 (some .boolean), Cond.methodLink RX8 194 yX8_wrong, Cond.instanceMethod yX8_wrong, Cond.selects RX8 yX8_wrong yX8_wrong, Cond.code yX8_wrong cX8_wrong 3 none, Cond.fieldLink RX8 191 "TypeCourtModel" "faultAt" "I", Cond.methodLink RX8 205 yX8_next, Cond.instanceMethod yX8_next, Cond.selects RX8 yX8_next yX8_next, Cond.code yX8_next cX8_next 2 none]
def wsX8_readConcept_r3 : List Cond := [Cond.fieldLink RX8 166 "TypeCourtModel" "at" "I", Cond.fieldLink RX8 147 "TypeCourtModel" "taped" "I", Cond.methodLink RX8 181 yX8_isLetter, Cond.static yX8_isLetter, Cond.code yX8_isLetter cX8_isLetter 1 (some .boolean), Cond.constantLong RX8 158 (97), Cond.constantLong RX8 160 (122), Cond.methodLink RX8 154 yX8_in, Cond.static yX8_in, Cond.code yX8_in cX8_in 6 (some .boolean), Cond.methodLink RX8 185 yX8_isFigure, Cond.static yX8_isFigure, Cond.code yX8_isFigure cX8_isFigure 1 (some .boolean), Cond.constantLong RX8 162 (48), Cond.constantLong RX8 164 (57), Cond.methodLink RX8 208 yX8_misplaced, Cond.instanceMethod yX8_misplaced, Cond.selects RX8 yX8_misplaced yX8_misplaced, Cond.code yX8_misplaced cX8_misplaced 1 none, Cond.methodLink RX8 273 yX8_newNode, Cond.instanceMethod yX8_newNode, Cond.selects RX8 yX8_newNode yX8_newNode, Cond.code yX8_newNode cX8_newNode 3 (some .int), Cond.fieldLink RX8 211 "TypeCourtModel" "newNodes" "I"]
def wsX8_readConcept_r4 : List Cond := [Cond.fieldLink RX8 17 "TypeCourtModel" "kind" "[I", Cond.fieldLink RX8 24 "TypeCourtModel" "two" "[I", Cond.fieldLink RX8 27 "TypeCourtModel" "atomOf" "[I", Cond.fieldLink RX8 30 "TypeCourtModel" "byteOf" "[I", Cond.methodLink RX8 277 yX8_readRole, Cond.instanceMethod yX8_readRole, Cond.selects RX8 yX8_readRole yX8_readRole, Cond.code yX8_readRole cX8_readRole 3 (some .int), Cond.fieldLink RX8 221 "TypeCourtModel" "newRoles" "I", Cond.fieldLink RX8 57 "TypeCourtModel" "roleLetters" "[B", Cond.fieldLink RX8 60 "TypeCourtModel" "roleSize" "[I", Cond.fieldLink RX8 63 "TypeCourtModel" "isSingle" "[Z", Cond.fieldLink RX8 70 "TypeCourtModel" "hasUnder" "[Z", Cond.methodLink RX8 228 yX8_roleHere, Cond.instanceMethod yX8_roleHere, Cond.selects RX8 yX8_roleHere yX8_roleHere, Cond.code yX8_roleHere cX8_roleHere 2 (some .int), Cond.methodLink RX8 217 yX8_isHere, Cond.instanceMethod yX8_isHere, Cond.selects RX8 yX8_isHere yX8_isHere, Cond.code yX8_isHere cX8_isHere 6 (some .boolean), Cond.methodLink RX8 231 yX8_nameHere, Cond.instanceMethod yX8_nameHere, Cond.selects RX8 yX8_nameHere yX8_nameHere]
def wsX8_readConcept_r5 : List Cond := [Cond.code yX8_nameHere cX8_nameHere 2 (some .int), Cond.fieldLink RX8 214 "TypeCourtModel" "newNames" "I", Cond.fieldLink RX8 51 "TypeCourtModel" "nameLetters" "[B", Cond.fieldLink RX8 54 "TypeCourtModel" "nameSize" "[I", Cond.methodLink RX8 280 yX8_readName, Cond.instanceMethod yX8_readName, Cond.selects RX8 yX8_readName yX8_readName, Cond.code yX8_readName cX8_readName 4 none, Cond.fieldLink RX8 234 "TypeCourtModel" "newAtoms" "I", Cond.fieldLink RX8 76 "TypeCourtModel" "atomName" "[I", Cond.methodLink RX8 237 yX8_newAtom, Cond.instanceMethod yX8_newAtom, Cond.selects RX8 yX8_newAtom yX8_newAtom, Cond.code yX8_newAtom cX8_newAtom 6 none, Cond.fieldLink RX8 73 "TypeCourtModel" "atomRole" "[I", Cond.fieldLink RX8 79 "TypeCourtModel" "atomNode" "[I", Cond.fieldLink RX8 82 "TypeCourtModel" "atomLess" "[Z", Cond.methodLink RX8 257 yX8_ended, Cond.instanceMethod yX8_ended, Cond.selects RX8 yX8_ended yX8_ended, Cond.code yX8_ended cX8_ended 2 none, Cond.fieldLink RX8 33 "TypeCourtModel" "order" "[I", Cond.fieldLink RX8 245 "TypeCourtModel" "newOrder" "I", Cond.methodLink RX8 283 yX8_stand]
def wsX8_readConcept_r6 : List Cond := [Cond.instanceMethod yX8_stand, Cond.selects RX8 yX8_stand yX8_stand, Cond.code yX8_stand cX8_stand 3 none, Cond.methodLink RX8 260 yX8_findAtom, Cond.instanceMethod yX8_findAtom, Cond.selects RX8 yX8_findAtom yX8_findAtom, Cond.code yX8_findAtom cX8_findAtom 5 none, Cond.methodLink RX8 241 yX8_areLike, Cond.instanceMethod yX8_areLike, Cond.selects RX8 yX8_areLike yX8_areLike, Cond.code yX8_areLike cX8_areLike 8 (some .boolean), Cond.fieldLink RX8 89 "TypeCourtModel" "pairA" "[I", Cond.fieldLink RX8 92 "TypeCourtModel" "pairB" "[I", Cond.methodLink RX8 292 yX8_readBehind, Cond.instanceMethod yX8_readBehind, Cond.selects RX8 yX8_readBehind yX8_readBehind, Cond.code yX8_readBehind cX8_readBehind 3 (some .boolean), Cond.methodLink RX8 286 yX8_close, Cond.instanceMethod yX8_close, Cond.selects RX8 yX8_close yX8_close, Cond.code yX8_close cX8_close 3 none]
def wsX8_readConcept : List Cond := .code yX8_readConcept cX8_readConcept 2 (some .int) :: ((wsX8_readConcept_r1 ++ (wsX8_readConcept_r2 ++ (wsX8_readConcept_r3 ++ (wsX8_readConcept_r4 ++ (wsX8_readConcept_r5 ++ wsX8_readConcept_r6))))) ++ wsX80)
def wsX8_say : List Cond := .code yX8_say cX8_say 5 none :: ([.fieldLink RX8 295 "TypeCourtModel" "newSayings" "I", .fieldLink RX8 36 "TypeCourtModel" "said" "[I", .fieldLink RX8 39 "TypeCourtModel" "saidA" "[I", .fieldLink RX8 42 "TypeCourtModel" "saidB" "[I"] ++ wsX80)
def wsX8_reaches : List Cond := .code yX8_reaches cX8_reaches 5 (some .boolean) :: ([.fieldLink RX8 67 "TypeCourtModel" "isUnder" "[Z"] ++ wsX80)
def wsX8_readUnder_r1 : List Cond := [Cond.fieldLink RX8 63 "TypeCourtModel" "isSingle" "[Z", Cond.fieldLink RX8 169 "TypeCourtModel" "tokenAt" "I", Cond.fieldLink RX8 67 "TypeCourtModel" "isUnder" "[Z", Cond.fieldLink RX8 70 "TypeCourtModel" "hasUnder" "[Z", Cond.methodLink RX8 205 yX8_next, Cond.instanceMethod yX8_next, Cond.selects RX8 yX8_next yX8_next, Cond.initialized RX8, Cond.code yX8_next cX8_next 2 none, Cond.fieldLink RX8 166 "TypeCourtModel" "at" "I", Cond.fieldLink RX8 147 "TypeCourtModel" "taped" "I", Cond.fieldLink RX8 7 "TypeCourtModel" "tape" "[B", Cond.fieldLink RX8 172 "TypeCourtModel" "tokenSize" "I", Cond.fieldLink RX8 175 "TypeCourtModel" "sign" "I", Cond.fieldLink RX8 178 "TypeCourtModel" "token" "I", Cond.methodLink RX8 181 yX8_isLetter, Cond.static yX8_isLetter, Cond.code yX8_isLetter cX8_isLetter 1 (some .boolean), Cond.constantLong RX8 158 (97), Cond.constantLong RX8 160 (122), Cond.methodLink RX8 154 yX8_in, Cond.static yX8_in, Cond.code yX8_in cX8_in 6 (some .boolean), Cond.methodLink RX8 185 yX8_isFigure]
def wsX8_readUnder_r2 : List Cond := [Cond.static yX8_isFigure, Cond.code yX8_isFigure cX8_isFigure 1 (some .boolean), Cond.constantLong RX8 162 (48), Cond.constantLong RX8 164 (57), Cond.methodLink RX8 277 yX8_readRole, Cond.instanceMethod yX8_readRole, Cond.selects RX8 yX8_readRole yX8_readRole, Cond.code yX8_readRole cX8_readRole 3 (some .int), Cond.fieldLink RX8 221 "TypeCourtModel" "newRoles" "I", Cond.fieldLink RX8 57 "TypeCourtModel" "roleLetters" "[B", Cond.fieldLink RX8 60 "TypeCourtModel" "roleSize" "[I", Cond.methodLink RX8 198 yX8_fine, Cond.instanceMethod yX8_fine, Cond.selects RX8 yX8_fine yX8_fine, Cond.code yX8_fine cX8_fine 1 (some .boolean), Cond.fieldLink RX8 188 "TypeCourtModel" "fault" "I", Cond.methodLink RX8 224 yX8_kept, Cond.instanceMethod yX8_kept, Cond.selects RX8 yX8_kept yX8_kept, Cond.code yX8_kept cX8_kept 6 (some .int), Cond.fieldLink RX8 13 "TypeCourtModel" "words" "[C", Cond.methodLink RX8 208 yX8_misplaced, Cond.instanceMethod yX8_misplaced, Cond.selects RX8 yX8_misplaced yX8_misplaced]
def wsX8_readUnder_r3 : List Cond := [Cond.code yX8_misplaced cX8_misplaced 1 none, Cond.methodLink RX8 194 yX8_wrong, Cond.instanceMethod yX8_wrong, Cond.selects RX8 yX8_wrong yX8_wrong, Cond.code yX8_wrong cX8_wrong 3 none, Cond.fieldLink RX8 191 "TypeCourtModel" "faultAt" "I", Cond.methodLink RX8 228 yX8_roleHere, Cond.instanceMethod yX8_roleHere, Cond.selects RX8 yX8_roleHere yX8_roleHere, Cond.code yX8_roleHere cX8_roleHere 2 (some .int), Cond.methodLink RX8 217 yX8_isHere, Cond.instanceMethod yX8_isHere, Cond.selects RX8 yX8_isHere yX8_isHere, Cond.code yX8_isHere cX8_isHere 6 (some .boolean), Cond.methodLink RX8 231 yX8_nameHere, Cond.instanceMethod yX8_nameHere, Cond.selects RX8 yX8_nameHere yX8_nameHere, Cond.code yX8_nameHere cX8_nameHere 2 (some .int), Cond.fieldLink RX8 214 "TypeCourtModel" "newNames" "I", Cond.fieldLink RX8 51 "TypeCourtModel" "nameLetters" "[B", Cond.fieldLink RX8 54 "TypeCourtModel" "nameSize" "[I", Cond.methodLink RX8 298 yX8_reaches, Cond.instanceMethod yX8_reaches, Cond.selects RX8 yX8_reaches yX8_reaches]
def wsX8_readUnder_r4 : List Cond := [Cond.code yX8_reaches cX8_reaches 5 (some .boolean), Cond.methodLink RX8 301 yX8_say, Cond.instanceMethod yX8_say, Cond.selects RX8 yX8_say yX8_say, Cond.code yX8_say cX8_say 5 none, Cond.fieldLink RX8 295 "TypeCourtModel" "newSayings" "I", Cond.fieldLink RX8 36 "TypeCourtModel" "said" "[I", Cond.fieldLink RX8 39 "TypeCourtModel" "saidA" "[I", Cond.fieldLink RX8 42 "TypeCourtModel" "saidB" "[I"]
def wsX8_readUnder : List Cond := .code yX8_readUnder cX8_readUnder 3 none :: ((wsX8_readUnder_r1 ++ (wsX8_readUnder_r2 ++ (wsX8_readUnder_r3 ++ wsX8_readUnder_r4))) ++ wsX80)
def wsX8_readSingle_r1 : List Cond := [Cond.fieldLink RX8 70 "TypeCourtModel" "hasUnder" "[Z", Cond.fieldLink RX8 169 "TypeCourtModel" "tokenAt" "I", Cond.fieldLink RX8 63 "TypeCourtModel" "isSingle" "[Z", Cond.methodLink RX8 205 yX8_next, Cond.instanceMethod yX8_next, Cond.selects RX8 yX8_next yX8_next, Cond.initialized RX8, Cond.code yX8_next cX8_next 2 none, Cond.fieldLink RX8 166 "TypeCourtModel" "at" "I", Cond.fieldLink RX8 147 "TypeCourtModel" "taped" "I", Cond.fieldLink RX8 7 "TypeCourtModel" "tape" "[B", Cond.fieldLink RX8 172 "TypeCourtModel" "tokenSize" "I", Cond.fieldLink RX8 175 "TypeCourtModel" "sign" "I", Cond.fieldLink RX8 178 "TypeCourtModel" "token" "I", Cond.methodLink RX8 181 yX8_isLetter, Cond.static yX8_isLetter, Cond.code yX8_isLetter cX8_isLetter 1 (some .boolean), Cond.constantLong RX8 158 (97), Cond.constantLong RX8 160 (122), Cond.methodLink RX8 154 yX8_in, Cond.static yX8_in, Cond.code yX8_in cX8_in 6 (some .boolean), Cond.methodLink RX8 185 yX8_isFigure, Cond.static yX8_isFigure]
def wsX8_readSingle_r2 : List Cond := [Cond.code yX8_isFigure cX8_isFigure 1 (some .boolean), Cond.constantLong RX8 162 (48), Cond.constantLong RX8 164 (57), Cond.methodLink RX8 277 yX8_readRole, Cond.instanceMethod yX8_readRole, Cond.selects RX8 yX8_readRole yX8_readRole, Cond.code yX8_readRole cX8_readRole 3 (some .int), Cond.fieldLink RX8 221 "TypeCourtModel" "newRoles" "I", Cond.fieldLink RX8 57 "TypeCourtModel" "roleLetters" "[B", Cond.fieldLink RX8 60 "TypeCourtModel" "roleSize" "[I", Cond.methodLink RX8 198 yX8_fine, Cond.instanceMethod yX8_fine, Cond.selects RX8 yX8_fine yX8_fine, Cond.code yX8_fine cX8_fine 1 (some .boolean), Cond.fieldLink RX8 188 "TypeCourtModel" "fault" "I", Cond.methodLink RX8 224 yX8_kept, Cond.instanceMethod yX8_kept, Cond.selects RX8 yX8_kept yX8_kept, Cond.code yX8_kept cX8_kept 6 (some .int), Cond.fieldLink RX8 13 "TypeCourtModel" "words" "[C", Cond.methodLink RX8 208 yX8_misplaced, Cond.instanceMethod yX8_misplaced, Cond.selects RX8 yX8_misplaced yX8_misplaced, Cond.code yX8_misplaced cX8_misplaced 1 none]
def wsX8_readSingle_r3 : List Cond := [Cond.methodLink RX8 194 yX8_wrong, Cond.instanceMethod yX8_wrong, Cond.selects RX8 yX8_wrong yX8_wrong, Cond.code yX8_wrong cX8_wrong 3 none, Cond.fieldLink RX8 191 "TypeCourtModel" "faultAt" "I", Cond.methodLink RX8 228 yX8_roleHere, Cond.instanceMethod yX8_roleHere, Cond.selects RX8 yX8_roleHere yX8_roleHere, Cond.code yX8_roleHere cX8_roleHere 2 (some .int), Cond.methodLink RX8 217 yX8_isHere, Cond.instanceMethod yX8_isHere, Cond.selects RX8 yX8_isHere yX8_isHere, Cond.code yX8_isHere cX8_isHere 6 (some .boolean), Cond.methodLink RX8 231 yX8_nameHere, Cond.instanceMethod yX8_nameHere, Cond.selects RX8 yX8_nameHere yX8_nameHere, Cond.code yX8_nameHere cX8_nameHere 2 (some .int), Cond.fieldLink RX8 214 "TypeCourtModel" "newNames" "I", Cond.fieldLink RX8 51 "TypeCourtModel" "nameLetters" "[B", Cond.fieldLink RX8 54 "TypeCourtModel" "nameSize" "[I", Cond.methodLink RX8 301 yX8_say, Cond.instanceMethod yX8_say, Cond.selects RX8 yX8_say yX8_say, Cond.code yX8_say cX8_say 5 none]
def wsX8_readSingle_r4 : List Cond := [Cond.fieldLink RX8 295 "TypeCourtModel" "newSayings" "I", Cond.fieldLink RX8 36 "TypeCourtModel" "said" "[I", Cond.fieldLink RX8 39 "TypeCourtModel" "saidA" "[I", Cond.fieldLink RX8 42 "TypeCourtModel" "saidB" "[I"]
def wsX8_readSingle : List Cond := .code yX8_readSingle cX8_readSingle 2 none :: ((wsX8_readSingle_r1 ++ (wsX8_readSingle_r2 ++ (wsX8_readSingle_r3 ++ wsX8_readSingle_r4))) ++ wsX80)
def wsX8_readAsk_r1 : List Cond := [Cond.fieldLink RX8 305 "TypeCourtModel" "newQuestions" "I", Cond.fieldLink RX8 169 "TypeCourtModel" "tokenAt" "I", Cond.fieldLink RX8 48 "TypeCourtModel" "question" "[I", Cond.methodLink RX8 194 yX8_wrong, Cond.instanceMethod yX8_wrong, Cond.selects RX8 yX8_wrong yX8_wrong, Cond.initialized RX8, Cond.code yX8_wrong cX8_wrong 3 none, Cond.fieldLink RX8 188 "TypeCourtModel" "fault" "I", Cond.fieldLink RX8 191 "TypeCourtModel" "faultAt" "I", Cond.methodLink RX8 205 yX8_next, Cond.instanceMethod yX8_next, Cond.selects RX8 yX8_next yX8_next, Cond.code yX8_next cX8_next 2 none, Cond.fieldLink RX8 166 "TypeCourtModel" "at" "I", Cond.fieldLink RX8 147 "TypeCourtModel" "taped" "I", Cond.fieldLink RX8 7 "TypeCourtModel" "tape" "[B", Cond.fieldLink RX8 172 "TypeCourtModel" "tokenSize" "I", Cond.fieldLink RX8 175 "TypeCourtModel" "sign" "I", Cond.fieldLink RX8 178 "TypeCourtModel" "token" "I", Cond.methodLink RX8 181 yX8_isLetter, Cond.static yX8_isLetter, Cond.code yX8_isLetter cX8_isLetter 1 (some .boolean), Cond.constantLong RX8 158 (97)]
def wsX8_readAsk_r2 : List Cond := [Cond.constantLong RX8 160 (122), Cond.methodLink RX8 154 yX8_in, Cond.static yX8_in, Cond.code yX8_in cX8_in 6 (some .boolean), Cond.methodLink RX8 185 yX8_isFigure, Cond.static yX8_isFigure, Cond.code yX8_isFigure cX8_isFigure 1 (some .boolean), Cond.constantLong RX8 162 (48), Cond.constantLong RX8 164 (57), Cond.methodLink RX8 308 yX8_readConcept, Cond.instanceMethod yX8_readConcept, Cond.selects RX8 yX8_readConcept yX8_readConcept, Cond.code yX8_readConcept cX8_readConcept 2 (some .int), Cond.fieldLink RX8 248 "TypeCourtModel" "waiting" "I", Cond.fieldLink RX8 263 "TypeCourtModel" "wants" "Z", Cond.fieldLink RX8 251 "TypeCourtModel" "operand" "I", Cond.fieldLink RX8 254 "TypeCourtModel" "deep" "I", Cond.methodLink RX8 270 yX8_wait, Cond.instanceMethod yX8_wait, Cond.selects RX8 yX8_wait yX8_wait, Cond.code yX8_wait cX8_wait 3 none, Cond.fieldLink RX8 95 "TypeCourtModel" "waits" "[I", Cond.fieldLink RX8 98 "TypeCourtModel" "waitNode" "[I", Cond.methodLink RX8 198 yX8_fine]
def wsX8_readAsk_r3 : List Cond := [Cond.instanceMethod yX8_fine, Cond.selects RX8 yX8_fine yX8_fine, Cond.code yX8_fine cX8_fine 1 (some .boolean), Cond.methodLink RX8 289 yX8_readOne, Cond.instanceMethod yX8_readOne, Cond.selects RX8 yX8_readOne yX8_readOne, Cond.code yX8_readOne cX8_readOne 3 none, Cond.fieldLink RX8 21 "TypeCourtModel" "one" "[I", Cond.methodLink RX8 224 yX8_kept, Cond.instanceMethod yX8_kept, Cond.selects RX8 yX8_kept yX8_kept, Cond.code yX8_kept cX8_kept 6 (some .int), Cond.fieldLink RX8 13 "TypeCourtModel" "words" "[C", Cond.methodLink RX8 202 yX8_isSignHere, Cond.instanceMethod yX8_isSignHere, Cond.selects RX8 yX8_isSignHere yX8_isSignHere, Cond.code yX8_isSignHere cX8_isSignHere 2 (some .boolean), Cond.methodLink RX8 267 yX8_goesDeeper, Cond.instanceMethod yX8_goesDeeper, Cond.selects RX8 yX8_goesDeeper yX8_goesDeeper, Cond.code yX8_goesDeeper cX8_goesDeeper 1 (some .boolean), Cond.methodLink RX8 208 yX8_misplaced, Cond.instanceMethod yX8_misplaced, Cond.selects RX8 yX8_misplaced yX8_misplaced]
def wsX8_readAsk_r4 : List Cond := [Cond.code yX8_misplaced cX8_misplaced 1 none, Cond.methodLink RX8 273 yX8_newNode, Cond.instanceMethod yX8_newNode, Cond.selects RX8 yX8_newNode yX8_newNode, Cond.code yX8_newNode cX8_newNode 3 (some .int), Cond.fieldLink RX8 211 "TypeCourtModel" "newNodes" "I", Cond.fieldLink RX8 17 "TypeCourtModel" "kind" "[I", Cond.fieldLink RX8 24 "TypeCourtModel" "two" "[I", Cond.fieldLink RX8 27 "TypeCourtModel" "atomOf" "[I", Cond.fieldLink RX8 30 "TypeCourtModel" "byteOf" "[I", Cond.methodLink RX8 277 yX8_readRole, Cond.instanceMethod yX8_readRole, Cond.selects RX8 yX8_readRole yX8_readRole, Cond.code yX8_readRole cX8_readRole 3 (some .int), Cond.fieldLink RX8 221 "TypeCourtModel" "newRoles" "I", Cond.fieldLink RX8 57 "TypeCourtModel" "roleLetters" "[B", Cond.fieldLink RX8 60 "TypeCourtModel" "roleSize" "[I", Cond.fieldLink RX8 63 "TypeCourtModel" "isSingle" "[Z", Cond.fieldLink RX8 70 "TypeCourtModel" "hasUnder" "[Z", Cond.methodLink RX8 228 yX8_roleHere, Cond.instanceMethod yX8_roleHere, Cond.selects RX8 yX8_roleHere yX8_roleHere, Cond.code yX8_roleHere cX8_roleHere 2 (some .int), Cond.methodLink RX8 217 yX8_isHere]
def wsX8_readAsk_r5 : List Cond := [Cond.instanceMethod yX8_isHere, Cond.selects RX8 yX8_isHere yX8_isHere, Cond.code yX8_isHere cX8_isHere 6 (some .boolean), Cond.methodLink RX8 231 yX8_nameHere, Cond.instanceMethod yX8_nameHere, Cond.selects RX8 yX8_nameHere yX8_nameHere, Cond.code yX8_nameHere cX8_nameHere 2 (some .int), Cond.fieldLink RX8 214 "TypeCourtModel" "newNames" "I", Cond.fieldLink RX8 51 "TypeCourtModel" "nameLetters" "[B", Cond.fieldLink RX8 54 "TypeCourtModel" "nameSize" "[I", Cond.methodLink RX8 280 yX8_readName, Cond.instanceMethod yX8_readName, Cond.selects RX8 yX8_readName yX8_readName, Cond.code yX8_readName cX8_readName 4 none, Cond.fieldLink RX8 234 "TypeCourtModel" "newAtoms" "I", Cond.fieldLink RX8 76 "TypeCourtModel" "atomName" "[I", Cond.methodLink RX8 237 yX8_newAtom, Cond.instanceMethod yX8_newAtom, Cond.selects RX8 yX8_newAtom yX8_newAtom, Cond.code yX8_newAtom cX8_newAtom 6 none, Cond.fieldLink RX8 73 "TypeCourtModel" "atomRole" "[I", Cond.fieldLink RX8 79 "TypeCourtModel" "atomNode" "[I", Cond.fieldLink RX8 82 "TypeCourtModel" "atomLess" "[Z", Cond.methodLink RX8 257 yX8_ended]
def wsX8_readAsk_r6 : List Cond := [Cond.instanceMethod yX8_ended, Cond.selects RX8 yX8_ended yX8_ended, Cond.code yX8_ended cX8_ended 2 none, Cond.fieldLink RX8 33 "TypeCourtModel" "order" "[I", Cond.fieldLink RX8 245 "TypeCourtModel" "newOrder" "I", Cond.methodLink RX8 283 yX8_stand, Cond.instanceMethod yX8_stand, Cond.selects RX8 yX8_stand yX8_stand, Cond.code yX8_stand cX8_stand 3 none, Cond.methodLink RX8 260 yX8_findAtom, Cond.instanceMethod yX8_findAtom, Cond.selects RX8 yX8_findAtom yX8_findAtom, Cond.code yX8_findAtom cX8_findAtom 5 none, Cond.methodLink RX8 241 yX8_areLike, Cond.instanceMethod yX8_areLike, Cond.selects RX8 yX8_areLike yX8_areLike, Cond.code yX8_areLike cX8_areLike 8 (some .boolean), Cond.fieldLink RX8 89 "TypeCourtModel" "pairA" "[I", Cond.fieldLink RX8 92 "TypeCourtModel" "pairB" "[I", Cond.methodLink RX8 292 yX8_readBehind, Cond.instanceMethod yX8_readBehind, Cond.selects RX8 yX8_readBehind yX8_readBehind, Cond.code yX8_readBehind cX8_readBehind 3 (some .boolean), Cond.methodLink RX8 286 yX8_close]
def wsX8_readAsk_r7 : List Cond := [Cond.instanceMethod yX8_close, Cond.selects RX8 yX8_close yX8_close, Cond.code yX8_close cX8_close 3 none, Cond.methodLink RX8 301 yX8_say, Cond.instanceMethod yX8_say, Cond.selects RX8 yX8_say yX8_say, Cond.code yX8_say cX8_say 5 none, Cond.fieldLink RX8 295 "TypeCourtModel" "newSayings" "I", Cond.fieldLink RX8 36 "TypeCourtModel" "said" "[I", Cond.fieldLink RX8 39 "TypeCourtModel" "saidA" "[I", Cond.fieldLink RX8 42 "TypeCourtModel" "saidB" "[I"]
def wsX8_readAsk : List Cond := .code yX8_readAsk cX8_readAsk 2 none :: ((wsX8_readAsk_r1 ++ (wsX8_readAsk_r2 ++ (wsX8_readAsk_r3 ++ (wsX8_readAsk_r4 ++ (wsX8_readAsk_r5 ++ (wsX8_readAsk_r6 ++ wsX8_readAsk_r7)))))) ++ wsX80)
def wsX8_readRule_r1 : List Cond := [Cond.fieldLink RX8 178 "TypeCourtModel" "token" "I", Cond.fieldLink RX8 311 "TypeCourtModel" "newRules" "I", Cond.fieldLink RX8 169 "TypeCourtModel" "tokenAt" "I", Cond.fieldLink RX8 175 "TypeCourtModel" "sign" "I", Cond.fieldLink RX8 45 "TypeCourtModel" "rule" "[I", Cond.fieldLink RX8 295 "TypeCourtModel" "newSayings" "I", Cond.methodLink RX8 224 yX8_kept, Cond.instanceMethod yX8_kept, Cond.selects RX8 yX8_kept yX8_kept, Cond.initialized RX8, Cond.code yX8_kept cX8_kept 6 (some .int), Cond.fieldLink RX8 13 "TypeCourtModel" "words" "[C", Cond.fieldLink RX8 172 "TypeCourtModel" "tokenSize" "I", Cond.fieldLink RX8 7 "TypeCourtModel" "tape" "[B", Cond.methodLink RX8 202 yX8_isSignHere, Cond.instanceMethod yX8_isSignHere, Cond.selects RX8 yX8_isSignHere yX8_isSignHere, Cond.code yX8_isSignHere cX8_isSignHere 2 (some .boolean), Cond.methodLink RX8 208 yX8_misplaced, Cond.instanceMethod yX8_misplaced, Cond.selects RX8 yX8_misplaced yX8_misplaced, Cond.code yX8_misplaced cX8_misplaced 1 none, Cond.methodLink RX8 194 yX8_wrong, Cond.instanceMethod yX8_wrong]
def wsX8_readRule_r2 : List Cond := [Cond.selects RX8 yX8_wrong yX8_wrong, Cond.code yX8_wrong cX8_wrong 3 none, Cond.fieldLink RX8 188 "TypeCourtModel" "fault" "I", Cond.fieldLink RX8 191 "TypeCourtModel" "faultAt" "I", Cond.methodLink RX8 198 yX8_fine, Cond.instanceMethod yX8_fine, Cond.selects RX8 yX8_fine yX8_fine, Cond.code yX8_fine cX8_fine 1 (some .boolean), Cond.methodLink RX8 308 yX8_readConcept, Cond.instanceMethod yX8_readConcept, Cond.selects RX8 yX8_readConcept yX8_readConcept, Cond.code yX8_readConcept cX8_readConcept 2 (some .int), Cond.fieldLink RX8 248 "TypeCourtModel" "waiting" "I", Cond.fieldLink RX8 263 "TypeCourtModel" "wants" "Z", Cond.fieldLink RX8 251 "TypeCourtModel" "operand" "I", Cond.fieldLink RX8 254 "TypeCourtModel" "deep" "I", Cond.methodLink RX8 270 yX8_wait, Cond.instanceMethod yX8_wait, Cond.selects RX8 yX8_wait yX8_wait, Cond.code yX8_wait cX8_wait 3 none, Cond.fieldLink RX8 95 "TypeCourtModel" "waits" "[I", Cond.fieldLink RX8 98 "TypeCourtModel" "waitNode" "[I", Cond.methodLink RX8 289 yX8_readOne, Cond.instanceMethod yX8_readOne]
def wsX8_readRule_r3 : List Cond := [Cond.selects RX8 yX8_readOne yX8_readOne, Cond.code yX8_readOne cX8_readOne 3 none, Cond.fieldLink RX8 21 "TypeCourtModel" "one" "[I", Cond.methodLink RX8 267 yX8_goesDeeper, Cond.instanceMethod yX8_goesDeeper, Cond.selects RX8 yX8_goesDeeper yX8_goesDeeper, Cond.code yX8_goesDeeper cX8_goesDeeper 1 (some .boolean), Cond.methodLink RX8 205 yX8_next, Cond.instanceMethod yX8_next, Cond.selects RX8 yX8_next yX8_next, Cond.code yX8_next cX8_next 2 none, Cond.fieldLink RX8 166 "TypeCourtModel" "at" "I", Cond.fieldLink RX8 147 "TypeCourtModel" "taped" "I", Cond.methodLink RX8 181 yX8_isLetter, Cond.static yX8_isLetter, Cond.code yX8_isLetter cX8_isLetter 1 (some .boolean), Cond.constantLong RX8 158 (97), Cond.constantLong RX8 160 (122), Cond.methodLink RX8 154 yX8_in, Cond.static yX8_in, Cond.code yX8_in cX8_in 6 (some .boolean), Cond.methodLink RX8 185 yX8_isFigure, Cond.static yX8_isFigure, Cond.code yX8_isFigure cX8_isFigure 1 (some .boolean)]
def wsX8_readRule_r4 : List Cond := [Cond.constantLong RX8 162 (48), Cond.constantLong RX8 164 (57), Cond.methodLink RX8 273 yX8_newNode, Cond.instanceMethod yX8_newNode, Cond.selects RX8 yX8_newNode yX8_newNode, Cond.code yX8_newNode cX8_newNode 3 (some .int), Cond.fieldLink RX8 211 "TypeCourtModel" "newNodes" "I", Cond.fieldLink RX8 17 "TypeCourtModel" "kind" "[I", Cond.fieldLink RX8 24 "TypeCourtModel" "two" "[I", Cond.fieldLink RX8 27 "TypeCourtModel" "atomOf" "[I", Cond.fieldLink RX8 30 "TypeCourtModel" "byteOf" "[I", Cond.methodLink RX8 277 yX8_readRole, Cond.instanceMethod yX8_readRole, Cond.selects RX8 yX8_readRole yX8_readRole, Cond.code yX8_readRole cX8_readRole 3 (some .int), Cond.fieldLink RX8 221 "TypeCourtModel" "newRoles" "I", Cond.fieldLink RX8 57 "TypeCourtModel" "roleLetters" "[B", Cond.fieldLink RX8 60 "TypeCourtModel" "roleSize" "[I", Cond.fieldLink RX8 63 "TypeCourtModel" "isSingle" "[Z", Cond.fieldLink RX8 70 "TypeCourtModel" "hasUnder" "[Z", Cond.methodLink RX8 228 yX8_roleHere, Cond.instanceMethod yX8_roleHere, Cond.selects RX8 yX8_roleHere yX8_roleHere, Cond.code yX8_roleHere cX8_roleHere 2 (some .int)]
def wsX8_readRule_r5 : List Cond := [Cond.methodLink RX8 217 yX8_isHere, Cond.instanceMethod yX8_isHere, Cond.selects RX8 yX8_isHere yX8_isHere, Cond.code yX8_isHere cX8_isHere 6 (some .boolean), Cond.methodLink RX8 231 yX8_nameHere, Cond.instanceMethod yX8_nameHere, Cond.selects RX8 yX8_nameHere yX8_nameHere, Cond.code yX8_nameHere cX8_nameHere 2 (some .int), Cond.fieldLink RX8 214 "TypeCourtModel" "newNames" "I", Cond.fieldLink RX8 51 "TypeCourtModel" "nameLetters" "[B", Cond.fieldLink RX8 54 "TypeCourtModel" "nameSize" "[I", Cond.methodLink RX8 280 yX8_readName, Cond.instanceMethod yX8_readName, Cond.selects RX8 yX8_readName yX8_readName, Cond.code yX8_readName cX8_readName 4 none, Cond.fieldLink RX8 234 "TypeCourtModel" "newAtoms" "I", Cond.fieldLink RX8 76 "TypeCourtModel" "atomName" "[I", Cond.methodLink RX8 237 yX8_newAtom, Cond.instanceMethod yX8_newAtom, Cond.selects RX8 yX8_newAtom yX8_newAtom, Cond.code yX8_newAtom cX8_newAtom 6 none, Cond.fieldLink RX8 73 "TypeCourtModel" "atomRole" "[I", Cond.fieldLink RX8 79 "TypeCourtModel" "atomNode" "[I", Cond.fieldLink RX8 82 "TypeCourtModel" "atomLess" "[Z"]
def wsX8_readRule_r6 : List Cond := [Cond.methodLink RX8 257 yX8_ended, Cond.instanceMethod yX8_ended, Cond.selects RX8 yX8_ended yX8_ended, Cond.code yX8_ended cX8_ended 2 none, Cond.fieldLink RX8 33 "TypeCourtModel" "order" "[I", Cond.fieldLink RX8 245 "TypeCourtModel" "newOrder" "I", Cond.methodLink RX8 283 yX8_stand, Cond.instanceMethod yX8_stand, Cond.selects RX8 yX8_stand yX8_stand, Cond.code yX8_stand cX8_stand 3 none, Cond.methodLink RX8 260 yX8_findAtom, Cond.instanceMethod yX8_findAtom, Cond.selects RX8 yX8_findAtom yX8_findAtom, Cond.code yX8_findAtom cX8_findAtom 5 none, Cond.methodLink RX8 241 yX8_areLike, Cond.instanceMethod yX8_areLike, Cond.selects RX8 yX8_areLike yX8_areLike, Cond.code yX8_areLike cX8_areLike 8 (some .boolean), Cond.fieldLink RX8 89 "TypeCourtModel" "pairA" "[I", Cond.fieldLink RX8 92 "TypeCourtModel" "pairB" "[I", Cond.methodLink RX8 292 yX8_readBehind, Cond.instanceMethod yX8_readBehind, Cond.selects RX8 yX8_readBehind yX8_readBehind, Cond.code yX8_readBehind cX8_readBehind 3 (some .boolean)]
def wsX8_readRule_r7 : List Cond := [Cond.methodLink RX8 286 yX8_close, Cond.instanceMethod yX8_close, Cond.selects RX8 yX8_close yX8_close, Cond.code yX8_close cX8_close 3 none, Cond.methodLink RX8 301 yX8_say, Cond.instanceMethod yX8_say, Cond.selects RX8 yX8_say yX8_say, Cond.code yX8_say cX8_say 5 none, Cond.fieldLink RX8 36 "TypeCourtModel" "said" "[I", Cond.fieldLink RX8 39 "TypeCourtModel" "saidA" "[I", Cond.fieldLink RX8 42 "TypeCourtModel" "saidB" "[I"]
def wsX8_readRule : List Cond := .code yX8_readRule cX8_readRule 5 none :: ((wsX8_readRule_r1 ++ (wsX8_readRule_r2 ++ (wsX8_readRule_r3 ++ (wsX8_readRule_r4 ++ (wsX8_readRule_r5 ++ (wsX8_readRule_r6 ++ wsX8_readRule_r7)))))) ++ wsX80)
def wsX8_moved : List Cond := .code yX8_moved cX8_moved 1 (some .int) :: ([])
def wsX8_types : List Cond := .code yX8_types cX8_types 1 (some .int) :: ([.fieldLink RX8 353 "TypeCourtModel" "atoms" "I"] ++ wsX80)
def wsX8_isBelow : List Cond := .code yX8_isBelow cX8_isBelow 5 (some .boolean) :: ([.fieldLink RX8 67 "TypeCourtModel" "isUnder" "[Z"] ++ wsX80)
def wsX8_findTruths : List Cond := .code yX8_findTruths cX8_findTruths 5 none :: ([.fieldLink RX8 332 "TypeCourtModel" "nodes" "I", .fieldLink RX8 33 "TypeCourtModel" "order" "[I", .fieldLink RX8 17 "TypeCourtModel" "kind" "[I", .fieldLink RX8 102 "TypeCourtModel" "is" "[Z", .fieldLink RX8 27 "TypeCourtModel" "atomOf" "[I", .fieldLink RX8 24 "TypeCourtModel" "two" "[I", .fieldLink RX8 21 "TypeCourtModel" "one" "[I", .fieldLink RX8 105 "TypeCourtModel" "atX" "[I", .fieldLink RX8 353 "TypeCourtModel" "atoms" "I", .fieldLink RX8 73 "TypeCourtModel" "atomRole" "[I", .fieldLink RX8 79 "TypeCourtModel" "atomNode" "[I", .fieldLink RX8 82 "TypeCourtModel" "atomLess" "[Z", .fieldLink RX8 108 "TypeCourtModel" "roleAtoms" "[I", .fieldLink RX8 111 "TypeCourtModel" "ownAtoms" "[I", .methodLink RX8 368 yX8_types, .instanceMethod yX8_types, .selects RX8 yX8_types yX8_types, .initialized RX8, .code yX8_types cX8_types 1 (some .int), .methodLink RX8 371 yX8_isBelow, .instanceMethod yX8_isBelow, .selects RX8 yX8_isBelow yX8_isBelow, .code yX8_isBelow cX8_isBelow 5 (some .boolean), .fieldLink RX8 67 "TypeCourtModel" "isUnder" "[Z"] ++ wsX80)
def wsX8_isFair : List Cond := .code yX8_isFair cX8_isFair 8 (some .boolean) :: ([.fieldLink RX8 341 "TypeCourtModel" "rules" "I", .fieldLink RX8 45 "TypeCourtModel" "rule" "[I", .fieldLink RX8 102 "TypeCourtModel" "is" "[Z", .fieldLink RX8 39 "TypeCourtModel" "saidA" "[I", .fieldLink RX8 42 "TypeCourtModel" "saidB" "[I", .fieldLink RX8 36 "TypeCourtModel" "said" "[I"] ++ wsX80)
def wsX8_goesTo : List Cond := .code yX8_goesTo cX8_goesTo 4 (some .boolean) :: ([.fieldLink RX8 105 "TypeCourtModel" "atX" "[I", .fieldLink RX8 108 "TypeCourtModel" "roleAtoms" "[I"] ++ wsX80)
def wsX8_leastTo : List Cond := .code yX8_leastTo cX8_leastTo 6 (some .int) :: ([.fieldLink RX8 105 "TypeCourtModel" "atX" "[I", .methodLink RX8 368 yX8_types, .instanceMethod yX8_types, .selects RX8 yX8_types yX8_types, .initialized RX8, .code yX8_types cX8_types 1 (some .int), .fieldLink RX8 353 "TypeCourtModel" "atoms" "I", .methodLink RX8 374 yX8_goesTo, .instanceMethod yX8_goesTo, .selects RX8 yX8_goesTo yX8_goesTo, .code yX8_goesTo cX8_goesTo 4 (some .boolean), .fieldLink RX8 108 "TypeCourtModel" "roleAtoms" "[I"] ++ wsX80)
def wsX8_isMet : List Cond := .code yX8_isMet cX8_isMet 7 (some .boolean) :: ([.fieldLink RX8 350 "TypeCourtModel" "roles" "I", .fieldLink RX8 111 "TypeCourtModel" "ownAtoms" "[I", .fieldLink RX8 63 "TypeCourtModel" "isSingle" "[Z", .fieldLink RX8 353 "TypeCourtModel" "atoms" "I", .methodLink RX8 378 yX8_leastTo, .instanceMethod yX8_leastTo, .selects RX8 yX8_leastTo yX8_leastTo, .initialized RX8, .code yX8_leastTo cX8_leastTo 6 (some .int), .fieldLink RX8 105 "TypeCourtModel" "atX" "[I", .methodLink RX8 368 yX8_types, .instanceMethod yX8_types, .selects RX8 yX8_types yX8_types, .code yX8_types cX8_types 1 (some .int), .methodLink RX8 374 yX8_goesTo, .instanceMethod yX8_goesTo, .selects RX8 yX8_goesTo yX8_goesTo, .code yX8_goesTo cX8_goesTo 4 (some .boolean), .fieldLink RX8 108 "TypeCourtModel" "roleAtoms" "[I"] ++ wsX80)
def wsX8_sift_r1 : List Cond := [Cond.fieldLink RX8 117 "TypeCourtModel" "stands" "[Z", Cond.fieldLink RX8 114 "TypeCourtModel" "rankOf" "[I", Cond.fieldLink RX8 120 "TypeCourtModel" "stood" "[Z", Cond.fieldLink RX8 389 "TypeCourtModel" "fairMany" "I", Cond.fieldLink RX8 392 "TypeCourtModel" "roundMany" "I", Cond.methodLink RX8 368 yX8_types, Cond.instanceMethod yX8_types, Cond.selects RX8 yX8_types yX8_types, Cond.initialized RX8, Cond.code yX8_types cX8_types 1 (some .int), Cond.fieldLink RX8 353 "TypeCourtModel" "atoms" "I", Cond.methodLink RX8 382 yX8_isFair, Cond.instanceMethod yX8_isFair, Cond.selects RX8 yX8_isFair yX8_isFair, Cond.code yX8_isFair cX8_isFair 8 (some .boolean), Cond.fieldLink RX8 341 "TypeCourtModel" "rules" "I", Cond.fieldLink RX8 45 "TypeCourtModel" "rule" "[I", Cond.fieldLink RX8 102 "TypeCourtModel" "is" "[Z", Cond.fieldLink RX8 39 "TypeCourtModel" "saidA" "[I", Cond.fieldLink RX8 42 "TypeCourtModel" "saidB" "[I", Cond.fieldLink RX8 36 "TypeCourtModel" "said" "[I", Cond.methodLink RX8 385 yX8_isMet, Cond.instanceMethod yX8_isMet, Cond.selects RX8 yX8_isMet yX8_isMet]
def wsX8_sift_r2 : List Cond := [Cond.code yX8_isMet cX8_isMet 7 (some .boolean), Cond.fieldLink RX8 350 "TypeCourtModel" "roles" "I", Cond.fieldLink RX8 111 "TypeCourtModel" "ownAtoms" "[I", Cond.fieldLink RX8 63 "TypeCourtModel" "isSingle" "[Z", Cond.methodLink RX8 378 yX8_leastTo, Cond.instanceMethod yX8_leastTo, Cond.selects RX8 yX8_leastTo yX8_leastTo, Cond.code yX8_leastTo cX8_leastTo 6 (some .int), Cond.fieldLink RX8 105 "TypeCourtModel" "atX" "[I", Cond.methodLink RX8 374 yX8_goesTo, Cond.instanceMethod yX8_goesTo, Cond.selects RX8 yX8_goesTo yX8_goesTo, Cond.code yX8_goesTo cX8_goesTo 4 (some .boolean), Cond.fieldLink RX8 108 "TypeCourtModel" "roleAtoms" "[I"]
def wsX8_sift : List Cond := .code yX8_sift cX8_sift 7 none :: ((wsX8_sift_r1 ++ wsX8_sift_r2) ++ wsX80)
def wsX8_workOut_r1 : List Cond := [Cond.methodLink RX8 395 yX8_findTruths, Cond.instanceMethod yX8_findTruths, Cond.selects RX8 yX8_findTruths yX8_findTruths, Cond.initialized RX8, Cond.code yX8_findTruths cX8_findTruths 5 none, Cond.fieldLink RX8 332 "TypeCourtModel" "nodes" "I", Cond.fieldLink RX8 33 "TypeCourtModel" "order" "[I", Cond.fieldLink RX8 17 "TypeCourtModel" "kind" "[I", Cond.fieldLink RX8 102 "TypeCourtModel" "is" "[Z", Cond.fieldLink RX8 27 "TypeCourtModel" "atomOf" "[I", Cond.fieldLink RX8 24 "TypeCourtModel" "two" "[I", Cond.fieldLink RX8 21 "TypeCourtModel" "one" "[I", Cond.fieldLink RX8 105 "TypeCourtModel" "atX" "[I", Cond.fieldLink RX8 353 "TypeCourtModel" "atoms" "I", Cond.fieldLink RX8 73 "TypeCourtModel" "atomRole" "[I", Cond.fieldLink RX8 79 "TypeCourtModel" "atomNode" "[I", Cond.fieldLink RX8 82 "TypeCourtModel" "atomLess" "[Z", Cond.fieldLink RX8 108 "TypeCourtModel" "roleAtoms" "[I", Cond.fieldLink RX8 111 "TypeCourtModel" "ownAtoms" "[I", Cond.methodLink RX8 368 yX8_types, Cond.instanceMethod yX8_types, Cond.selects RX8 yX8_types yX8_types, Cond.code yX8_types cX8_types 1 (some .int), Cond.methodLink RX8 371 yX8_isBelow]
def wsX8_workOut_r2 : List Cond := [Cond.instanceMethod yX8_isBelow, Cond.selects RX8 yX8_isBelow yX8_isBelow, Cond.code yX8_isBelow cX8_isBelow 5 (some .boolean), Cond.fieldLink RX8 67 "TypeCourtModel" "isUnder" "[Z", Cond.methodLink RX8 398 yX8_sift, Cond.instanceMethod yX8_sift, Cond.selects RX8 yX8_sift yX8_sift, Cond.code yX8_sift cX8_sift 7 none, Cond.fieldLink RX8 117 "TypeCourtModel" "stands" "[Z", Cond.fieldLink RX8 114 "TypeCourtModel" "rankOf" "[I", Cond.fieldLink RX8 120 "TypeCourtModel" "stood" "[Z", Cond.fieldLink RX8 389 "TypeCourtModel" "fairMany" "I", Cond.fieldLink RX8 392 "TypeCourtModel" "roundMany" "I", Cond.methodLink RX8 382 yX8_isFair, Cond.instanceMethod yX8_isFair, Cond.selects RX8 yX8_isFair yX8_isFair, Cond.code yX8_isFair cX8_isFair 8 (some .boolean), Cond.fieldLink RX8 341 "TypeCourtModel" "rules" "I", Cond.fieldLink RX8 45 "TypeCourtModel" "rule" "[I", Cond.fieldLink RX8 39 "TypeCourtModel" "saidA" "[I", Cond.fieldLink RX8 42 "TypeCourtModel" "saidB" "[I", Cond.fieldLink RX8 36 "TypeCourtModel" "said" "[I", Cond.methodLink RX8 385 yX8_isMet, Cond.instanceMethod yX8_isMet]
def wsX8_workOut_r3 : List Cond := [Cond.selects RX8 yX8_isMet yX8_isMet, Cond.code yX8_isMet cX8_isMet 7 (some .boolean), Cond.fieldLink RX8 350 "TypeCourtModel" "roles" "I", Cond.fieldLink RX8 63 "TypeCourtModel" "isSingle" "[Z", Cond.methodLink RX8 378 yX8_leastTo, Cond.instanceMethod yX8_leastTo, Cond.selects RX8 yX8_leastTo yX8_leastTo, Cond.code yX8_leastTo cX8_leastTo 6 (some .int), Cond.methodLink RX8 374 yX8_goesTo, Cond.instanceMethod yX8_goesTo, Cond.selects RX8 yX8_goesTo yX8_goesTo, Cond.code yX8_goesTo cX8_goesTo 4 (some .boolean)]
def wsX8_workOut : List Cond := .code yX8_workOut cX8_workOut 1 none :: ((wsX8_workOut_r1 ++ (wsX8_workOut_r2 ++ wsX8_workOut_r3)) ++ wsX80)
def wsX8_become_r1 : List Cond := [Cond.fieldLink RX8 211 "TypeCourtModel" "newNodes" "I", Cond.fieldLink RX8 332 "TypeCourtModel" "nodes" "I", Cond.fieldLink RX8 17 "TypeCourtModel" "kind" "[I", Cond.fieldLink RX8 21 "TypeCourtModel" "one" "[I", Cond.fieldLink RX8 24 "TypeCourtModel" "two" "[I", Cond.fieldLink RX8 27 "TypeCourtModel" "atomOf" "[I", Cond.fieldLink RX8 33 "TypeCourtModel" "order" "[I", Cond.fieldLink RX8 295 "TypeCourtModel" "newSayings" "I", Cond.fieldLink RX8 338 "TypeCourtModel" "sayings" "I", Cond.fieldLink RX8 36 "TypeCourtModel" "said" "[I", Cond.fieldLink RX8 39 "TypeCourtModel" "saidA" "[I", Cond.fieldLink RX8 42 "TypeCourtModel" "saidB" "[I", Cond.fieldLink RX8 311 "TypeCourtModel" "newRules" "I", Cond.fieldLink RX8 341 "TypeCourtModel" "rules" "I", Cond.fieldLink RX8 305 "TypeCourtModel" "newQuestions" "I", Cond.fieldLink RX8 344 "TypeCourtModel" "questions" "I", Cond.fieldLink RX8 214 "TypeCourtModel" "newNames" "I", Cond.fieldLink RX8 347 "TypeCourtModel" "names" "I", Cond.fieldLink RX8 221 "TypeCourtModel" "newRoles" "I", Cond.fieldLink RX8 350 "TypeCourtModel" "roles" "I", Cond.fieldLink RX8 234 "TypeCourtModel" "newAtoms" "I", Cond.fieldLink RX8 353 "TypeCourtModel" "atoms" "I", Cond.fieldLink RX8 45 "TypeCourtModel" "rule" "[I", Cond.fieldLink RX8 48 "TypeCourtModel" "question" "[I"]
def wsX8_become_r2 : List Cond := [Cond.fieldLink RX8 51 "TypeCourtModel" "nameLetters" "[B", Cond.fieldLink RX8 57 "TypeCourtModel" "roleLetters" "[B", Cond.fieldLink RX8 54 "TypeCourtModel" "nameSize" "[I", Cond.fieldLink RX8 60 "TypeCourtModel" "roleSize" "[I", Cond.fieldLink RX8 63 "TypeCourtModel" "isSingle" "[Z", Cond.fieldLink RX8 67 "TypeCourtModel" "isUnder" "[Z", Cond.fieldLink RX8 73 "TypeCourtModel" "atomRole" "[I", Cond.fieldLink RX8 76 "TypeCourtModel" "atomName" "[I", Cond.fieldLink RX8 79 "TypeCourtModel" "atomNode" "[I", Cond.fieldLink RX8 82 "TypeCourtModel" "atomLess" "[Z", Cond.fieldLink RX8 356 "TypeCourtModel" "hasBook" "Z", Cond.fieldLink RX8 359 "TypeCourtModel" "things" "I", Cond.fieldLink RX8 362 "TypeCourtModel" "edges" "I", Cond.methodLink RX8 335 yX8_moved, Cond.static yX8_moved, Cond.initialized RX8, Cond.code yX8_moved cX8_moved 1 (some .int), Cond.methodLink RX8 365 yX8_workOut, Cond.instanceMethod yX8_workOut, Cond.selects RX8 yX8_workOut yX8_workOut, Cond.code yX8_workOut cX8_workOut 1 none, Cond.methodLink RX8 395 yX8_findTruths, Cond.instanceMethod yX8_findTruths, Cond.selects RX8 yX8_findTruths yX8_findTruths]
def wsX8_become_r3 : List Cond := [Cond.code yX8_findTruths cX8_findTruths 5 none, Cond.fieldLink RX8 102 "TypeCourtModel" "is" "[Z", Cond.fieldLink RX8 105 "TypeCourtModel" "atX" "[I", Cond.fieldLink RX8 108 "TypeCourtModel" "roleAtoms" "[I", Cond.fieldLink RX8 111 "TypeCourtModel" "ownAtoms" "[I", Cond.methodLink RX8 368 yX8_types, Cond.instanceMethod yX8_types, Cond.selects RX8 yX8_types yX8_types, Cond.code yX8_types cX8_types 1 (some .int), Cond.methodLink RX8 371 yX8_isBelow, Cond.instanceMethod yX8_isBelow, Cond.selects RX8 yX8_isBelow yX8_isBelow, Cond.code yX8_isBelow cX8_isBelow 5 (some .boolean), Cond.methodLink RX8 398 yX8_sift, Cond.instanceMethod yX8_sift, Cond.selects RX8 yX8_sift yX8_sift, Cond.code yX8_sift cX8_sift 7 none, Cond.fieldLink RX8 117 "TypeCourtModel" "stands" "[Z", Cond.fieldLink RX8 114 "TypeCourtModel" "rankOf" "[I", Cond.fieldLink RX8 120 "TypeCourtModel" "stood" "[Z", Cond.fieldLink RX8 389 "TypeCourtModel" "fairMany" "I", Cond.fieldLink RX8 392 "TypeCourtModel" "roundMany" "I", Cond.methodLink RX8 382 yX8_isFair, Cond.instanceMethod yX8_isFair]
def wsX8_become_r4 : List Cond := [Cond.selects RX8 yX8_isFair yX8_isFair, Cond.code yX8_isFair cX8_isFair 8 (some .boolean), Cond.methodLink RX8 385 yX8_isMet, Cond.instanceMethod yX8_isMet, Cond.selects RX8 yX8_isMet yX8_isMet, Cond.code yX8_isMet cX8_isMet 7 (some .boolean), Cond.methodLink RX8 378 yX8_leastTo, Cond.instanceMethod yX8_leastTo, Cond.selects RX8 yX8_leastTo yX8_leastTo, Cond.code yX8_leastTo cX8_leastTo 6 (some .int), Cond.methodLink RX8 374 yX8_goesTo, Cond.instanceMethod yX8_goesTo, Cond.selects RX8 yX8_goesTo yX8_goesTo, Cond.code yX8_goesTo cX8_goesTo 4 (some .boolean)]
def wsX8_become : List Cond := .code yX8_become cX8_become 3 none :: ((wsX8_become_r1 ++ (wsX8_become_r2 ++ (wsX8_become_r3 ++ wsX8_become_r4))) ++ wsX80)
def wsX8_read_r1 : List Cond := [Cond.fieldLink RX8 188 "TypeCourtModel" "fault" "I", Cond.fieldLink RX8 211 "TypeCourtModel" "newNodes" "I", Cond.fieldLink RX8 245 "TypeCourtModel" "newOrder" "I", Cond.fieldLink RX8 295 "TypeCourtModel" "newSayings" "I", Cond.fieldLink RX8 311 "TypeCourtModel" "newRules" "I", Cond.fieldLink RX8 305 "TypeCourtModel" "newQuestions" "I", Cond.fieldLink RX8 214 "TypeCourtModel" "newNames" "I", Cond.fieldLink RX8 221 "TypeCourtModel" "newRoles" "I", Cond.fieldLink RX8 234 "TypeCourtModel" "newAtoms" "I", Cond.fieldLink RX8 67 "TypeCourtModel" "isUnder" "[Z", Cond.fieldLink RX8 166 "TypeCourtModel" "at" "I", Cond.fieldLink RX8 178 "TypeCourtModel" "token" "I", Cond.fieldLink RX8 147 "TypeCourtModel" "taped" "I", Cond.fieldLink RX8 191 "TypeCourtModel" "faultAt" "I", Cond.fieldLink RX8 85 "TypeCourtModel" "placed" "I", Cond.fieldLink RX8 332 "TypeCourtModel" "nodes" "I", Cond.methodLink RX8 205 yX8_next, Cond.instanceMethod yX8_next, Cond.selects RX8 yX8_next yX8_next, Cond.initialized RX8, Cond.code yX8_next cX8_next 2 none, Cond.fieldLink RX8 7 "TypeCourtModel" "tape" "[B", Cond.fieldLink RX8 169 "TypeCourtModel" "tokenAt" "I", Cond.fieldLink RX8 172 "TypeCourtModel" "tokenSize" "I"]
def wsX8_read_r2 : List Cond := [Cond.fieldLink RX8 175 "TypeCourtModel" "sign" "I", Cond.methodLink RX8 181 yX8_isLetter, Cond.static yX8_isLetter, Cond.code yX8_isLetter cX8_isLetter 1 (some .boolean), Cond.constantLong RX8 158 (97), Cond.constantLong RX8 160 (122), Cond.methodLink RX8 154 yX8_in, Cond.static yX8_in, Cond.code yX8_in cX8_in 6 (some .boolean), Cond.methodLink RX8 185 yX8_isFigure, Cond.static yX8_isFigure, Cond.code yX8_isFigure cX8_isFigure 1 (some .boolean), Cond.constantLong RX8 162 (48), Cond.constantLong RX8 164 (57), Cond.methodLink RX8 198 yX8_fine, Cond.instanceMethod yX8_fine, Cond.selects RX8 yX8_fine yX8_fine, Cond.code yX8_fine cX8_fine 1 (some .boolean), Cond.methodLink RX8 224 yX8_kept, Cond.instanceMethod yX8_kept, Cond.selects RX8 yX8_kept yX8_kept, Cond.code yX8_kept cX8_kept 6 (some .int), Cond.fieldLink RX8 13 "TypeCourtModel" "words" "[C", Cond.methodLink RX8 314 yX8_readAsk]
def wsX8_read_r3 : List Cond := [Cond.instanceMethod yX8_readAsk, Cond.selects RX8 yX8_readAsk yX8_readAsk, Cond.code yX8_readAsk cX8_readAsk 2 none, Cond.fieldLink RX8 48 "TypeCourtModel" "question" "[I", Cond.methodLink RX8 194 yX8_wrong, Cond.instanceMethod yX8_wrong, Cond.selects RX8 yX8_wrong yX8_wrong, Cond.code yX8_wrong cX8_wrong 3 none, Cond.methodLink RX8 308 yX8_readConcept, Cond.instanceMethod yX8_readConcept, Cond.selects RX8 yX8_readConcept yX8_readConcept, Cond.code yX8_readConcept cX8_readConcept 2 (some .int), Cond.fieldLink RX8 248 "TypeCourtModel" "waiting" "I", Cond.fieldLink RX8 263 "TypeCourtModel" "wants" "Z", Cond.fieldLink RX8 251 "TypeCourtModel" "operand" "I", Cond.fieldLink RX8 254 "TypeCourtModel" "deep" "I", Cond.methodLink RX8 270 yX8_wait, Cond.instanceMethod yX8_wait, Cond.selects RX8 yX8_wait yX8_wait, Cond.code yX8_wait cX8_wait 3 none, Cond.fieldLink RX8 95 "TypeCourtModel" "waits" "[I", Cond.fieldLink RX8 98 "TypeCourtModel" "waitNode" "[I", Cond.methodLink RX8 289 yX8_readOne, Cond.instanceMethod yX8_readOne]
def wsX8_read_r4 : List Cond := [Cond.selects RX8 yX8_readOne yX8_readOne, Cond.code yX8_readOne cX8_readOne 3 none, Cond.fieldLink RX8 21 "TypeCourtModel" "one" "[I", Cond.methodLink RX8 202 yX8_isSignHere, Cond.instanceMethod yX8_isSignHere, Cond.selects RX8 yX8_isSignHere yX8_isSignHere, Cond.code yX8_isSignHere cX8_isSignHere 2 (some .boolean), Cond.methodLink RX8 267 yX8_goesDeeper, Cond.instanceMethod yX8_goesDeeper, Cond.selects RX8 yX8_goesDeeper yX8_goesDeeper, Cond.code yX8_goesDeeper cX8_goesDeeper 1 (some .boolean), Cond.methodLink RX8 208 yX8_misplaced, Cond.instanceMethod yX8_misplaced, Cond.selects RX8 yX8_misplaced yX8_misplaced, Cond.code yX8_misplaced cX8_misplaced 1 none, Cond.methodLink RX8 273 yX8_newNode, Cond.instanceMethod yX8_newNode, Cond.selects RX8 yX8_newNode yX8_newNode, Cond.code yX8_newNode cX8_newNode 3 (some .int), Cond.fieldLink RX8 17 "TypeCourtModel" "kind" "[I", Cond.fieldLink RX8 24 "TypeCourtModel" "two" "[I", Cond.fieldLink RX8 27 "TypeCourtModel" "atomOf" "[I", Cond.fieldLink RX8 30 "TypeCourtModel" "byteOf" "[I", Cond.methodLink RX8 277 yX8_readRole]
def wsX8_read_r5 : List Cond := [Cond.instanceMethod yX8_readRole, Cond.selects RX8 yX8_readRole yX8_readRole, Cond.code yX8_readRole cX8_readRole 3 (some .int), Cond.fieldLink RX8 57 "TypeCourtModel" "roleLetters" "[B", Cond.fieldLink RX8 60 "TypeCourtModel" "roleSize" "[I", Cond.fieldLink RX8 63 "TypeCourtModel" "isSingle" "[Z", Cond.fieldLink RX8 70 "TypeCourtModel" "hasUnder" "[Z", Cond.methodLink RX8 228 yX8_roleHere, Cond.instanceMethod yX8_roleHere, Cond.selects RX8 yX8_roleHere yX8_roleHere, Cond.code yX8_roleHere cX8_roleHere 2 (some .int), Cond.methodLink RX8 217 yX8_isHere, Cond.instanceMethod yX8_isHere, Cond.selects RX8 yX8_isHere yX8_isHere, Cond.code yX8_isHere cX8_isHere 6 (some .boolean), Cond.methodLink RX8 231 yX8_nameHere, Cond.instanceMethod yX8_nameHere, Cond.selects RX8 yX8_nameHere yX8_nameHere, Cond.code yX8_nameHere cX8_nameHere 2 (some .int), Cond.fieldLink RX8 51 "TypeCourtModel" "nameLetters" "[B", Cond.fieldLink RX8 54 "TypeCourtModel" "nameSize" "[I", Cond.methodLink RX8 280 yX8_readName, Cond.instanceMethod yX8_readName, Cond.selects RX8 yX8_readName yX8_readName]
def wsX8_read_r6 : List Cond := [Cond.code yX8_readName cX8_readName 4 none, Cond.fieldLink RX8 76 "TypeCourtModel" "atomName" "[I", Cond.methodLink RX8 237 yX8_newAtom, Cond.instanceMethod yX8_newAtom, Cond.selects RX8 yX8_newAtom yX8_newAtom, Cond.code yX8_newAtom cX8_newAtom 6 none, Cond.fieldLink RX8 73 "TypeCourtModel" "atomRole" "[I", Cond.fieldLink RX8 79 "TypeCourtModel" "atomNode" "[I", Cond.fieldLink RX8 82 "TypeCourtModel" "atomLess" "[Z", Cond.methodLink RX8 257 yX8_ended, Cond.instanceMethod yX8_ended, Cond.selects RX8 yX8_ended yX8_ended, Cond.code yX8_ended cX8_ended 2 none, Cond.fieldLink RX8 33 "TypeCourtModel" "order" "[I", Cond.methodLink RX8 283 yX8_stand, Cond.instanceMethod yX8_stand, Cond.selects RX8 yX8_stand yX8_stand, Cond.code yX8_stand cX8_stand 3 none, Cond.methodLink RX8 260 yX8_findAtom, Cond.instanceMethod yX8_findAtom, Cond.selects RX8 yX8_findAtom yX8_findAtom, Cond.code yX8_findAtom cX8_findAtom 5 none, Cond.methodLink RX8 241 yX8_areLike, Cond.instanceMethod yX8_areLike]
def wsX8_read_r7 : List Cond := [Cond.selects RX8 yX8_areLike yX8_areLike, Cond.code yX8_areLike cX8_areLike 8 (some .boolean), Cond.fieldLink RX8 89 "TypeCourtModel" "pairA" "[I", Cond.fieldLink RX8 92 "TypeCourtModel" "pairB" "[I", Cond.methodLink RX8 292 yX8_readBehind, Cond.instanceMethod yX8_readBehind, Cond.selects RX8 yX8_readBehind yX8_readBehind, Cond.code yX8_readBehind cX8_readBehind 3 (some .boolean), Cond.methodLink RX8 286 yX8_close, Cond.instanceMethod yX8_close, Cond.selects RX8 yX8_close yX8_close, Cond.code yX8_close cX8_close 3 none, Cond.methodLink RX8 301 yX8_say, Cond.instanceMethod yX8_say, Cond.selects RX8 yX8_say yX8_say, Cond.code yX8_say cX8_say 5 none, Cond.fieldLink RX8 36 "TypeCourtModel" "said" "[I", Cond.fieldLink RX8 39 "TypeCourtModel" "saidA" "[I", Cond.fieldLink RX8 42 "TypeCourtModel" "saidB" "[I", Cond.methodLink RX8 317 yX8_readUnder, Cond.instanceMethod yX8_readUnder, Cond.selects RX8 yX8_readUnder yX8_readUnder, Cond.code yX8_readUnder cX8_readUnder 3 none, Cond.methodLink RX8 298 yX8_reaches]
def wsX8_read_r8 : List Cond := [Cond.instanceMethod yX8_reaches, Cond.selects RX8 yX8_reaches yX8_reaches, Cond.code yX8_reaches cX8_reaches 5 (some .boolean), Cond.methodLink RX8 320 yX8_readSingle, Cond.instanceMethod yX8_readSingle, Cond.selects RX8 yX8_readSingle yX8_readSingle, Cond.code yX8_readSingle cX8_readSingle 2 none, Cond.methodLink RX8 323 yX8_readRule, Cond.instanceMethod yX8_readRule, Cond.selects RX8 yX8_readRule yX8_readRule, Cond.code yX8_readRule cX8_readRule 5 none, Cond.fieldLink RX8 45 "TypeCourtModel" "rule" "[I", Cond.methodLink RX8 326 yX8_take, Cond.instanceMethod yX8_take, Cond.selects RX8 yX8_take yX8_take, Cond.code yX8_take cX8_take 2 none, Cond.methodLink RX8 329 yX8_become, Cond.instanceMethod yX8_become, Cond.selects RX8 yX8_become yX8_become, Cond.code yX8_become cX8_become 3 none, Cond.fieldLink RX8 338 "TypeCourtModel" "sayings" "I", Cond.fieldLink RX8 341 "TypeCourtModel" "rules" "I", Cond.fieldLink RX8 344 "TypeCourtModel" "questions" "I", Cond.fieldLink RX8 347 "TypeCourtModel" "names" "I"]
def wsX8_read_r9 : List Cond := [Cond.fieldLink RX8 350 "TypeCourtModel" "roles" "I", Cond.fieldLink RX8 353 "TypeCourtModel" "atoms" "I", Cond.fieldLink RX8 356 "TypeCourtModel" "hasBook" "Z", Cond.fieldLink RX8 359 "TypeCourtModel" "things" "I", Cond.fieldLink RX8 362 "TypeCourtModel" "edges" "I", Cond.methodLink RX8 335 yX8_moved, Cond.static yX8_moved, Cond.code yX8_moved cX8_moved 1 (some .int), Cond.methodLink RX8 365 yX8_workOut, Cond.instanceMethod yX8_workOut, Cond.selects RX8 yX8_workOut yX8_workOut, Cond.code yX8_workOut cX8_workOut 1 none, Cond.methodLink RX8 395 yX8_findTruths, Cond.instanceMethod yX8_findTruths, Cond.selects RX8 yX8_findTruths yX8_findTruths, Cond.code yX8_findTruths cX8_findTruths 5 none, Cond.fieldLink RX8 102 "TypeCourtModel" "is" "[Z", Cond.fieldLink RX8 105 "TypeCourtModel" "atX" "[I", Cond.fieldLink RX8 108 "TypeCourtModel" "roleAtoms" "[I", Cond.fieldLink RX8 111 "TypeCourtModel" "ownAtoms" "[I", Cond.methodLink RX8 368 yX8_types, Cond.instanceMethod yX8_types, Cond.selects RX8 yX8_types yX8_types, Cond.code yX8_types cX8_types 1 (some .int)]
def wsX8_read_r10 : List Cond := [Cond.methodLink RX8 371 yX8_isBelow, Cond.instanceMethod yX8_isBelow, Cond.selects RX8 yX8_isBelow yX8_isBelow, Cond.code yX8_isBelow cX8_isBelow 5 (some .boolean), Cond.methodLink RX8 398 yX8_sift, Cond.instanceMethod yX8_sift, Cond.selects RX8 yX8_sift yX8_sift, Cond.code yX8_sift cX8_sift 7 none, Cond.fieldLink RX8 117 "TypeCourtModel" "stands" "[Z", Cond.fieldLink RX8 114 "TypeCourtModel" "rankOf" "[I", Cond.fieldLink RX8 120 "TypeCourtModel" "stood" "[Z", Cond.fieldLink RX8 389 "TypeCourtModel" "fairMany" "I", Cond.fieldLink RX8 392 "TypeCourtModel" "roundMany" "I", Cond.methodLink RX8 382 yX8_isFair, Cond.instanceMethod yX8_isFair, Cond.selects RX8 yX8_isFair yX8_isFair, Cond.code yX8_isFair cX8_isFair 8 (some .boolean), Cond.methodLink RX8 385 yX8_isMet, Cond.instanceMethod yX8_isMet, Cond.selects RX8 yX8_isMet yX8_isMet, Cond.code yX8_isMet cX8_isMet 7 (some .boolean), Cond.methodLink RX8 378 yX8_leastTo, Cond.instanceMethod yX8_leastTo, Cond.selects RX8 yX8_leastTo yX8_leastTo]
def wsX8_read_r11 : List Cond := [Cond.code yX8_leastTo cX8_leastTo 6 (some .int), Cond.methodLink RX8 374 yX8_goesTo, Cond.instanceMethod yX8_goesTo, Cond.selects RX8 yX8_goesTo yX8_goesTo, Cond.code yX8_goesTo cX8_goesTo 4 (some .boolean)]
def wsX8_read : List Cond := .code yX8_read cX8_read 2 (some .int) :: ((wsX8_read_r1 ++ (wsX8_read_r2 ++ (wsX8_read_r3 ++ (wsX8_read_r4 ++ (wsX8_read_r5 ++ (wsX8_read_r6 ++ (wsX8_read_r7 ++ (wsX8_read_r8 ++ (wsX8_read_r9 ++ (wsX8_read_r10 ++ wsX8_read_r11)))))))))) ++ wsX80)
def wsX8_place : List Cond := .code yX8_place cX8_place 1 (some .int) :: ([.fieldLink RX8 85 "TypeCourtModel" "placed" "I"] ++ wsX80)
def wsX8_standing : List Cond := .code yX8_standing cX8_standing 3 (some .int) :: ([.fieldLink RX8 117 "TypeCourtModel" "stands" "[Z", .methodLink RX8 368 yX8_types, .instanceMethod yX8_types, .selects RX8 yX8_types yX8_types, .initialized RX8, .code yX8_types cX8_types 1 (some .int), .fieldLink RX8 353 "TypeCourtModel" "atoms" "I"] ++ wsX80)
def wsX8_count : List Cond := .code yX8_count cX8_count 2 (some .int) :: ([.fieldLink RX8 402 "TypeCourtModel" "outMany" "I", .fieldLink RX8 356 "TypeCourtModel" "hasBook" "Z", .fieldLink RX8 347 "TypeCourtModel" "names" "I", .fieldLink RX8 350 "TypeCourtModel" "roles" "I", .fieldLink RX8 341 "TypeCourtModel" "rules" "I", .fieldLink RX8 344 "TypeCourtModel" "questions" "I", .fieldLink RX8 332 "TypeCourtModel" "nodes" "I", .fieldLink RX8 353 "TypeCourtModel" "atoms" "I", .fieldLink RX8 389 "TypeCourtModel" "fairMany" "I", .fieldLink RX8 392 "TypeCourtModel" "roundMany" "I", .fieldLink RX8 359 "TypeCourtModel" "things" "I", .fieldLink RX8 362 "TypeCourtModel" "edges" "I", .methodLink RX8 405 yX8_standing, .instanceMethod yX8_standing, .selects RX8 yX8_standing yX8_standing, .initialized RX8, .code yX8_standing cX8_standing 3 (some .int), .fieldLink RX8 117 "TypeCourtModel" "stands" "[Z", .methodLink RX8 368 yX8_types, .instanceMethod yX8_types, .selects RX8 yX8_types yX8_types, .code yX8_types cX8_types 1 (some .int)] ++ wsX80)
def wsX8_atom : List Cond := .code yX8_atom cX8_atom 3 (some .int) :: ([.fieldLink RX8 356 "TypeCourtModel" "hasBook" "Z", .fieldLink RX8 353 "TypeCourtModel" "atoms" "I", .fieldLink RX8 73 "TypeCourtModel" "atomRole" "[I", .fieldLink RX8 76 "TypeCourtModel" "atomName" "[I", .methodLink RX8 154 yX8_in, .static yX8_in, .initialized RX8, .code yX8_in cX8_in 6 (some .boolean)] ++ wsX80)
def wsX8_noType : List Cond := .code yX8_noType cX8_noType 2 (some .boolean) :: ([.methodLink RX8 368 yX8_types, .instanceMethod yX8_types, .selects RX8 yX8_types yX8_types, .initialized RX8, .code yX8_types cX8_types 1 (some .int), .fieldLink RX8 353 "TypeCourtModel" "atoms" "I", .methodLink RX8 154 yX8_in, .static yX8_in, .code yX8_in cX8_in 6 (some .boolean)] ++ wsX80)
def wsX8_noQuestion : List Cond := .code yX8_noQuestion cX8_noQuestion 2 (some .boolean) :: ([.fieldLink RX8 344 "TypeCourtModel" "questions" "I", .methodLink RX8 154 yX8_in, .static yX8_in, .initialized RX8, .code yX8_in cX8_in 6 (some .boolean)] ++ wsX80)
def wsX8_noName : List Cond := .code yX8_noName cX8_noName 2 (some .boolean) :: ([.fieldLink RX8 347 "TypeCourtModel" "names" "I", .methodLink RX8 154 yX8_in, .static yX8_in, .initialized RX8, .code yX8_in cX8_in 6 (some .boolean)] ++ wsX80)
def wsX8_rank : List Cond := .code yX8_rank cX8_rank 2 (some .int) :: ([.fieldLink RX8 356 "TypeCourtModel" "hasBook" "Z", .fieldLink RX8 114 "TypeCourtModel" "rankOf" "[I", .methodLink RX8 408 yX8_noType, .instanceMethod yX8_noType, .selects RX8 yX8_noType yX8_noType, .initialized RX8, .code yX8_noType cX8_noType 2 (some .boolean), .methodLink RX8 368 yX8_types, .instanceMethod yX8_types, .selects RX8 yX8_types yX8_types, .code yX8_types cX8_types 1 (some .int), .fieldLink RX8 353 "TypeCourtModel" "atoms" "I", .methodLink RX8 154 yX8_in, .static yX8_in, .code yX8_in cX8_in 6 (some .boolean)] ++ wsX80)
def wsX8_goes : List Cond := .code yX8_goes cX8_goes 4 (some .int) :: ([.fieldLink RX8 356 "TypeCourtModel" "hasBook" "Z", .fieldLink RX8 350 "TypeCourtModel" "roles" "I", .methodLink RX8 408 yX8_noType, .instanceMethod yX8_noType, .selects RX8 yX8_noType yX8_noType, .initialized RX8, .code yX8_noType cX8_noType 2 (some .boolean), .methodLink RX8 368 yX8_types, .instanceMethod yX8_types, .selects RX8 yX8_types yX8_types, .code yX8_types cX8_types 1 (some .int), .fieldLink RX8 353 "TypeCourtModel" "atoms" "I", .methodLink RX8 154 yX8_in, .static yX8_in, .code yX8_in cX8_in 6 (some .boolean), .methodLink RX8 374 yX8_goesTo, .instanceMethod yX8_goesTo, .selects RX8 yX8_goesTo yX8_goesTo, .code yX8_goesTo cX8_goesTo 4 (some .boolean), .fieldLink RX8 105 "TypeCourtModel" "atX" "[I", .fieldLink RX8 108 "TypeCourtModel" "roleAtoms" "[I"] ++ wsX80)
def wsX8_isAt : List Cond := .code yX8_isAt cX8_isAt 3 (some .boolean) :: ([.fieldLink RX8 102 "TypeCourtModel" "is" "[Z", .fieldLink RX8 48 "TypeCourtModel" "question" "[I"] ++ wsX80)
def wsX8_at_r1 : List Cond := [Cond.fieldLink RX8 356 "TypeCourtModel" "hasBook" "Z", Cond.methodLink RX8 411 yX8_noQuestion, Cond.instanceMethod yX8_noQuestion, Cond.selects RX8 yX8_noQuestion yX8_noQuestion, Cond.initialized RX8, Cond.code yX8_noQuestion cX8_noQuestion 2 (some .boolean), Cond.fieldLink RX8 344 "TypeCourtModel" "questions" "I", Cond.methodLink RX8 154 yX8_in, Cond.static yX8_in, Cond.code yX8_in cX8_in 6 (some .boolean), Cond.methodLink RX8 408 yX8_noType, Cond.instanceMethod yX8_noType, Cond.selects RX8 yX8_noType yX8_noType, Cond.code yX8_noType cX8_noType 2 (some .boolean), Cond.methodLink RX8 368 yX8_types, Cond.instanceMethod yX8_types, Cond.selects RX8 yX8_types yX8_types, Cond.code yX8_types cX8_types 1 (some .int), Cond.fieldLink RX8 353 "TypeCourtModel" "atoms" "I", Cond.methodLink RX8 414 yX8_isAt, Cond.instanceMethod yX8_isAt, Cond.selects RX8 yX8_isAt yX8_isAt, Cond.code yX8_isAt cX8_isAt 3 (some .boolean), Cond.fieldLink RX8 102 "TypeCourtModel" "is" "[Z"]
def wsX8_at_r2 : List Cond := [Cond.fieldLink RX8 48 "TypeCourtModel" "question" "[I"]
def wsX8_at : List Cond := .code yX8_at cX8_at 3 (some .int) :: ((wsX8_at_r1 ++ wsX8_at_r2) ++ wsX80)
def wsX8_leastOf : List Cond := .code yX8_leastOf cX8_leastOf 3 (some .int) :: ([.fieldLink RX8 117 "TypeCourtModel" "stands" "[Z", .methodLink RX8 368 yX8_types, .instanceMethod yX8_types, .selects RX8 yX8_types yX8_types, .initialized RX8, .code yX8_types cX8_types 1 (some .int), .fieldLink RX8 353 "TypeCourtModel" "atoms" "I", .methodLink RX8 414 yX8_isAt, .instanceMethod yX8_isAt, .selects RX8 yX8_isAt yX8_isAt, .code yX8_isAt cX8_isAt 3 (some .boolean), .fieldLink RX8 102 "TypeCourtModel" "is" "[Z", .fieldLink RX8 48 "TypeCourtModel" "question" "[I"] ++ wsX80)
def wsX8_ask_r1 : List Cond := [Cond.fieldLink RX8 356 "TypeCourtModel" "hasBook" "Z", Cond.methodLink RX8 411 yX8_noQuestion, Cond.instanceMethod yX8_noQuestion, Cond.selects RX8 yX8_noQuestion yX8_noQuestion, Cond.initialized RX8, Cond.code yX8_noQuestion cX8_noQuestion 2 (some .boolean), Cond.fieldLink RX8 344 "TypeCourtModel" "questions" "I", Cond.methodLink RX8 154 yX8_in, Cond.static yX8_in, Cond.code yX8_in cX8_in 6 (some .boolean), Cond.methodLink RX8 417 yX8_leastOf, Cond.instanceMethod yX8_leastOf, Cond.selects RX8 yX8_leastOf yX8_leastOf, Cond.code yX8_leastOf cX8_leastOf 3 (some .int), Cond.fieldLink RX8 117 "TypeCourtModel" "stands" "[Z", Cond.methodLink RX8 368 yX8_types, Cond.instanceMethod yX8_types, Cond.selects RX8 yX8_types yX8_types, Cond.code yX8_types cX8_types 1 (some .int), Cond.fieldLink RX8 353 "TypeCourtModel" "atoms" "I", Cond.methodLink RX8 414 yX8_isAt, Cond.instanceMethod yX8_isAt, Cond.selects RX8 yX8_isAt yX8_isAt, Cond.code yX8_isAt cX8_isAt 3 (some .boolean)]
def wsX8_ask_r2 : List Cond := [Cond.fieldLink RX8 102 "TypeCourtModel" "is" "[Z", Cond.fieldLink RX8 48 "TypeCourtModel" "question" "[I"]
def wsX8_ask : List Cond := .code yX8_ask cX8_ask 2 (some .int) :: ((wsX8_ask_r1 ++ wsX8_ask_r2) ++ wsX80)
def wsX8_atomOfName : List Cond := .code yX8_atomOfName cX8_atomOfName 3 (some .int) :: ([.fieldLink RX8 76 "TypeCourtModel" "atomName" "[I"] ++ wsX80)
def wsX8_lies : List Cond := .code yX8_lies cX8_lies 7 (some .boolean) :: ([.fieldLink RX8 117 "TypeCourtModel" "stands" "[Z", .methodLink RX8 420 yX8_atomOfName, .instanceMethod yX8_atomOfName, .selects RX8 yX8_atomOfName yX8_atomOfName, .initialized RX8, .code yX8_atomOfName cX8_atomOfName 3 (some .int), .fieldLink RX8 76 "TypeCourtModel" "atomName" "[I", .methodLink RX8 368 yX8_types, .instanceMethod yX8_types, .selects RX8 yX8_types yX8_types, .code yX8_types cX8_types 1 (some .int), .fieldLink RX8 353 "TypeCourtModel" "atoms" "I"] ++ wsX80)
def wsX8_isUnder_r1 : List Cond := [Cond.fieldLink RX8 356 "TypeCourtModel" "hasBook" "Z", Cond.methodLink RX8 423 yX8_noName, Cond.instanceMethod yX8_noName, Cond.selects RX8 yX8_noName yX8_noName, Cond.initialized RX8, Cond.code yX8_noName cX8_noName 2 (some .boolean), Cond.fieldLink RX8 347 "TypeCourtModel" "names" "I", Cond.methodLink RX8 154 yX8_in, Cond.static yX8_in, Cond.code yX8_in cX8_in 6 (some .boolean), Cond.methodLink RX8 426 yX8_lies, Cond.instanceMethod yX8_lies, Cond.selects RX8 yX8_lies yX8_lies, Cond.code yX8_lies cX8_lies 7 (some .boolean), Cond.fieldLink RX8 117 "TypeCourtModel" "stands" "[Z", Cond.methodLink RX8 420 yX8_atomOfName, Cond.instanceMethod yX8_atomOfName, Cond.selects RX8 yX8_atomOfName yX8_atomOfName, Cond.code yX8_atomOfName cX8_atomOfName 3 (some .int), Cond.fieldLink RX8 76 "TypeCourtModel" "atomName" "[I", Cond.methodLink RX8 368 yX8_types, Cond.instanceMethod yX8_types, Cond.selects RX8 yX8_types yX8_types, Cond.code yX8_types cX8_types 1 (some .int)]
def wsX8_isUnder_r2 : List Cond := [Cond.fieldLink RX8 353 "TypeCourtModel" "atoms" "I"]
def wsX8_isUnder : List Cond := .code yX8_isUnder cX8_isUnder 3 (some .int) :: ((wsX8_isUnder_r1 ++ wsX8_isUnder_r2) ++ wsX80)
def wsX8_isAbove : List Cond := .code yX8_isAbove cX8_isAbove 3 (some .boolean) :: ([.methodLink RX8 426 yX8_lies, .instanceMethod yX8_lies, .selects RX8 yX8_lies yX8_lies, .initialized RX8, .code yX8_lies cX8_lies 7 (some .boolean), .fieldLink RX8 117 "TypeCourtModel" "stands" "[Z", .methodLink RX8 420 yX8_atomOfName, .instanceMethod yX8_atomOfName, .selects RX8 yX8_atomOfName yX8_atomOfName, .code yX8_atomOfName cX8_atomOfName 3 (some .int), .fieldLink RX8 76 "TypeCourtModel" "atomName" "[I", .methodLink RX8 368 yX8_types, .instanceMethod yX8_types, .selects RX8 yX8_types yX8_types, .code yX8_types cX8_types 1 (some .int), .fieldLink RX8 353 "TypeCourtModel" "atoms" "I"] ++ wsX80)
def wsX8_next__r1 : List Cond := [Cond.fieldLink RX8 356 "TypeCourtModel" "hasBook" "Z", Cond.fieldLink RX8 347 "TypeCourtModel" "names" "I", Cond.methodLink RX8 423 yX8_noName, Cond.instanceMethod yX8_noName, Cond.selects RX8 yX8_noName yX8_noName, Cond.initialized RX8, Cond.code yX8_noName cX8_noName 2 (some .boolean), Cond.methodLink RX8 154 yX8_in, Cond.static yX8_in, Cond.code yX8_in cX8_in 6 (some .boolean), Cond.methodLink RX8 429 yX8_isAbove, Cond.instanceMethod yX8_isAbove, Cond.selects RX8 yX8_isAbove yX8_isAbove, Cond.code yX8_isAbove cX8_isAbove 3 (some .boolean), Cond.methodLink RX8 426 yX8_lies, Cond.instanceMethod yX8_lies, Cond.selects RX8 yX8_lies yX8_lies, Cond.code yX8_lies cX8_lies 7 (some .boolean), Cond.fieldLink RX8 117 "TypeCourtModel" "stands" "[Z", Cond.methodLink RX8 420 yX8_atomOfName, Cond.instanceMethod yX8_atomOfName, Cond.selects RX8 yX8_atomOfName yX8_atomOfName, Cond.code yX8_atomOfName cX8_atomOfName 3 (some .int), Cond.fieldLink RX8 76 "TypeCourtModel" "atomName" "[I"]
def wsX8_next__r2 : List Cond := [Cond.methodLink RX8 368 yX8_types, Cond.instanceMethod yX8_types, Cond.selects RX8 yX8_types yX8_types, Cond.code yX8_types cX8_types 1 (some .int), Cond.fieldLink RX8 353 "TypeCourtModel" "atoms" "I"]
def wsX8_next_ : List Cond := .code yX8_next_ cX8_next_ 7 (some .int) :: ((wsX8_next__r1 ++ wsX8_next__r2) ++ wsX80)
def wsX8_thingOf : List Cond := .code yX8_thingOf cX8_thingOf 3 (some .int) :: ([.fieldLink RX8 359 "TypeCourtModel" "things" "I", .fieldLink RX8 123 "TypeCourtModel" "thing" "[I"] ++ wsX80)
def wsX8_addEdge_r1 : List Cond := [Cond.fieldLink RX8 123 "TypeCourtModel" "thing" "[I", Cond.fieldLink RX8 117 "TypeCourtModel" "stands" "[Z", Cond.fieldLink RX8 126 "TypeCourtModel" "edgeFrom" "[I", Cond.fieldLink RX8 362 "TypeCourtModel" "edges" "I", Cond.fieldLink RX8 129 "TypeCourtModel" "edgeTo" "[I", Cond.fieldLink RX8 132 "TypeCourtModel" "edgeRole" "[I", Cond.methodLink RX8 378 yX8_leastTo, Cond.instanceMethod yX8_leastTo, Cond.selects RX8 yX8_leastTo yX8_leastTo, Cond.initialized RX8, Cond.code yX8_leastTo cX8_leastTo 6 (some .int), Cond.fieldLink RX8 105 "TypeCourtModel" "atX" "[I", Cond.methodLink RX8 368 yX8_types, Cond.instanceMethod yX8_types, Cond.selects RX8 yX8_types yX8_types, Cond.code yX8_types cX8_types 1 (some .int), Cond.fieldLink RX8 353 "TypeCourtModel" "atoms" "I", Cond.methodLink RX8 374 yX8_goesTo, Cond.instanceMethod yX8_goesTo, Cond.selects RX8 yX8_goesTo yX8_goesTo, Cond.code yX8_goesTo cX8_goesTo 4 (some .boolean), Cond.fieldLink RX8 108 "TypeCourtModel" "roleAtoms" "[I", Cond.methodLink RX8 432 yX8_thingOf, Cond.instanceMethod yX8_thingOf]
def wsX8_addEdge_r2 : List Cond := [Cond.selects RX8 yX8_thingOf yX8_thingOf, Cond.code yX8_thingOf cX8_thingOf 3 (some .int), Cond.fieldLink RX8 359 "TypeCourtModel" "things" "I"]
def wsX8_addEdge : List Cond := .code yX8_addEdge cX8_addEdge 5 none :: ((wsX8_addEdge_r1 ++ wsX8_addEdge_r2) ++ wsX80)
def wsX8_world_r1 : List Cond := [Cond.fieldLink RX8 356 "TypeCourtModel" "hasBook" "Z", Cond.fieldLink RX8 359 "TypeCourtModel" "things" "I", Cond.fieldLink RX8 362 "TypeCourtModel" "edges" "I", Cond.fieldLink RX8 123 "TypeCourtModel" "thing" "[I", Cond.fieldLink RX8 353 "TypeCourtModel" "atoms" "I", Cond.fieldLink RX8 73 "TypeCourtModel" "atomRole" "[I", Cond.fieldLink RX8 63 "TypeCourtModel" "isSingle" "[Z", Cond.fieldLink RX8 111 "TypeCourtModel" "ownAtoms" "[I", Cond.methodLink RX8 411 yX8_noQuestion, Cond.instanceMethod yX8_noQuestion, Cond.selects RX8 yX8_noQuestion yX8_noQuestion, Cond.initialized RX8, Cond.code yX8_noQuestion cX8_noQuestion 2 (some .boolean), Cond.fieldLink RX8 344 "TypeCourtModel" "questions" "I", Cond.methodLink RX8 154 yX8_in, Cond.static yX8_in, Cond.code yX8_in cX8_in 6 (some .boolean), Cond.methodLink RX8 417 yX8_leastOf, Cond.instanceMethod yX8_leastOf, Cond.selects RX8 yX8_leastOf yX8_leastOf, Cond.code yX8_leastOf cX8_leastOf 3 (some .int), Cond.fieldLink RX8 117 "TypeCourtModel" "stands" "[Z", Cond.methodLink RX8 368 yX8_types, Cond.instanceMethod yX8_types]
def wsX8_world_r2 : List Cond := [Cond.selects RX8 yX8_types yX8_types, Cond.code yX8_types cX8_types 1 (some .int), Cond.methodLink RX8 414 yX8_isAt, Cond.instanceMethod yX8_isAt, Cond.selects RX8 yX8_isAt yX8_isAt, Cond.code yX8_isAt cX8_isAt 3 (some .boolean), Cond.fieldLink RX8 102 "TypeCourtModel" "is" "[Z", Cond.fieldLink RX8 48 "TypeCourtModel" "question" "[I", Cond.methodLink RX8 435 yX8_addEdge, Cond.instanceMethod yX8_addEdge, Cond.selects RX8 yX8_addEdge yX8_addEdge, Cond.code yX8_addEdge cX8_addEdge 5 none, Cond.fieldLink RX8 126 "TypeCourtModel" "edgeFrom" "[I", Cond.fieldLink RX8 129 "TypeCourtModel" "edgeTo" "[I", Cond.fieldLink RX8 132 "TypeCourtModel" "edgeRole" "[I", Cond.methodLink RX8 378 yX8_leastTo, Cond.instanceMethod yX8_leastTo, Cond.selects RX8 yX8_leastTo yX8_leastTo, Cond.code yX8_leastTo cX8_leastTo 6 (some .int), Cond.fieldLink RX8 105 "TypeCourtModel" "atX" "[I", Cond.methodLink RX8 374 yX8_goesTo, Cond.instanceMethod yX8_goesTo, Cond.selects RX8 yX8_goesTo yX8_goesTo, Cond.code yX8_goesTo cX8_goesTo 4 (some .boolean)]
def wsX8_world_r3 : List Cond := [Cond.fieldLink RX8 108 "TypeCourtModel" "roleAtoms" "[I", Cond.methodLink RX8 432 yX8_thingOf, Cond.instanceMethod yX8_thingOf, Cond.selects RX8 yX8_thingOf yX8_thingOf, Cond.code yX8_thingOf cX8_thingOf 3 (some .int)]
def wsX8_world : List Cond := .code yX8_world cX8_world 7 (some .int) :: ((wsX8_world_r1 ++ (wsX8_world_r2 ++ wsX8_world_r3)) ++ wsX80)
def wsX8_thing : List Cond := .code yX8_thing cX8_thing 2 (some .int) :: ([.fieldLink RX8 356 "TypeCourtModel" "hasBook" "Z", .fieldLink RX8 359 "TypeCourtModel" "things" "I", .fieldLink RX8 123 "TypeCourtModel" "thing" "[I", .methodLink RX8 154 yX8_in, .static yX8_in, .initialized RX8, .code yX8_in cX8_in 6 (some .boolean)] ++ wsX80)
def wsX8_edge : List Cond := .code yX8_edge cX8_edge 3 (some .int) :: ([.fieldLink RX8 356 "TypeCourtModel" "hasBook" "Z", .fieldLink RX8 362 "TypeCourtModel" "edges" "I", .fieldLink RX8 126 "TypeCourtModel" "edgeFrom" "[I", .fieldLink RX8 129 "TypeCourtModel" "edgeTo" "[I", .fieldLink RX8 132 "TypeCourtModel" "edgeRole" "[I", .methodLink RX8 154 yX8_in, .static yX8_in, .initialized RX8, .code yX8_in cX8_in 6 (some .boolean)] ++ wsX80)
def wsX8_bones_r1 : List Cond := [Cond.fieldLink RX8 356 "TypeCourtModel" "hasBook" "Z", Cond.fieldLink RX8 341 "TypeCourtModel" "rules" "I", Cond.methodLink RX8 411 yX8_noQuestion, Cond.instanceMethod yX8_noQuestion, Cond.selects RX8 yX8_noQuestion yX8_noQuestion, Cond.initialized RX8, Cond.code yX8_noQuestion cX8_noQuestion 2 (some .boolean), Cond.fieldLink RX8 344 "TypeCourtModel" "questions" "I", Cond.methodLink RX8 154 yX8_in, Cond.static yX8_in, Cond.code yX8_in cX8_in 6 (some .boolean), Cond.methodLink RX8 417 yX8_leastOf, Cond.instanceMethod yX8_leastOf, Cond.selects RX8 yX8_leastOf yX8_leastOf, Cond.code yX8_leastOf cX8_leastOf 3 (some .int), Cond.fieldLink RX8 117 "TypeCourtModel" "stands" "[Z", Cond.methodLink RX8 368 yX8_types, Cond.instanceMethod yX8_types, Cond.selects RX8 yX8_types yX8_types, Cond.code yX8_types cX8_types 1 (some .int), Cond.fieldLink RX8 353 "TypeCourtModel" "atoms" "I", Cond.methodLink RX8 414 yX8_isAt, Cond.instanceMethod yX8_isAt, Cond.selects RX8 yX8_isAt yX8_isAt]
def wsX8_bones_r2 : List Cond := [Cond.code yX8_isAt cX8_isAt 3 (some .boolean), Cond.fieldLink RX8 102 "TypeCourtModel" "is" "[Z", Cond.fieldLink RX8 48 "TypeCourtModel" "question" "[I", Cond.methodLink RX8 398 yX8_sift, Cond.instanceMethod yX8_sift, Cond.selects RX8 yX8_sift yX8_sift, Cond.code yX8_sift cX8_sift 7 none, Cond.fieldLink RX8 114 "TypeCourtModel" "rankOf" "[I", Cond.fieldLink RX8 120 "TypeCourtModel" "stood" "[Z", Cond.fieldLink RX8 389 "TypeCourtModel" "fairMany" "I", Cond.fieldLink RX8 392 "TypeCourtModel" "roundMany" "I", Cond.methodLink RX8 382 yX8_isFair, Cond.instanceMethod yX8_isFair, Cond.selects RX8 yX8_isFair yX8_isFair, Cond.code yX8_isFair cX8_isFair 8 (some .boolean), Cond.fieldLink RX8 45 "TypeCourtModel" "rule" "[I", Cond.fieldLink RX8 39 "TypeCourtModel" "saidA" "[I", Cond.fieldLink RX8 42 "TypeCourtModel" "saidB" "[I", Cond.fieldLink RX8 36 "TypeCourtModel" "said" "[I", Cond.methodLink RX8 385 yX8_isMet, Cond.instanceMethod yX8_isMet, Cond.selects RX8 yX8_isMet yX8_isMet, Cond.code yX8_isMet cX8_isMet 7 (some .boolean), Cond.fieldLink RX8 350 "TypeCourtModel" "roles" "I"]
def wsX8_bones_r3 : List Cond := [Cond.fieldLink RX8 111 "TypeCourtModel" "ownAtoms" "[I", Cond.fieldLink RX8 63 "TypeCourtModel" "isSingle" "[Z", Cond.methodLink RX8 378 yX8_leastTo, Cond.instanceMethod yX8_leastTo, Cond.selects RX8 yX8_leastTo yX8_leastTo, Cond.code yX8_leastTo cX8_leastTo 6 (some .int), Cond.fieldLink RX8 105 "TypeCourtModel" "atX" "[I", Cond.methodLink RX8 374 yX8_goesTo, Cond.instanceMethod yX8_goesTo, Cond.selects RX8 yX8_goesTo yX8_goesTo, Cond.code yX8_goesTo cX8_goesTo 4 (some .boolean), Cond.fieldLink RX8 108 "TypeCourtModel" "roleAtoms" "[I"]
def wsX8_bones : List Cond := .code yX8_bones cX8_bones 4 (some .int) :: ((wsX8_bones_r1 ++ (wsX8_bones_r2 ++ wsX8_bones_r3)) ++ wsX80)
def wsX8_same : List Cond := .code yX8_same cX8_same 5 (some .int) :: ([.fieldLink RX8 356 "TypeCourtModel" "hasBook" "Z", .fieldLink RX8 117 "TypeCourtModel" "stands" "[Z", .methodLink RX8 411 yX8_noQuestion, .instanceMethod yX8_noQuestion, .selects RX8 yX8_noQuestion yX8_noQuestion, .initialized RX8, .code yX8_noQuestion cX8_noQuestion 2 (some .boolean), .fieldLink RX8 344 "TypeCourtModel" "questions" "I", .methodLink RX8 154 yX8_in, .static yX8_in, .code yX8_in cX8_in 6 (some .boolean), .methodLink RX8 368 yX8_types, .instanceMethod yX8_types, .selects RX8 yX8_types yX8_types, .code yX8_types cX8_types 1 (some .int), .fieldLink RX8 353 "TypeCourtModel" "atoms" "I", .methodLink RX8 414 yX8_isAt, .instanceMethod yX8_isAt, .selects RX8 yX8_isAt yX8_isAt, .code yX8_isAt cX8_isAt 3 (some .boolean), .fieldLink RX8 102 "TypeCourtModel" "is" "[Z", .fieldLink RX8 48 "TypeCourtModel" "question" "[I"] ++ wsX80)
def wsX8_put : List Cond := .code yX8_put cX8_put 2 none :: ([.fieldLink RX8 135 "TypeCourtModel" "out" "[B", .fieldLink RX8 402 "TypeCourtModel" "outMany" "I"] ++ wsX80)
def wsX8_later : List Cond := .code yX8_later cX8_later 4 none :: ([.fieldLink RX8 138 "TypeCourtModel" "put" "[I", .fieldLink RX8 438 "TypeCourtModel" "puts" "I", .fieldLink RX8 141 "TypeCourtModel" "putOf" "[I", .fieldLink RX8 144 "TypeCourtModel" "putLeast" "[I"] ++ wsX80)
def wsX8_putWord : List Cond := .code yX8_putWord cX8_putWord 4 none :: ([.fieldLink RX8 13 "TypeCourtModel" "words" "[C", .methodLink RX8 441 yX8_put, .instanceMethod yX8_put, .selects RX8 yX8_put yX8_put, .initialized RX8, .code yX8_put cX8_put 2 none, .fieldLink RX8 135 "TypeCourtModel" "out" "[B", .fieldLink RX8 402 "TypeCourtModel" "outMany" "I"] ++ wsX80)
def wsX8_putRole : List Cond := .code yX8_putRole cX8_putRole 3 none :: ([.fieldLink RX8 60 "TypeCourtModel" "roleSize" "[I", .fieldLink RX8 57 "TypeCourtModel" "roleLetters" "[B", .methodLink RX8 441 yX8_put, .instanceMethod yX8_put, .selects RX8 yX8_put yX8_put, .initialized RX8, .code yX8_put cX8_put 2 none, .fieldLink RX8 135 "TypeCourtModel" "out" "[B", .fieldLink RX8 402 "TypeCourtModel" "outMany" "I"] ++ wsX80)
def wsX8_putName : List Cond := .code yX8_putName cX8_putName 3 none :: ([.fieldLink RX8 54 "TypeCourtModel" "nameSize" "[I", .fieldLink RX8 51 "TypeCourtModel" "nameLetters" "[B", .methodLink RX8 441 yX8_put, .instanceMethod yX8_put, .selects RX8 yX8_put yX8_put, .initialized RX8, .code yX8_put cX8_put 2 none, .fieldLink RX8 135 "TypeCourtModel" "out" "[B", .fieldLink RX8 402 "TypeCourtModel" "outMany" "I"] ++ wsX80)
def wsX8_putOne_r1 : List Cond := [Cond.fieldLink RX8 17 "TypeCourtModel" "kind" "[I", Cond.fieldLink RX8 21 "TypeCourtModel" "one" "[I", Cond.fieldLink RX8 24 "TypeCourtModel" "two" "[I", Cond.methodLink RX8 441 yX8_put, Cond.instanceMethod yX8_put, Cond.selects RX8 yX8_put yX8_put, Cond.initialized RX8, Cond.code yX8_put cX8_put 2 none, Cond.fieldLink RX8 135 "TypeCourtModel" "out" "[B", Cond.fieldLink RX8 402 "TypeCourtModel" "outMany" "I", Cond.methodLink RX8 443 yX8_later, Cond.instanceMethod yX8_later, Cond.selects RX8 yX8_later yX8_later, Cond.code yX8_later cX8_later 4 none, Cond.fieldLink RX8 138 "TypeCourtModel" "put" "[I", Cond.fieldLink RX8 438 "TypeCourtModel" "puts" "I", Cond.fieldLink RX8 141 "TypeCourtModel" "putOf" "[I", Cond.fieldLink RX8 144 "TypeCourtModel" "putLeast" "[I", Cond.methodLink RX8 446 yX8_putName, Cond.instanceMethod yX8_putName, Cond.selects RX8 yX8_putName yX8_putName, Cond.code yX8_putName cX8_putName 3 none, Cond.fieldLink RX8 54 "TypeCourtModel" "nameSize" "[I", Cond.fieldLink RX8 51 "TypeCourtModel" "nameLetters" "[B"]
def wsX8_putOne_r2 : List Cond := [Cond.methodLink RX8 449 yX8_putWord, Cond.instanceMethod yX8_putWord, Cond.selects RX8 yX8_putWord yX8_putWord, Cond.code yX8_putWord cX8_putWord 4 none, Cond.fieldLink RX8 13 "TypeCourtModel" "words" "[C", Cond.methodLink RX8 452 yX8_putRole, Cond.instanceMethod yX8_putRole, Cond.selects RX8 yX8_putRole yX8_putRole, Cond.code yX8_putRole cX8_putRole 3 none, Cond.fieldLink RX8 60 "TypeCourtModel" "roleSize" "[I", Cond.fieldLink RX8 57 "TypeCourtModel" "roleLetters" "[B"]
def wsX8_putOne : List Cond := .code yX8_putOne cX8_putOne 5 none :: ((wsX8_putOne_r1 ++ wsX8_putOne_r2) ++ wsX80)
def wsX8_putConcept_r1 : List Cond := [Cond.fieldLink RX8 438 "TypeCourtModel" "puts" "I", Cond.fieldLink RX8 138 "TypeCourtModel" "put" "[I", Cond.fieldLink RX8 141 "TypeCourtModel" "putOf" "[I", Cond.fieldLink RX8 144 "TypeCourtModel" "putLeast" "[I", Cond.methodLink RX8 443 yX8_later, Cond.instanceMethod yX8_later, Cond.selects RX8 yX8_later yX8_later, Cond.initialized RX8, Cond.code yX8_later cX8_later 4 none, Cond.methodLink RX8 455 yX8_putOne, Cond.instanceMethod yX8_putOne, Cond.selects RX8 yX8_putOne yX8_putOne, Cond.code yX8_putOne cX8_putOne 5 none, Cond.fieldLink RX8 17 "TypeCourtModel" "kind" "[I", Cond.fieldLink RX8 21 "TypeCourtModel" "one" "[I", Cond.fieldLink RX8 24 "TypeCourtModel" "two" "[I", Cond.methodLink RX8 441 yX8_put, Cond.instanceMethod yX8_put, Cond.selects RX8 yX8_put yX8_put, Cond.code yX8_put cX8_put 2 none, Cond.fieldLink RX8 135 "TypeCourtModel" "out" "[B", Cond.fieldLink RX8 402 "TypeCourtModel" "outMany" "I", Cond.methodLink RX8 446 yX8_putName, Cond.instanceMethod yX8_putName]
def wsX8_putConcept_r2 : List Cond := [Cond.selects RX8 yX8_putName yX8_putName, Cond.code yX8_putName cX8_putName 3 none, Cond.fieldLink RX8 54 "TypeCourtModel" "nameSize" "[I", Cond.fieldLink RX8 51 "TypeCourtModel" "nameLetters" "[B", Cond.methodLink RX8 449 yX8_putWord, Cond.instanceMethod yX8_putWord, Cond.selects RX8 yX8_putWord yX8_putWord, Cond.code yX8_putWord cX8_putWord 4 none, Cond.fieldLink RX8 13 "TypeCourtModel" "words" "[C", Cond.methodLink RX8 452 yX8_putRole, Cond.instanceMethod yX8_putRole, Cond.selects RX8 yX8_putRole yX8_putRole, Cond.code yX8_putRole cX8_putRole 3 none, Cond.fieldLink RX8 60 "TypeCourtModel" "roleSize" "[I", Cond.fieldLink RX8 57 "TypeCourtModel" "roleLetters" "[B"]
def wsX8_putConcept : List Cond := .code yX8_putConcept cX8_putConcept 2 none :: ((wsX8_putConcept_r1 ++ wsX8_putConcept_r2) ++ wsX80)
def wsX8_print_r1 : List Cond := [Cond.fieldLink RX8 356 "TypeCourtModel" "hasBook" "Z", Cond.fieldLink RX8 402 "TypeCourtModel" "outMany" "I", Cond.fieldLink RX8 338 "TypeCourtModel" "sayings" "I", Cond.fieldLink RX8 36 "TypeCourtModel" "said" "[I", Cond.fieldLink RX8 39 "TypeCourtModel" "saidA" "[I", Cond.fieldLink RX8 42 "TypeCourtModel" "saidB" "[I", Cond.methodLink RX8 458 yX8_putConcept, Cond.instanceMethod yX8_putConcept, Cond.selects RX8 yX8_putConcept yX8_putConcept, Cond.initialized RX8, Cond.code yX8_putConcept cX8_putConcept 2 none, Cond.fieldLink RX8 438 "TypeCourtModel" "puts" "I", Cond.fieldLink RX8 138 "TypeCourtModel" "put" "[I", Cond.fieldLink RX8 141 "TypeCourtModel" "putOf" "[I", Cond.fieldLink RX8 144 "TypeCourtModel" "putLeast" "[I", Cond.methodLink RX8 443 yX8_later, Cond.instanceMethod yX8_later, Cond.selects RX8 yX8_later yX8_later, Cond.code yX8_later cX8_later 4 none, Cond.methodLink RX8 455 yX8_putOne, Cond.instanceMethod yX8_putOne, Cond.selects RX8 yX8_putOne yX8_putOne, Cond.code yX8_putOne cX8_putOne 5 none, Cond.fieldLink RX8 17 "TypeCourtModel" "kind" "[I"]
def wsX8_print_r2 : List Cond := [Cond.fieldLink RX8 21 "TypeCourtModel" "one" "[I", Cond.fieldLink RX8 24 "TypeCourtModel" "two" "[I", Cond.methodLink RX8 441 yX8_put, Cond.instanceMethod yX8_put, Cond.selects RX8 yX8_put yX8_put, Cond.code yX8_put cX8_put 2 none, Cond.fieldLink RX8 135 "TypeCourtModel" "out" "[B", Cond.methodLink RX8 446 yX8_putName, Cond.instanceMethod yX8_putName, Cond.selects RX8 yX8_putName yX8_putName, Cond.code yX8_putName cX8_putName 3 none, Cond.fieldLink RX8 54 "TypeCourtModel" "nameSize" "[I", Cond.fieldLink RX8 51 "TypeCourtModel" "nameLetters" "[B", Cond.methodLink RX8 449 yX8_putWord, Cond.instanceMethod yX8_putWord, Cond.selects RX8 yX8_putWord yX8_putWord, Cond.code yX8_putWord cX8_putWord 4 none, Cond.fieldLink RX8 13 "TypeCourtModel" "words" "[C", Cond.methodLink RX8 452 yX8_putRole, Cond.instanceMethod yX8_putRole, Cond.selects RX8 yX8_putRole yX8_putRole, Cond.code yX8_putRole cX8_putRole 3 none, Cond.fieldLink RX8 60 "TypeCourtModel" "roleSize" "[I", Cond.fieldLink RX8 57 "TypeCourtModel" "roleLetters" "[B"]
def wsX8_print : List Cond := .code yX8_print cX8_print 2 (some .int) :: ((wsX8_print_r1 ++ wsX8_print_r2) ++ wsX80)
def wsX8_out : List Cond := .code yX8_out cX8_out 2 (some .int) :: ([.fieldLink RX8 402 "TypeCourtModel" "outMany" "I", .fieldLink RX8 135 "TypeCourtModel" "out" "[B", .methodLink RX8 154 yX8_in, .static yX8_in, .initialized RX8, .code yX8_in cX8_in 6 (some .boolean)] ++ wsX80)
def wsX8_back : List Cond := .code yX8_back cX8_back 3 (some .int) :: ([.fieldLink RX8 402 "TypeCourtModel" "outMany" "I", .fieldLink RX8 7 "TypeCourtModel" "tape" "[B", .fieldLink RX8 135 "TypeCourtModel" "out" "[B", .fieldLink RX8 147 "TypeCourtModel" "taped" "I"] ++ wsX80)
def wsJ9_min_7cf53 : List Cond := .code yJ9_min_7cf53 cJ9_min_7cf53 2 (some .int) :: ([])
theorem inJ13 : ∀ w ∈ wsJ130, w ∈ lw_tbl := by decide +kernel
theorem inJ9 : ∀ w ∈ wsJ90, w ∈ lw_tbl := by decide +kernel
theorem inJ10 : ∀ w ∈ wsJ100, w ∈ lw_tbl := by decide +kernel
set_option maxRecDepth 20000 in
theorem ggX0_init_X1_init : GoodIn wsX0_init wsX1_init := goodIn_r _ [17, 18, 2, 3, 11, 19, 20, 21, 22, 23, 24, 25, 26, 27, 28, 29, 30, 31, 32, 33, 34, 35, 36] (by decide +kernel) (by decide +kernel)
set_option maxRecDepth 20000 in
theorem gX0_init_X1_init_n11 : GoodIn wsX0_init (wsX1_init) := ggX0_init_X1_init
theorem dX0_init_0 : decode cX0_init 0 = .ok (.aload_n 0, 1) := by decide +kernel
theorem dX0_init_1 : decode cX0_init 1 = .ok (.invokespecial 3, 3) := by decide +kernel
theorem dX0_init_4 : decode cX0_init 4 = .ok (.aload_n 0, 1) := by decide +kernel
theorem dX0_init_5 : decode cX0_init 5 = .ok (.new 9, 3) := by decide +kernel
theorem dX0_init_8 : decode cX0_init 8 = .ok (.dup, 1) := by decide +kernel
theorem dX0_init_9 : decode cX0_init 9 = .ok (.invokespecial 11, 3) := by decide +kernel
theorem dX0_init_12 : decode cX0_init 12 = .ok (.putfield 12, 3) := by decide +kernel
theorem dX0_init_15 : decode cX0_init 15 = .ok (.aload_n 0, 1) := by decide +kernel
theorem dX0_init_16 : decode cX0_init 16 = .ok (.iconst 5, 1) := by decide +kernel
theorem dX0_init_17 : decode cX0_init 17 = .ok (.newarray .long, 2) := by decide +kernel
theorem dX0_init_19 : decode cX0_init 19 = .ok (.putfield 18, 3) := by decide +kernel
theorem dX0_init_22 : decode cX0_init 22 = .ok (.aload_n 0, 1) := by decide +kernel
theorem dX0_init_23 : decode cX0_init 23 = .ok (.iconst 3, 1) := by decide +kernel
theorem dX0_init_24 : decode cX0_init 24 = .ok (.newarray .long, 2) := by decide +kernel
theorem dX0_init_26 : decode cX0_init 26 = .ok (.putfield 22, 3) := by decide +kernel
theorem dX0_init_29 : decode cX0_init 29 = .ok (.aload_n 0, 1) := by decide +kernel
theorem dX0_init_30 : decode cX0_init 30 = .ok (.sipush 246, 3) := by decide +kernel
theorem dX0_init_33 : decode cX0_init 33 = .ok (.newarray .int, 2) := by decide +kernel
theorem dX0_init_35 : decode cX0_init 35 = .ok (.putfield 25, 3) := by decide +kernel
theorem dX0_init_38 : decode cX0_init 38 = .ok (.aload_n 0, 1) := by decide +kernel
theorem dX0_init_39 : decode cX0_init 39 = .ok (.bipush 12, 2) := by decide +kernel
theorem dX0_init_41 : decode cX0_init 41 = .ok (.newarray .int, 2) := by decide +kernel
theorem dX0_init_43 : decode cX0_init 43 = .ok (.putfield 29, 3) := by decide +kernel
theorem dX0_init_46 : decode cX0_init 46 = .ok (.aload_n 0, 1) := by decide +kernel
theorem dX0_init_47 : decode cX0_init 47 = .ok (.bipush 12, 2) := by decide +kernel
theorem dX0_init_49 : decode cX0_init 49 = .ok (.newarray .int, 2) := by decide +kernel
theorem dX0_init_51 : decode cX0_init 51 = .ok (.putfield 32, 3) := by decide +kernel
theorem dX0_init_54 : decode cX0_init 54 = .ok (.aload_n 0, 1) := by decide +kernel
theorem dX0_init_55 : decode cX0_init 55 = .ok (.iconst 3, 1) := by decide +kernel
theorem dX0_init_56 : decode cX0_init 56 = .ok (.newarray .int, 2) := by decide +kernel
theorem dX0_init_58 : decode cX0_init 58 = .ok (.putfield 35, 3) := by decide +kernel
theorem dX0_init_61 : decode cX0_init 61 = .ok (.return_, 1) := by decide +kernel
set_option maxRecDepth 20000 in
theorem ggX0_clear_X1_clear : GoodIn wsX0_clear wsX1_clear := goodIn_r _ [15, 16, 17, 33, 34, 35, 36, 37, 38, 39, 40, 41, 42] (by decide +kernel) (by decide +kernel)
set_option maxRecDepth 20000 in
theorem gX0_clear_X1_clear : GoodIn wsX0_clear (wsV RX0 38 RX1 yX1_clear wsX1_clear) := goodIn_app (goodIn_of _ (by decide +kernel)) ggX0_clear_X1_clear
theorem dX0_clear_0 : decode cX0_clear 0 = .ok (.aload_n 0, 1) := by decide +kernel
theorem dX0_clear_1 : decode cX0_clear 1 = .ok (.getfield 12, 3) := by decide +kernel
theorem dX0_clear_4 : decode cX0_clear 4 = .ok (.invokevirtual 38, 3) := by decide +kernel
theorem dX0_clear_7 : decode cX0_clear 7 = .ok (.aload_n 0, 1) := by decide +kernel
theorem dX0_clear_8 : decode cX0_clear 8 = .ok (.iconst 0, 1) := by decide +kernel
theorem dX0_clear_9 : decode cX0_clear 9 = .ok (.putfield 41, 3) := by decide +kernel
theorem dX0_clear_12 : decode cX0_clear 12 = .ok (.aload_n 0, 1) := by decide +kernel
theorem dX0_clear_13 : decode cX0_clear 13 = .ok (.iconst 0, 1) := by decide +kernel
theorem dX0_clear_14 : decode cX0_clear 14 = .ok (.putfield 45, 3) := by decide +kernel
theorem dX0_clear_17 : decode cX0_clear 17 = .ok (.aload_n 0, 1) := by decide +kernel
theorem dX0_clear_18 : decode cX0_clear 18 = .ok (.iconst 0, 1) := by decide +kernel
theorem dX0_clear_19 : decode cX0_clear 19 = .ok (.putfield 48, 3) := by decide +kernel
theorem dX0_clear_22 : decode cX0_clear 22 = .ok (.aload_n 0, 1) := by decide +kernel
theorem dX0_clear_23 : decode cX0_clear 23 = .ok (.iconst 0, 1) := by decide +kernel
theorem dX0_clear_24 : decode cX0_clear 24 = .ok (.putfield 51, 3) := by decide +kernel
theorem dX0_clear_27 : decode cX0_clear 27 = .ok (.aload_n 0, 1) := by decide +kernel
theorem dX0_clear_28 : decode cX0_clear 28 = .ok (.iconst 0, 1) := by decide +kernel
theorem dX0_clear_29 : decode cX0_clear 29 = .ok (.putfield 54, 3) := by decide +kernel
theorem dX0_clear_32 : decode cX0_clear 32 = .ok (.aload_n 0, 1) := by decide +kernel
theorem dX0_clear_33 : decode cX0_clear 33 = .ok (.iconst 0, 1) := by decide +kernel
theorem dX0_clear_34 : decode cX0_clear 34 = .ok (.putfield 57, 3) := by decide +kernel
theorem dX0_clear_37 : decode cX0_clear 37 = .ok (.iconst 0, 1) := by decide +kernel
theorem dX0_clear_38 : decode cX0_clear 38 = .ok (.istore_n 1, 1) := by decide +kernel
theorem dX0_clear_39 : decode cX0_clear 39 = .ok (.iload_n 1, 1) := by decide +kernel
theorem dX0_clear_40 : decode cX0_clear 40 = .ok (.iconst 3, 1) := by decide +kernel
theorem dX0_clear_41 : decode cX0_clear 41 = .ok (.if_icmp .ge 16, 3) := by decide +kernel
theorem dX0_clear_44 : decode cX0_clear 44 = .ok (.aload_n 0, 1) := by decide +kernel
theorem dX0_clear_45 : decode cX0_clear 45 = .ok (.getfield 35, 3) := by decide +kernel
theorem dX0_clear_48 : decode cX0_clear 48 = .ok (.iload_n 1, 1) := by decide +kernel
theorem dX0_clear_49 : decode cX0_clear 49 = .ok (.iconst 0, 1) := by decide +kernel
theorem dX0_clear_50 : decode cX0_clear 50 = .ok (.iastore, 1) := by decide +kernel
theorem dX0_clear_51 : decode cX0_clear 51 = .ok (.iinc 1 1, 3) := by decide +kernel
theorem dX0_clear_54 : decode cX0_clear 54 = .ok (.goto (-15), 3) := by decide +kernel
theorem dX0_clear_57 : decode cX0_clear 57 = .ok (.aload_n 0, 1) := by decide +kernel
theorem dX0_clear_58 : decode cX0_clear 58 = .ok (.iconst 0, 1) := by decide +kernel
theorem dX0_clear_59 : decode cX0_clear 59 = .ok (.putfield 60, 3) := by decide +kernel
theorem dX0_clear_62 : decode cX0_clear 62 = .ok (.aload_n 0, 1) := by decide +kernel
theorem dX0_clear_63 : decode cX0_clear 63 = .ok (.iconst 0, 1) := by decide +kernel
theorem dX0_clear_64 : decode cX0_clear 64 = .ok (.putfield 63, 3) := by decide +kernel
theorem dX0_clear_67 : decode cX0_clear 67 = .ok (.return_, 1) := by decide +kernel
set_option maxRecDepth 20000 in
theorem ggX0_findName_X0_find : GoodIn wsX0_findName wsX0_find := goodIn_r _ [6] (by decide +kernel) (by decide +kernel)
set_option maxRecDepth 20000 in
theorem gX0_findName_X0_find : GoodIn wsX0_findName (va_wsS RX0 66 yX0_find wsX0_find) := goodIn_app (goodIn_of _ (by decide +kernel)) ggX0_findName_X0_find
theorem dX0_findName_0 : decode cX0_findName 0 = .ok (.aload_n 0, 1) := by decide +kernel
theorem dX0_findName_1 : decode cX0_findName 1 = .ok (.getfield 18, 3) := by decide +kernel
theorem dX0_findName_4 : decode cX0_findName 4 = .ok (.aload_n 0, 1) := by decide +kernel
theorem dX0_findName_5 : decode cX0_findName 5 = .ok (.getfield 45, 3) := by decide +kernel
theorem dX0_findName_8 : decode cX0_findName 8 = .ok (.lload_n 1, 1) := by decide +kernel
theorem dX0_findName_9 : decode cX0_findName 9 = .ok (.invokestatic 66, 3) := by decide +kernel
theorem dX0_findName_12 : decode cX0_findName 12 = .ok (.ireturn, 1) := by decide +kernel
set_option maxRecDepth 20000 in
theorem ggX0_findRole_X0_find : GoodIn wsX0_findRole wsX0_find := goodIn_r _ [6] (by decide +kernel) (by decide +kernel)
set_option maxRecDepth 20000 in
theorem gX0_findRole_X0_find : GoodIn wsX0_findRole (va_wsS RX0 66 yX0_find wsX0_find) := goodIn_app (goodIn_of _ (by decide +kernel)) ggX0_findRole_X0_find
theorem dX0_findRole_0 : decode cX0_findRole 0 = .ok (.aload_n 0, 1) := by decide +kernel
theorem dX0_findRole_1 : decode cX0_findRole 1 = .ok (.getfield 22, 3) := by decide +kernel
theorem dX0_findRole_4 : decode cX0_findRole 4 = .ok (.aload_n 0, 1) := by decide +kernel
theorem dX0_findRole_5 : decode cX0_findRole 5 = .ok (.getfield 48, 3) := by decide +kernel
theorem dX0_findRole_8 : decode cX0_findRole 8 = .ok (.lload_n 1, 1) := by decide +kernel
theorem dX0_findRole_9 : decode cX0_findRole 9 = .ok (.invokestatic 66, 3) := by decide +kernel
theorem dX0_findRole_12 : decode cX0_findRole 12 = .ok (.ireturn, 1) := by decide +kernel
theorem dX0_find_0 : decode cX0_find 0 = .ok (.iconst 0, 1) := by decide +kernel
theorem dX0_find_1 : decode cX0_find 1 = .ok (.istore 4, 2) := by decide +kernel
theorem dX0_find_3 : decode cX0_find 3 = .ok (.iload 4, 2) := by decide +kernel
theorem dX0_find_5 : decode cX0_find 5 = .ok (.iload_n 1, 1) := by decide +kernel
theorem dX0_find_6 : decode cX0_find 6 = .ok (.if_icmp .ge 28, 3) := by decide +kernel
theorem dX0_find_9 : decode cX0_find 9 = .ok (.iload 4, 2) := by decide +kernel
theorem dX0_find_11 : decode cX0_find 11 = .ok (.aload_n 0, 1) := by decide +kernel
theorem dX0_find_12 : decode cX0_find 12 = .ok (.arraylength, 1) := by decide +kernel
theorem dX0_find_13 : decode cX0_find 13 = .ok (.if_icmp .ge 21, 3) := by decide +kernel
theorem dX0_find_16 : decode cX0_find 16 = .ok (.aload_n 0, 1) := by decide +kernel
theorem dX0_find_17 : decode cX0_find 17 = .ok (.iload 4, 2) := by decide +kernel
theorem dX0_find_19 : decode cX0_find 19 = .ok (.laload, 1) := by decide +kernel
theorem dX0_find_20 : decode cX0_find 20 = .ok (.lload_n 2, 1) := by decide +kernel
theorem dX0_find_21 : decode cX0_find 21 = .ok (.lcmp, 1) := by decide +kernel
theorem dX0_find_22 : decode cX0_find 22 = .ok (.ifCond .ne 6, 3) := by decide +kernel
theorem dX0_find_25 : decode cX0_find 25 = .ok (.iload 4, 2) := by decide +kernel
theorem dX0_find_27 : decode cX0_find 27 = .ok (.ireturn, 1) := by decide +kernel
theorem dX0_find_28 : decode cX0_find 28 = .ok (.iinc 4 1, 3) := by decide +kernel
theorem dX0_find_31 : decode cX0_find 31 = .ok (.goto (-28), 3) := by decide +kernel
theorem dX0_find_34 : decode cX0_find 34 = .ok (.iconst (-1), 1) := by decide +kernel
theorem dX0_find_35 : decode cX0_find 35 = .ok (.ireturn, 1) := by decide +kernel
theorem dX0_addName_0 : decode cX0_addName 0 = .ok (.aload_n 0, 1) := by decide +kernel
theorem dX0_addName_1 : decode cX0_addName 1 = .ok (.getfield 45, 3) := by decide +kernel
theorem dX0_addName_4 : decode cX0_addName 4 = .ok (.iconst 5, 1) := by decide +kernel
theorem dX0_addName_5 : decode cX0_addName 5 = .ok (.if_icmp .lt 5, 3) := by decide +kernel
theorem dX0_addName_8 : decode cX0_addName 8 = .ok (.iconst (-1), 1) := by decide +kernel
theorem dX0_addName_9 : decode cX0_addName 9 = .ok (.ireturn, 1) := by decide +kernel
theorem dX0_addName_10 : decode cX0_addName 10 = .ok (.aload_n 0, 1) := by decide +kernel
theorem dX0_addName_11 : decode cX0_addName 11 = .ok (.getfield 18, 3) := by decide +kernel
theorem dX0_addName_14 : decode cX0_addName 14 = .ok (.aload_n 0, 1) := by decide +kernel
theorem dX0_addName_15 : decode cX0_addName 15 = .ok (.getfield 45, 3) := by decide +kernel
theorem dX0_addName_18 : decode cX0_addName 18 = .ok (.lload_n 1, 1) := by decide +kernel
theorem dX0_addName_19 : decode cX0_addName 19 = .ok (.lastore, 1) := by decide +kernel
theorem dX0_addName_20 : decode cX0_addName 20 = .ok (.aload_n 0, 1) := by decide +kernel
theorem dX0_addName_21 : decode cX0_addName 21 = .ok (.dup, 1) := by decide +kernel
theorem dX0_addName_22 : decode cX0_addName 22 = .ok (.getfield 45, 3) := by decide +kernel
theorem dX0_addName_25 : decode cX0_addName 25 = .ok (.iconst 1, 1) := by decide +kernel
theorem dX0_addName_26 : decode cX0_addName 26 = .ok (.iadd, 1) := by decide +kernel
theorem dX0_addName_27 : decode cX0_addName 27 = .ok (.putfield 45, 3) := by decide +kernel
theorem dX0_addName_30 : decode cX0_addName 30 = .ok (.aload_n 0, 1) := by decide +kernel
theorem dX0_addName_31 : decode cX0_addName 31 = .ok (.getfield 45, 3) := by decide +kernel
theorem dX0_addName_34 : decode cX0_addName 34 = .ok (.iconst 1, 1) := by decide +kernel
theorem dX0_addName_35 : decode cX0_addName 35 = .ok (.isub, 1) := by decide +kernel
theorem dX0_addName_36 : decode cX0_addName 36 = .ok (.ireturn, 1) := by decide +kernel
theorem dX0_addRole_0 : decode cX0_addRole 0 = .ok (.aload_n 0, 1) := by decide +kernel
theorem dX0_addRole_1 : decode cX0_addRole 1 = .ok (.getfield 48, 3) := by decide +kernel
theorem dX0_addRole_4 : decode cX0_addRole 4 = .ok (.iconst 3, 1) := by decide +kernel
theorem dX0_addRole_5 : decode cX0_addRole 5 = .ok (.if_icmp .lt 5, 3) := by decide +kernel
theorem dX0_addRole_8 : decode cX0_addRole 8 = .ok (.iconst (-1), 1) := by decide +kernel
theorem dX0_addRole_9 : decode cX0_addRole 9 = .ok (.ireturn, 1) := by decide +kernel
theorem dX0_addRole_10 : decode cX0_addRole 10 = .ok (.aload_n 0, 1) := by decide +kernel
theorem dX0_addRole_11 : decode cX0_addRole 11 = .ok (.getfield 22, 3) := by decide +kernel
theorem dX0_addRole_14 : decode cX0_addRole 14 = .ok (.aload_n 0, 1) := by decide +kernel
theorem dX0_addRole_15 : decode cX0_addRole 15 = .ok (.getfield 48, 3) := by decide +kernel
theorem dX0_addRole_18 : decode cX0_addRole 18 = .ok (.lload_n 1, 1) := by decide +kernel
theorem dX0_addRole_19 : decode cX0_addRole 19 = .ok (.lastore, 1) := by decide +kernel
theorem dX0_addRole_20 : decode cX0_addRole 20 = .ok (.aload_n 0, 1) := by decide +kernel
theorem dX0_addRole_21 : decode cX0_addRole 21 = .ok (.dup, 1) := by decide +kernel
theorem dX0_addRole_22 : decode cX0_addRole 22 = .ok (.getfield 48, 3) := by decide +kernel
theorem dX0_addRole_25 : decode cX0_addRole 25 = .ok (.iconst 1, 1) := by decide +kernel
theorem dX0_addRole_26 : decode cX0_addRole 26 = .ok (.iadd, 1) := by decide +kernel
theorem dX0_addRole_27 : decode cX0_addRole 27 = .ok (.putfield 48, 3) := by decide +kernel
theorem dX0_addRole_30 : decode cX0_addRole 30 = .ok (.aload_n 0, 1) := by decide +kernel
theorem dX0_addRole_31 : decode cX0_addRole 31 = .ok (.getfield 48, 3) := by decide +kernel
theorem dX0_addRole_34 : decode cX0_addRole 34 = .ok (.iconst 1, 1) := by decide +kernel
theorem dX0_addRole_35 : decode cX0_addRole 35 = .ok (.isub, 1) := by decide +kernel
theorem dX0_addRole_36 : decode cX0_addRole 36 = .ok (.ireturn, 1) := by decide +kernel
set_option maxRecDepth 20000 in
theorem ggX0_addRule_X0_addStatement : GoodIn wsX0_addRule wsX0_addStatement := goodIn_r _ [7, 8, 9, 10, 11, 12, 13, 14, 15, 16, 17, 18, 19, 20, 21, 22, 23, 24] (by decide +kernel) (by decide +kernel)
set_option maxRecDepth 20000 in
theorem gX0_addRule_X0_addStatement : GoodIn wsX0_addRule (wsV RX0 70 RX0 yX0_addStatement wsX0_addStatement) := goodIn_app (goodIn_of _ (by decide +kernel)) ggX0_addRule_X0_addStatement
theorem dX0_addRule_0 : decode cX0_addRule 0 = .ok (.aload_n 0, 1) := by decide +kernel
theorem dX0_addRule_1 : decode cX0_addRule 1 = .ok (.getfield 54, 3) := by decide +kernel
theorem dX0_addRule_4 : decode cX0_addRule 4 = .ok (.bipush 12, 2) := by decide +kernel
theorem dX0_addRule_6 : decode cX0_addRule 6 = .ok (.if_icmp .ge 29, 3) := by decide +kernel
theorem dX0_addRule_9 : decode cX0_addRule 9 = .ok (.aload_n 0, 1) := by decide +kernel
theorem dX0_addRule_10 : decode cX0_addRule 10 = .ok (.getfield 29, 3) := by decide +kernel
theorem dX0_addRule_13 : decode cX0_addRule 13 = .ok (.aload_n 0, 1) := by decide +kernel
theorem dX0_addRule_14 : decode cX0_addRule 14 = .ok (.getfield 54, 3) := by decide +kernel
theorem dX0_addRule_17 : decode cX0_addRule 17 = .ok (.aload_n 0, 1) := by decide +kernel
theorem dX0_addRule_18 : decode cX0_addRule 18 = .ok (.iload_n 1, 1) := by decide +kernel
theorem dX0_addRule_19 : decode cX0_addRule 19 = .ok (.iload_n 2, 1) := by decide +kernel
theorem dX0_addRule_20 : decode cX0_addRule 20 = .ok (.iload_n 3, 1) := by decide +kernel
theorem dX0_addRule_21 : decode cX0_addRule 21 = .ok (.invokevirtual 70, 3) := by decide +kernel
theorem dX0_addRule_24 : decode cX0_addRule 24 = .ok (.iastore, 1) := by decide +kernel
theorem dX0_addRule_25 : decode cX0_addRule 25 = .ok (.aload_n 0, 1) := by decide +kernel
theorem dX0_addRule_26 : decode cX0_addRule 26 = .ok (.dup, 1) := by decide +kernel
theorem dX0_addRule_27 : decode cX0_addRule 27 = .ok (.getfield 54, 3) := by decide +kernel
theorem dX0_addRule_30 : decode cX0_addRule 30 = .ok (.iconst 1, 1) := by decide +kernel
theorem dX0_addRule_31 : decode cX0_addRule 31 = .ok (.iadd, 1) := by decide +kernel
theorem dX0_addRule_32 : decode cX0_addRule 32 = .ok (.putfield 54, 3) := by decide +kernel
theorem dX0_addRule_35 : decode cX0_addRule 35 = .ok (.return_, 1) := by decide +kernel
set_option maxRecDepth 20000 in
theorem ggX0_addQuestion_X0_addStatement : GoodIn wsX0_addQuestion wsX0_addStatement := goodIn_r _ [7, 8, 9, 10, 11, 12, 13, 14, 15, 16, 17, 18, 19, 20, 21, 22, 23, 24] (by decide +kernel) (by decide +kernel)
set_option maxRecDepth 20000 in
theorem gX0_addQuestion_X0_addStatement : GoodIn wsX0_addQuestion (wsV RX0 70 RX0 yX0_addStatement wsX0_addStatement) := goodIn_app (goodIn_of _ (by decide +kernel)) ggX0_addQuestion_X0_addStatement
theorem dX0_addQuestion_0 : decode cX0_addQuestion 0 = .ok (.aload_n 0, 1) := by decide +kernel
theorem dX0_addQuestion_1 : decode cX0_addQuestion 1 = .ok (.getfield 57, 3) := by decide +kernel
theorem dX0_addQuestion_4 : decode cX0_addQuestion 4 = .ok (.bipush 12, 2) := by decide +kernel
theorem dX0_addQuestion_6 : decode cX0_addQuestion 6 = .ok (.if_icmp .ge 31, 3) := by decide +kernel
theorem dX0_addQuestion_9 : decode cX0_addQuestion 9 = .ok (.aload_n 0, 1) := by decide +kernel
theorem dX0_addQuestion_10 : decode cX0_addQuestion 10 = .ok (.getfield 32, 3) := by decide +kernel
theorem dX0_addQuestion_13 : decode cX0_addQuestion 13 = .ok (.aload_n 0, 1) := by decide +kernel
theorem dX0_addQuestion_14 : decode cX0_addQuestion 14 = .ok (.getfield 57, 3) := by decide +kernel
theorem dX0_addQuestion_17 : decode cX0_addQuestion 17 = .ok (.iload_n 1, 1) := by decide +kernel
theorem dX0_addQuestion_18 : decode cX0_addQuestion 18 = .ok (.iastore, 1) := by decide +kernel
theorem dX0_addQuestion_19 : decode cX0_addQuestion 19 = .ok (.aload_n 0, 1) := by decide +kernel
theorem dX0_addQuestion_20 : decode cX0_addQuestion 20 = .ok (.dup, 1) := by decide +kernel
theorem dX0_addQuestion_21 : decode cX0_addQuestion 21 = .ok (.getfield 57, 3) := by decide +kernel
theorem dX0_addQuestion_24 : decode cX0_addQuestion 24 = .ok (.iconst 1, 1) := by decide +kernel
theorem dX0_addQuestion_25 : decode cX0_addQuestion 25 = .ok (.iadd, 1) := by decide +kernel
theorem dX0_addQuestion_26 : decode cX0_addQuestion 26 = .ok (.putfield 57, 3) := by decide +kernel
theorem dX0_addQuestion_29 : decode cX0_addQuestion 29 = .ok (.aload_n 0, 1) := by decide +kernel
theorem dX0_addQuestion_30 : decode cX0_addQuestion 30 = .ok (.iconst 2, 1) := by decide +kernel
theorem dX0_addQuestion_31 : decode cX0_addQuestion 31 = .ok (.iload_n 1, 1) := by decide +kernel
theorem dX0_addQuestion_32 : decode cX0_addQuestion 32 = .ok (.iconst 0, 1) := by decide +kernel
theorem dX0_addQuestion_33 : decode cX0_addQuestion 33 = .ok (.invokevirtual 70, 3) := by decide +kernel
theorem dX0_addQuestion_36 : decode cX0_addQuestion 36 = .ok (.pop, 1) := by decide +kernel
theorem dX0_addQuestion_37 : decode cX0_addQuestion 37 = .ok (.return_, 1) := by decide +kernel
set_option maxRecDepth 20000 in
theorem ggX0_addOrder_X0_addStatement : GoodIn wsX0_addOrder wsX0_addStatement := goodIn_r _ [7, 8, 9, 18, 19, 20, 21, 22, 23, 24, 25, 26, 27, 28, 29, 30, 31, 32] (by decide +kernel) (by decide +kernel)
set_option maxRecDepth 20000 in
theorem gX0_addOrder_X0_addStatement : GoodIn wsX0_addOrder (wsV RX0 70 RX0 yX0_addStatement wsX0_addStatement) := goodIn_app (goodIn_of _ (by decide +kernel)) ggX0_addOrder_X0_addStatement
set_option maxRecDepth 20000 in
theorem ggX0_addOrder_X0_rolesAbove : GoodIn wsX0_addOrder wsX0_rolesAbove := goodIn_r _ [13, 2, 18, 19, 20, 21, 22, 23, 24, 25, 26, 27, 28, 29, 30, 31, 32] (by decide +kernel) (by decide +kernel)
set_option maxRecDepth 20000 in
theorem gX0_addOrder_X0_rolesAbove : GoodIn wsX0_addOrder (wsV RX0 74 RX0 yX0_rolesAbove wsX0_rolesAbove) := goodIn_app (goodIn_of _ (by decide +kernel)) ggX0_addOrder_X0_rolesAbove
set_option maxRecDepth 20000 in
theorem ggX0_addOrder_X0_isRoleUnder : GoodIn wsX0_addOrder wsX0_isRoleUnder := goodIn_r _ [17, 10, 11, 12, 6, 13, 2, 18, 19, 20, 21, 22, 23, 24, 25, 26, 27, 28, 29, 30, 31, 32] (by decide +kernel) (by decide +kernel)
set_option maxRecDepth 20000 in
theorem gX0_addOrder_X0_isRoleUnder : GoodIn wsX0_addOrder (wsV RX0 78 RX0 yX0_isRoleUnder wsX0_isRoleUnder) := goodIn_app (goodIn_of _ (by decide +kernel)) ggX0_addOrder_X0_isRoleUnder
theorem dX0_addOrder_0 : decode cX0_addOrder 0 = .ok (.aload_n 0, 1) := by decide +kernel
theorem dX0_addOrder_1 : decode cX0_addOrder 1 = .ok (.iconst 3, 1) := by decide +kernel
theorem dX0_addOrder_2 : decode cX0_addOrder 2 = .ok (.iload_n 1, 1) := by decide +kernel
theorem dX0_addOrder_3 : decode cX0_addOrder 3 = .ok (.iload_n 2, 1) := by decide +kernel
theorem dX0_addOrder_4 : decode cX0_addOrder 4 = .ok (.invokevirtual 70, 3) := by decide +kernel
theorem dX0_addOrder_7 : decode cX0_addOrder 7 = .ok (.pop, 1) := by decide +kernel
theorem dX0_addOrder_8 : decode cX0_addOrder 8 = .ok (.aload_n 0, 1) := by decide +kernel
theorem dX0_addOrder_9 : decode cX0_addOrder 9 = .ok (.dup, 1) := by decide +kernel
theorem dX0_addOrder_10 : decode cX0_addOrder 10 = .ok (.getfield 63, 3) := by decide +kernel
theorem dX0_addOrder_13 : decode cX0_addOrder 13 = .ok (.iconst 1, 1) := by decide +kernel
theorem dX0_addOrder_14 : decode cX0_addOrder 14 = .ok (.iload_n 1, 1) := by decide +kernel
theorem dX0_addOrder_15 : decode cX0_addOrder 15 = .ok (.ishl, 1) := by decide +kernel
theorem dX0_addOrder_16 : decode cX0_addOrder 16 = .ok (.iconst 1, 1) := by decide +kernel
theorem dX0_addOrder_17 : decode cX0_addOrder 17 = .ok (.iload_n 2, 1) := by decide +kernel
theorem dX0_addOrder_18 : decode cX0_addOrder 18 = .ok (.ishl, 1) := by decide +kernel
theorem dX0_addOrder_19 : decode cX0_addOrder 19 = .ok (.ior, 1) := by decide +kernel
theorem dX0_addOrder_20 : decode cX0_addOrder 20 = .ok (.ior, 1) := by decide +kernel
theorem dX0_addOrder_21 : decode cX0_addOrder 21 = .ok (.putfield 63, 3) := by decide +kernel
theorem dX0_addOrder_24 : decode cX0_addOrder 24 = .ok (.iconst 1, 1) := by decide +kernel
theorem dX0_addOrder_25 : decode cX0_addOrder 25 = .ok (.iload_n 2, 1) := by decide +kernel
theorem dX0_addOrder_26 : decode cX0_addOrder 26 = .ok (.ishl, 1) := by decide +kernel
theorem dX0_addOrder_27 : decode cX0_addOrder 27 = .ok (.aload_n 0, 1) := by decide +kernel
theorem dX0_addOrder_28 : decode cX0_addOrder 28 = .ok (.iload_n 2, 1) := by decide +kernel
theorem dX0_addOrder_29 : decode cX0_addOrder 29 = .ok (.invokevirtual 74, 3) := by decide +kernel
theorem dX0_addOrder_32 : decode cX0_addOrder 32 = .ok (.ior, 1) := by decide +kernel
theorem dX0_addOrder_33 : decode cX0_addOrder 33 = .ok (.istore_n 3, 1) := by decide +kernel
theorem dX0_addOrder_34 : decode cX0_addOrder 34 = .ok (.iconst 0, 1) := by decide +kernel
theorem dX0_addOrder_35 : decode cX0_addOrder 35 = .ok (.istore 4, 2) := by decide +kernel
theorem dX0_addOrder_37 : decode cX0_addOrder 37 = .ok (.iload 4, 2) := by decide +kernel
theorem dX0_addOrder_39 : decode cX0_addOrder 39 = .ok (.iconst 3, 1) := by decide +kernel
theorem dX0_addOrder_40 : decode cX0_addOrder 40 = .ok (.if_icmp .ge 36, 3) := by decide +kernel
theorem dX0_addOrder_43 : decode cX0_addOrder 43 = .ok (.iload 4, 2) := by decide +kernel
theorem dX0_addOrder_45 : decode cX0_addOrder 45 = .ok (.iload_n 1, 1) := by decide +kernel
theorem dX0_addOrder_46 : decode cX0_addOrder 46 = .ok (.if_icmp .eq 13, 3) := by decide +kernel
theorem dX0_addOrder_49 : decode cX0_addOrder 49 = .ok (.aload_n 0, 1) := by decide +kernel
theorem dX0_addOrder_50 : decode cX0_addOrder 50 = .ok (.iload 4, 2) := by decide +kernel
theorem dX0_addOrder_52 : decode cX0_addOrder 52 = .ok (.iload_n 1, 1) := by decide +kernel
theorem dX0_addOrder_53 : decode cX0_addOrder 53 = .ok (.invokevirtual 78, 3) := by decide +kernel
theorem dX0_addOrder_56 : decode cX0_addOrder 56 = .ok (.ifCond .eq 14, 3) := by decide +kernel
theorem dX0_addOrder_59 : decode cX0_addOrder 59 = .ok (.aload_n 0, 1) := by decide +kernel
theorem dX0_addOrder_60 : decode cX0_addOrder 60 = .ok (.getfield 35, 3) := by decide +kernel
theorem dX0_addOrder_63 : decode cX0_addOrder 63 = .ok (.iload 4, 2) := by decide +kernel
theorem dX0_addOrder_65 : decode cX0_addOrder 65 = .ok (.dup2, 1) := by decide +kernel
theorem dX0_addOrder_66 : decode cX0_addOrder 66 = .ok (.iaload, 1) := by decide +kernel
theorem dX0_addOrder_67 : decode cX0_addOrder 67 = .ok (.iload_n 3, 1) := by decide +kernel
theorem dX0_addOrder_68 : decode cX0_addOrder 68 = .ok (.ior, 1) := by decide +kernel
theorem dX0_addOrder_69 : decode cX0_addOrder 69 = .ok (.iastore, 1) := by decide +kernel
theorem dX0_addOrder_70 : decode cX0_addOrder 70 = .ok (.iinc 4 1, 3) := by decide +kernel
theorem dX0_addOrder_73 : decode cX0_addOrder 73 = .ok (.goto (-36), 3) := by decide +kernel
theorem dX0_addOrder_76 : decode cX0_addOrder 76 = .ok (.return_, 1) := by decide +kernel
set_option maxRecDepth 20000 in
theorem ggX0_addSingle_X0_addStatement : GoodIn wsX0_addSingle wsX0_addStatement := goodIn_r _ [6, 7, 8, 9, 10, 11, 12, 13, 14, 15, 16, 17, 18, 19, 20, 21, 22, 23] (by decide +kernel) (by decide +kernel)
set_option maxRecDepth 20000 in
theorem gX0_addSingle_X0_addStatement : GoodIn wsX0_addSingle (wsV RX0 70 RX0 yX0_addStatement wsX0_addStatement) := goodIn_app (goodIn_of _ (by decide +kernel)) ggX0_addSingle_X0_addStatement
theorem dX0_addSingle_0 : decode cX0_addSingle 0 = .ok (.aload_n 0, 1) := by decide +kernel
theorem dX0_addSingle_1 : decode cX0_addSingle 1 = .ok (.iconst 4, 1) := by decide +kernel
theorem dX0_addSingle_2 : decode cX0_addSingle 2 = .ok (.iload_n 1, 1) := by decide +kernel
theorem dX0_addSingle_3 : decode cX0_addSingle 3 = .ok (.iconst 0, 1) := by decide +kernel
theorem dX0_addSingle_4 : decode cX0_addSingle 4 = .ok (.invokevirtual 70, 3) := by decide +kernel
theorem dX0_addSingle_7 : decode cX0_addSingle 7 = .ok (.pop, 1) := by decide +kernel
theorem dX0_addSingle_8 : decode cX0_addSingle 8 = .ok (.aload_n 0, 1) := by decide +kernel
theorem dX0_addSingle_9 : decode cX0_addSingle 9 = .ok (.dup, 1) := by decide +kernel
theorem dX0_addSingle_10 : decode cX0_addSingle 10 = .ok (.getfield 60, 3) := by decide +kernel
theorem dX0_addSingle_13 : decode cX0_addSingle 13 = .ok (.iconst 1, 1) := by decide +kernel
theorem dX0_addSingle_14 : decode cX0_addSingle 14 = .ok (.iload_n 1, 1) := by decide +kernel
theorem dX0_addSingle_15 : decode cX0_addSingle 15 = .ok (.ishl, 1) := by decide +kernel
theorem dX0_addSingle_16 : decode cX0_addSingle 16 = .ok (.ior, 1) := by decide +kernel
theorem dX0_addSingle_17 : decode cX0_addSingle 17 = .ok (.putfield 60, 3) := by decide +kernel
theorem dX0_addSingle_20 : decode cX0_addSingle 20 = .ok (.return_, 1) := by decide +kernel
theorem dX0_addStatement_0 : decode cX0_addStatement 0 = .ok (.iload_n 1, 1) := by decide +kernel
theorem dX0_addStatement_1 : decode cX0_addStatement 1 = .ok (.iload_n 2, 1) := by decide +kernel
theorem dX0_addStatement_2 : decode cX0_addStatement 2 = .ok (.bipush 8, 2) := by decide +kernel
theorem dX0_addStatement_4 : decode cX0_addStatement 4 = .ok (.ishl, 1) := by decide +kernel
theorem dX0_addStatement_5 : decode cX0_addStatement 5 = .ok (.ior, 1) := by decide +kernel
theorem dX0_addStatement_6 : decode cX0_addStatement 6 = .ok (.iload_n 3, 1) := by decide +kernel
theorem dX0_addStatement_7 : decode cX0_addStatement 7 = .ok (.bipush 16, 2) := by decide +kernel
theorem dX0_addStatement_9 : decode cX0_addStatement 9 = .ok (.ishl, 1) := by decide +kernel
theorem dX0_addStatement_10 : decode cX0_addStatement 10 = .ok (.ior, 1) := by decide +kernel
theorem dX0_addStatement_11 : decode cX0_addStatement 11 = .ok (.istore 4, 2) := by decide +kernel
theorem dX0_addStatement_13 : decode cX0_addStatement 13 = .ok (.aload_n 0, 1) := by decide +kernel
theorem dX0_addStatement_14 : decode cX0_addStatement 14 = .ok (.getfield 51, 3) := by decide +kernel
theorem dX0_addStatement_17 : decode cX0_addStatement 17 = .ok (.sipush 246, 3) := by decide +kernel
theorem dX0_addStatement_20 : decode cX0_addStatement 20 = .ok (.if_icmp .ge 24, 3) := by decide +kernel
theorem dX0_addStatement_23 : decode cX0_addStatement 23 = .ok (.aload_n 0, 1) := by decide +kernel
theorem dX0_addStatement_24 : decode cX0_addStatement 24 = .ok (.getfield 25, 3) := by decide +kernel
theorem dX0_addStatement_27 : decode cX0_addStatement 27 = .ok (.aload_n 0, 1) := by decide +kernel
theorem dX0_addStatement_28 : decode cX0_addStatement 28 = .ok (.getfield 51, 3) := by decide +kernel
theorem dX0_addStatement_31 : decode cX0_addStatement 31 = .ok (.iload 4, 2) := by decide +kernel
theorem dX0_addStatement_33 : decode cX0_addStatement 33 = .ok (.iastore, 1) := by decide +kernel
theorem dX0_addStatement_34 : decode cX0_addStatement 34 = .ok (.aload_n 0, 1) := by decide +kernel
theorem dX0_addStatement_35 : decode cX0_addStatement 35 = .ok (.dup, 1) := by decide +kernel
theorem dX0_addStatement_36 : decode cX0_addStatement 36 = .ok (.getfield 51, 3) := by decide +kernel
theorem dX0_addStatement_39 : decode cX0_addStatement 39 = .ok (.iconst 1, 1) := by decide +kernel
theorem dX0_addStatement_40 : decode cX0_addStatement 40 = .ok (.iadd, 1) := by decide +kernel
theorem dX0_addStatement_41 : decode cX0_addStatement 41 = .ok (.putfield 51, 3) := by decide +kernel
theorem dX0_addStatement_44 : decode cX0_addStatement 44 = .ok (.iload 4, 2) := by decide +kernel
theorem dX0_addStatement_46 : decode cX0_addStatement 46 = .ok (.ireturn, 1) := by decide +kernel
theorem dX0_statement_0 : decode cX0_statement 0 = .ok (.iload_n 1, 1) := by decide +kernel
theorem dX0_statement_1 : decode cX0_statement 1 = .ok (.ifCond .lt 20, 3) := by decide +kernel
theorem dX0_statement_4 : decode cX0_statement 4 = .ok (.iload_n 1, 1) := by decide +kernel
theorem dX0_statement_5 : decode cX0_statement 5 = .ok (.aload_n 0, 1) := by decide +kernel
theorem dX0_statement_6 : decode cX0_statement 6 = .ok (.getfield 51, 3) := by decide +kernel
theorem dX0_statement_9 : decode cX0_statement 9 = .ok (.if_icmp .ge 12, 3) := by decide +kernel
theorem dX0_statement_12 : decode cX0_statement 12 = .ok (.aload_n 0, 1) := by decide +kernel
theorem dX0_statement_13 : decode cX0_statement 13 = .ok (.getfield 25, 3) := by decide +kernel
theorem dX0_statement_16 : decode cX0_statement 16 = .ok (.iload_n 1, 1) := by decide +kernel
theorem dX0_statement_17 : decode cX0_statement 17 = .ok (.iaload, 1) := by decide +kernel
theorem dX0_statement_18 : decode cX0_statement 18 = .ok (.goto 4, 3) := by decide +kernel
theorem dX0_statement_21 : decode cX0_statement 21 = .ok (.iconst (-1), 1) := by decide +kernel
theorem dX0_statement_22 : decode cX0_statement 22 = .ok (.ireturn, 1) := by decide +kernel
theorem dX0_ruleStatement_0 : decode cX0_ruleStatement 0 = .ok (.iload_n 1, 1) := by decide +kernel
theorem dX0_ruleStatement_1 : decode cX0_ruleStatement 1 = .ok (.ifCond .lt 20, 3) := by decide +kernel
theorem dX0_ruleStatement_4 : decode cX0_ruleStatement 4 = .ok (.iload_n 1, 1) := by decide +kernel
theorem dX0_ruleStatement_5 : decode cX0_ruleStatement 5 = .ok (.aload_n 0, 1) := by decide +kernel
theorem dX0_ruleStatement_6 : decode cX0_ruleStatement 6 = .ok (.getfield 54, 3) := by decide +kernel
theorem dX0_ruleStatement_9 : decode cX0_ruleStatement 9 = .ok (.if_icmp .ge 12, 3) := by decide +kernel
theorem dX0_ruleStatement_12 : decode cX0_ruleStatement 12 = .ok (.aload_n 0, 1) := by decide +kernel
theorem dX0_ruleStatement_13 : decode cX0_ruleStatement 13 = .ok (.getfield 29, 3) := by decide +kernel
theorem dX0_ruleStatement_16 : decode cX0_ruleStatement 16 = .ok (.iload_n 1, 1) := by decide +kernel
theorem dX0_ruleStatement_17 : decode cX0_ruleStatement 17 = .ok (.iaload, 1) := by decide +kernel
theorem dX0_ruleStatement_18 : decode cX0_ruleStatement 18 = .ok (.goto 4, 3) := by decide +kernel
theorem dX0_ruleStatement_21 : decode cX0_ruleStatement 21 = .ok (.iconst (-1), 1) := by decide +kernel
theorem dX0_ruleStatement_22 : decode cX0_ruleStatement 22 = .ok (.ireturn, 1) := by decide +kernel
theorem dX0_sortOf_0 : decode cX0_sortOf 0 = .ok (.iload_n 0, 1) := by decide +kernel
theorem dX0_sortOf_1 : decode cX0_sortOf 1 = .ok (.sipush 255, 3) := by decide +kernel
theorem dX0_sortOf_4 : decode cX0_sortOf 4 = .ok (.iand, 1) := by decide +kernel
theorem dX0_sortOf_5 : decode cX0_sortOf 5 = .ok (.ireturn, 1) := by decide +kernel
theorem dX0_leftOf_0 : decode cX0_leftOf 0 = .ok (.iload_n 0, 1) := by decide +kernel
theorem dX0_leftOf_1 : decode cX0_leftOf 1 = .ok (.bipush 8, 2) := by decide +kernel
theorem dX0_leftOf_3 : decode cX0_leftOf 3 = .ok (.ishr, 1) := by decide +kernel
theorem dX0_leftOf_4 : decode cX0_leftOf 4 = .ok (.sipush 255, 3) := by decide +kernel
theorem dX0_leftOf_7 : decode cX0_leftOf 7 = .ok (.iand, 1) := by decide +kernel
theorem dX0_leftOf_8 : decode cX0_leftOf 8 = .ok (.ireturn, 1) := by decide +kernel
theorem dX0_rightOf_0 : decode cX0_rightOf 0 = .ok (.iload_n 0, 1) := by decide +kernel
theorem dX0_rightOf_1 : decode cX0_rightOf 1 = .ok (.bipush 16, 2) := by decide +kernel
theorem dX0_rightOf_3 : decode cX0_rightOf 3 = .ok (.ishr, 1) := by decide +kernel
theorem dX0_rightOf_4 : decode cX0_rightOf 4 = .ok (.sipush 255, 3) := by decide +kernel
theorem dX0_rightOf_7 : decode cX0_rightOf 7 = .ok (.iand, 1) := by decide +kernel
theorem dX0_rightOf_8 : decode cX0_rightOf 8 = .ok (.ireturn, 1) := by decide +kernel
theorem dX0_question_0 : decode cX0_question 0 = .ok (.iload_n 1, 1) := by decide +kernel
theorem dX0_question_1 : decode cX0_question 1 = .ok (.ifCond .lt 20, 3) := by decide +kernel
theorem dX0_question_4 : decode cX0_question 4 = .ok (.iload_n 1, 1) := by decide +kernel
theorem dX0_question_5 : decode cX0_question 5 = .ok (.aload_n 0, 1) := by decide +kernel
theorem dX0_question_6 : decode cX0_question 6 = .ok (.getfield 57, 3) := by decide +kernel
theorem dX0_question_9 : decode cX0_question 9 = .ok (.if_icmp .ge 12, 3) := by decide +kernel
theorem dX0_question_12 : decode cX0_question 12 = .ok (.aload_n 0, 1) := by decide +kernel
theorem dX0_question_13 : decode cX0_question 13 = .ok (.getfield 32, 3) := by decide +kernel
theorem dX0_question_16 : decode cX0_question 16 = .ok (.iload_n 1, 1) := by decide +kernel
theorem dX0_question_17 : decode cX0_question 17 = .ok (.iaload, 1) := by decide +kernel
theorem dX0_question_18 : decode cX0_question 18 = .ok (.goto 4, 3) := by decide +kernel
theorem dX0_question_21 : decode cX0_question 21 = .ok (.iconst (-1), 1) := by decide +kernel
theorem dX0_question_22 : decode cX0_question 22 = .ok (.ireturn, 1) := by decide +kernel
theorem dX0_nameWord_0 : decode cX0_nameWord 0 = .ok (.iload_n 1, 1) := by decide +kernel
theorem dX0_nameWord_1 : decode cX0_nameWord 1 = .ok (.ifCond .lt 20, 3) := by decide +kernel
theorem dX0_nameWord_4 : decode cX0_nameWord 4 = .ok (.iload_n 1, 1) := by decide +kernel
theorem dX0_nameWord_5 : decode cX0_nameWord 5 = .ok (.aload_n 0, 1) := by decide +kernel
theorem dX0_nameWord_6 : decode cX0_nameWord 6 = .ok (.getfield 45, 3) := by decide +kernel
theorem dX0_nameWord_9 : decode cX0_nameWord 9 = .ok (.if_icmp .ge 12, 3) := by decide +kernel
theorem dX0_nameWord_12 : decode cX0_nameWord 12 = .ok (.aload_n 0, 1) := by decide +kernel
theorem dX0_nameWord_13 : decode cX0_nameWord 13 = .ok (.getfield 18, 3) := by decide +kernel
theorem dX0_nameWord_16 : decode cX0_nameWord 16 = .ok (.iload_n 1, 1) := by decide +kernel
theorem dX0_nameWord_17 : decode cX0_nameWord 17 = .ok (.laload, 1) := by decide +kernel
theorem dX0_nameWord_18 : decode cX0_nameWord 18 = .ok (.goto 4, 3) := by decide +kernel
theorem dX0_nameWord_21 : decode cX0_nameWord 21 = .ok (.lconst 0, 1) := by decide +kernel
theorem dX0_nameWord_22 : decode cX0_nameWord 22 = .ok (.lreturn, 1) := by decide +kernel
theorem dX0_roleWord_0 : decode cX0_roleWord 0 = .ok (.iload_n 1, 1) := by decide +kernel
theorem dX0_roleWord_1 : decode cX0_roleWord 1 = .ok (.ifCond .lt 20, 3) := by decide +kernel
theorem dX0_roleWord_4 : decode cX0_roleWord 4 = .ok (.iload_n 1, 1) := by decide +kernel
theorem dX0_roleWord_5 : decode cX0_roleWord 5 = .ok (.aload_n 0, 1) := by decide +kernel
theorem dX0_roleWord_6 : decode cX0_roleWord 6 = .ok (.getfield 48, 3) := by decide +kernel
theorem dX0_roleWord_9 : decode cX0_roleWord 9 = .ok (.if_icmp .ge 12, 3) := by decide +kernel
theorem dX0_roleWord_12 : decode cX0_roleWord 12 = .ok (.aload_n 0, 1) := by decide +kernel
theorem dX0_roleWord_13 : decode cX0_roleWord 13 = .ok (.getfield 22, 3) := by decide +kernel
theorem dX0_roleWord_16 : decode cX0_roleWord 16 = .ok (.iload_n 1, 1) := by decide +kernel
theorem dX0_roleWord_17 : decode cX0_roleWord 17 = .ok (.laload, 1) := by decide +kernel
theorem dX0_roleWord_18 : decode cX0_roleWord 18 = .ok (.goto 4, 3) := by decide +kernel
theorem dX0_roleWord_21 : decode cX0_roleWord 21 = .ok (.lconst 0, 1) := by decide +kernel
theorem dX0_roleWord_22 : decode cX0_roleWord 22 = .ok (.lreturn, 1) := by decide +kernel
theorem dX0_rolesAbove_0 : decode cX0_rolesAbove 0 = .ok (.iload_n 1, 1) := by decide +kernel
theorem dX0_rolesAbove_1 : decode cX0_rolesAbove 1 = .ok (.ifCond .lt 17, 3) := by decide +kernel
theorem dX0_rolesAbove_4 : decode cX0_rolesAbove 4 = .ok (.iload_n 1, 1) := by decide +kernel
theorem dX0_rolesAbove_5 : decode cX0_rolesAbove 5 = .ok (.iconst 3, 1) := by decide +kernel
theorem dX0_rolesAbove_6 : decode cX0_rolesAbove 6 = .ok (.if_icmp .ge 12, 3) := by decide +kernel
theorem dX0_rolesAbove_9 : decode cX0_rolesAbove 9 = .ok (.aload_n 0, 1) := by decide +kernel
theorem dX0_rolesAbove_10 : decode cX0_rolesAbove 10 = .ok (.getfield 35, 3) := by decide +kernel
theorem dX0_rolesAbove_13 : decode cX0_rolesAbove 13 = .ok (.iload_n 1, 1) := by decide +kernel
theorem dX0_rolesAbove_14 : decode cX0_rolesAbove 14 = .ok (.iaload, 1) := by decide +kernel
theorem dX0_rolesAbove_15 : decode cX0_rolesAbove 15 = .ok (.goto 4, 3) := by decide +kernel
theorem dX0_rolesAbove_18 : decode cX0_rolesAbove 18 = .ok (.iconst 0, 1) := by decide +kernel
theorem dX0_rolesAbove_19 : decode cX0_rolesAbove 19 = .ok (.ireturn, 1) := by decide +kernel
set_option maxRecDepth 20000 in
theorem ggX0_isRoleUnder_X0_rolesAbove : GoodIn wsX0_isRoleUnder wsX0_rolesAbove := goodIn_r _ [5, 6, 7, 8, 9, 10, 11, 12, 13, 14, 15, 16, 17, 18, 19, 20, 21] (by decide +kernel) (by decide +kernel)
set_option maxRecDepth 20000 in
theorem gX0_isRoleUnder_X0_rolesAbove : GoodIn wsX0_isRoleUnder (wsV RX0 74 RX0 yX0_rolesAbove wsX0_rolesAbove) := goodIn_app (goodIn_of _ (by decide +kernel)) ggX0_isRoleUnder_X0_rolesAbove
theorem dX0_isRoleUnder_0 : decode cX0_isRoleUnder 0 = .ok (.aload_n 0, 1) := by decide +kernel
theorem dX0_isRoleUnder_1 : decode cX0_isRoleUnder 1 = .ok (.iload_n 1, 1) := by decide +kernel
theorem dX0_isRoleUnder_2 : decode cX0_isRoleUnder 2 = .ok (.invokevirtual 74, 3) := by decide +kernel
theorem dX0_isRoleUnder_5 : decode cX0_isRoleUnder 5 = .ok (.iload_n 2, 1) := by decide +kernel
theorem dX0_isRoleUnder_6 : decode cX0_isRoleUnder 6 = .ok (.ishr, 1) := by decide +kernel
theorem dX0_isRoleUnder_7 : decode cX0_isRoleUnder 7 = .ok (.iconst 1, 1) := by decide +kernel
theorem dX0_isRoleUnder_8 : decode cX0_isRoleUnder 8 = .ok (.iand, 1) := by decide +kernel
theorem dX0_isRoleUnder_9 : decode cX0_isRoleUnder 9 = .ok (.iconst 1, 1) := by decide +kernel
theorem dX0_isRoleUnder_10 : decode cX0_isRoleUnder 10 = .ok (.if_icmp .ne 7, 3) := by decide +kernel
theorem dX0_isRoleUnder_13 : decode cX0_isRoleUnder 13 = .ok (.iconst 1, 1) := by decide +kernel
theorem dX0_isRoleUnder_14 : decode cX0_isRoleUnder 14 = .ok (.goto 4, 3) := by decide +kernel
theorem dX0_isRoleUnder_17 : decode cX0_isRoleUnder 17 = .ok (.iconst 0, 1) := by decide +kernel
theorem dX0_isRoleUnder_18 : decode cX0_isRoleUnder 18 = .ok (.ireturn, 1) := by decide +kernel
theorem dX0_isSingle_0 : decode cX0_isSingle 0 = .ok (.aload_n 0, 1) := by decide +kernel
theorem dX0_isSingle_1 : decode cX0_isSingle 1 = .ok (.getfield 60, 3) := by decide +kernel
theorem dX0_isSingle_4 : decode cX0_isSingle 4 = .ok (.iload_n 1, 1) := by decide +kernel
theorem dX0_isSingle_5 : decode cX0_isSingle 5 = .ok (.ishr, 1) := by decide +kernel
theorem dX0_isSingle_6 : decode cX0_isSingle 6 = .ok (.iconst 1, 1) := by decide +kernel
theorem dX0_isSingle_7 : decode cX0_isSingle 7 = .ok (.iand, 1) := by decide +kernel
theorem dX0_isSingle_8 : decode cX0_isSingle 8 = .ok (.iconst 1, 1) := by decide +kernel
theorem dX0_isSingle_9 : decode cX0_isSingle 9 = .ok (.if_icmp .ne 7, 3) := by decide +kernel
theorem dX0_isSingle_12 : decode cX0_isSingle 12 = .ok (.iconst 1, 1) := by decide +kernel
theorem dX0_isSingle_13 : decode cX0_isSingle 13 = .ok (.goto 4, 3) := by decide +kernel
theorem dX0_isSingle_16 : decode cX0_isSingle 16 = .ok (.iconst 0, 1) := by decide +kernel
theorem dX0_isSingle_17 : decode cX0_isSingle 17 = .ok (.ireturn, 1) := by decide +kernel
theorem dX0_isOrdered_0 : decode cX0_isOrdered 0 = .ok (.aload_n 0, 1) := by decide +kernel
theorem dX0_isOrdered_1 : decode cX0_isOrdered 1 = .ok (.getfield 63, 3) := by decide +kernel
theorem dX0_isOrdered_4 : decode cX0_isOrdered 4 = .ok (.iload_n 1, 1) := by decide +kernel
theorem dX0_isOrdered_5 : decode cX0_isOrdered 5 = .ok (.ishr, 1) := by decide +kernel
theorem dX0_isOrdered_6 : decode cX0_isOrdered 6 = .ok (.iconst 1, 1) := by decide +kernel
theorem dX0_isOrdered_7 : decode cX0_isOrdered 7 = .ok (.iand, 1) := by decide +kernel
theorem dX0_isOrdered_8 : decode cX0_isOrdered 8 = .ok (.iconst 1, 1) := by decide +kernel
theorem dX0_isOrdered_9 : decode cX0_isOrdered 9 = .ok (.if_icmp .ne 7, 3) := by decide +kernel
theorem dX0_isOrdered_12 : decode cX0_isOrdered 12 = .ok (.iconst 1, 1) := by decide +kernel
theorem dX0_isOrdered_13 : decode cX0_isOrdered 13 = .ok (.goto 4, 3) := by decide +kernel
theorem dX0_isOrdered_16 : decode cX0_isOrdered 16 = .ok (.iconst 0, 1) := by decide +kernel
theorem dX0_isOrdered_17 : decode cX0_isOrdered 17 = .ok (.ireturn, 1) := by decide +kernel
theorem dX1_init_0 : decode cX1_init 0 = .ok (.aload_n 0, 1) := by decide +kernel
theorem dX1_init_1 : decode cX1_init 1 = .ok (.invokespecial 3, 3) := by decide +kernel
theorem dX1_init_4 : decode cX1_init 4 = .ok (.aload_n 0, 1) := by decide +kernel
theorem dX1_init_5 : decode cX1_init 5 = .ok (.sipush 200, 3) := by decide +kernel
theorem dX1_init_8 : decode cX1_init 8 = .ok (.newarray .int, 2) := by decide +kernel
theorem dX1_init_10 : decode cX1_init 10 = .ok (.putfield 9, 3) := by decide +kernel
theorem dX1_init_13 : decode cX1_init 13 = .ok (.aload_n 0, 1) := by decide +kernel
theorem dX1_init_14 : decode cX1_init 14 = .ok (.sipush 200, 3) := by decide +kernel
theorem dX1_init_17 : decode cX1_init 17 = .ok (.newarray .int, 2) := by decide +kernel
theorem dX1_init_19 : decode cX1_init 19 = .ok (.putfield 15, 3) := by decide +kernel
theorem dX1_init_22 : decode cX1_init 22 = .ok (.aload_n 0, 1) := by decide +kernel
theorem dX1_init_23 : decode cX1_init 23 = .ok (.sipush 200, 3) := by decide +kernel
theorem dX1_init_26 : decode cX1_init 26 = .ok (.newarray .int, 2) := by decide +kernel
theorem dX1_init_28 : decode cX1_init 28 = .ok (.putfield 18, 3) := by decide +kernel
theorem dX1_init_31 : decode cX1_init 31 = .ok (.aload_n 0, 1) := by decide +kernel
theorem dX1_init_32 : decode cX1_init 32 = .ok (.sipush 200, 3) := by decide +kernel
theorem dX1_init_35 : decode cX1_init 35 = .ok (.newarray .int, 2) := by decide +kernel
theorem dX1_init_37 : decode cX1_init 37 = .ok (.putfield 21, 3) := by decide +kernel
theorem dX1_init_40 : decode cX1_init 40 = .ok (.aload_n 0, 1) := by decide +kernel
theorem dX1_init_41 : decode cX1_init 41 = .ok (.bipush 9, 2) := by decide +kernel
theorem dX1_init_43 : decode cX1_init 43 = .ok (.newarray .int, 2) := by decide +kernel
theorem dX1_init_45 : decode cX1_init 45 = .ok (.putfield 24, 3) := by decide +kernel
theorem dX1_init_48 : decode cX1_init 48 = .ok (.aload_n 0, 1) := by decide +kernel
theorem dX1_init_49 : decode cX1_init 49 = .ok (.bipush 9, 2) := by decide +kernel
theorem dX1_init_51 : decode cX1_init 51 = .ok (.newarray .int, 2) := by decide +kernel
theorem dX1_init_53 : decode cX1_init 53 = .ok (.putfield 27, 3) := by decide +kernel
theorem dX1_init_56 : decode cX1_init 56 = .ok (.aload_n 0, 1) := by decide +kernel
theorem dX1_init_57 : decode cX1_init 57 = .ok (.bipush 9, 2) := by decide +kernel
theorem dX1_init_59 : decode cX1_init 59 = .ok (.newarray .int, 2) := by decide +kernel
theorem dX1_init_61 : decode cX1_init 61 = .ok (.putfield 30, 3) := by decide +kernel
theorem dX1_init_64 : decode cX1_init 64 = .ok (.aload_n 0, 1) := by decide +kernel
theorem dX1_init_65 : decode cX1_init 65 = .ok (.bipush 9, 2) := by decide +kernel
theorem dX1_init_67 : decode cX1_init 67 = .ok (.newarray .int, 2) := by decide +kernel
theorem dX1_init_69 : decode cX1_init 69 = .ok (.putfield 33, 3) := by decide +kernel
theorem dX1_init_72 : decode cX1_init 72 = .ok (.return_, 1) := by decide +kernel
theorem dX1_clear_0 : decode cX1_clear 0 = .ok (.aload_n 0, 1) := by decide +kernel
theorem dX1_clear_1 : decode cX1_clear 1 = .ok (.iconst 0, 1) := by decide +kernel
theorem dX1_clear_2 : decode cX1_clear 2 = .ok (.putfield 36, 3) := by decide +kernel
theorem dX1_clear_5 : decode cX1_clear 5 = .ok (.aload_n 0, 1) := by decide +kernel
theorem dX1_clear_6 : decode cX1_clear 6 = .ok (.iconst 0, 1) := by decide +kernel
theorem dX1_clear_7 : decode cX1_clear 7 = .ok (.putfield 40, 3) := by decide +kernel
theorem dX1_clear_10 : decode cX1_clear 10 = .ok (.return_, 1) := by decide +kernel
set_option maxRecDepth 20000 in
theorem ggX1_make_X1_find : GoodIn wsX1_make wsX1_find := goodIn_r _ [10, 1, 2, 3, 4, 32, 33, 34, 35, 36, 37, 38, 39, 40, 41] (by decide +kernel) (by decide +kernel)
set_option maxRecDepth 20000 in
theorem gX1_make_X1_find : GoodIn wsX1_make (wsV RX1 43 RX1 yX1_find wsX1_find) := goodIn_app (goodIn_of _ (by decide +kernel)) ggX1_make_X1_find
set_option maxRecDepth 20000 in
theorem ggX1_make_X1_atomFor : GoodIn wsX1_make wsX1_atomFor := goodIn_r _ [14, 15, 16, 17, 18, 19, 32, 33, 34, 35, 36, 37, 38, 39, 40, 41] (by decide +kernel) (by decide +kernel)
set_option maxRecDepth 20000 in
theorem gX1_make_X1_atomFor : GoodIn wsX1_make (wsV RX1 47 RX1 yX1_atomFor wsX1_atomFor) := goodIn_app (goodIn_of _ (by decide +kernel)) ggX1_make_X1_atomFor
set_option maxRecDepth 20000 in
theorem ggX1_make_X1_atomOfRole : GoodIn wsX1_make wsX1_atomOfRole := goodIn_r _ [23, 24, 25, 26, 9, 27, 1, 2, 28, 29, 30, 31, 3, 11, 12, 13, 14, 15, 16, 17, 18, 19, 32, 33, 34, 35, 36, 37, 38, 39, 40, 41] (by decide +kernel) (by decide +kernel)
set_option maxRecDepth 20000 in
theorem gX1_make_X1_atomOfRole : GoodIn wsX1_make (wsV RX1 51 RX1 yX1_atomOfRole wsX1_atomOfRole) := goodIn_app (goodIn_of _ (by decide +kernel)) ggX1_make_X1_atomOfRole
set_option maxRecDepth 20000 in
theorem ggX1_make_X1_sortOf : GoodIn wsX1_make wsX1_sortOf := goodIn_r _ [27, 1, 2, 32, 33, 34, 35, 36, 37, 38, 39, 40, 41] (by decide +kernel) (by decide +kernel)
set_option maxRecDepth 20000 in
theorem gX1_make_X1_sortOf : GoodIn wsX1_make (wsV RX1 54 RX1 yX1_sortOf wsX1_sortOf) := goodIn_app (goodIn_of _ (by decide +kernel)) ggX1_make_X1_sortOf
set_option maxRecDepth 20000 in
theorem ggX1_make_X1_leftOf : GoodIn wsX1_make wsX1_leftOf := goodIn_r _ [31, 1, 3, 32, 33, 34, 35, 36, 37, 38, 39, 40, 41] (by decide +kernel) (by decide +kernel)
set_option maxRecDepth 20000 in
theorem gX1_make_X1_leftOf : GoodIn wsX1_make (wsV RX1 58 RX1 yX1_leftOf wsX1_leftOf) := goodIn_app (goodIn_of _ (by decide +kernel)) ggX1_make_X1_leftOf
theorem dX1_make_0 : decode cX1_make 0 = .ok (.aload_n 0, 1) := by decide +kernel
theorem dX1_make_1 : decode cX1_make 1 = .ok (.iload_n 1, 1) := by decide +kernel
theorem dX1_make_2 : decode cX1_make 2 = .ok (.iload_n 2, 1) := by decide +kernel
theorem dX1_make_3 : decode cX1_make 3 = .ok (.iload_n 3, 1) := by decide +kernel
theorem dX1_make_4 : decode cX1_make 4 = .ok (.invokevirtual 43, 3) := by decide +kernel
theorem dX1_make_7 : decode cX1_make 7 = .ok (.istore 4, 2) := by decide +kernel
theorem dX1_make_9 : decode cX1_make 9 = .ok (.iload 4, 2) := by decide +kernel
theorem dX1_make_11 : decode cX1_make 11 = .ok (.iconst (-1), 1) := by decide +kernel
theorem dX1_make_12 : decode cX1_make 12 = .ok (.if_icmp .ne 13, 3) := by decide +kernel
theorem dX1_make_15 : decode cX1_make 15 = .ok (.aload_n 0, 1) := by decide +kernel
theorem dX1_make_16 : decode cX1_make 16 = .ok (.getfield 36, 3) := by decide +kernel
theorem dX1_make_19 : decode cX1_make 19 = .ok (.sipush 200, 3) := by decide +kernel
theorem dX1_make_22 : decode cX1_make 22 = .ok (.if_icmp .lt 6, 3) := by decide +kernel
theorem dX1_make_25 : decode cX1_make 25 = .ok (.iload 4, 2) := by decide +kernel
theorem dX1_make_27 : decode cX1_make 27 = .ok (.ireturn, 1) := by decide +kernel
theorem dX1_make_28 : decode cX1_make 28 = .ok (.iconst (-1), 1) := by decide +kernel
theorem dX1_make_29 : decode cX1_make 29 = .ok (.istore 5, 2) := by decide +kernel
theorem dX1_make_31 : decode cX1_make 31 = .ok (.iload_n 1, 1) := by decide +kernel
theorem dX1_make_32 : decode cX1_make 32 = .ok (.ifCond .ne 16, 3) := by decide +kernel
theorem dX1_make_35 : decode cX1_make 35 = .ok (.aload_n 0, 1) := by decide +kernel
theorem dX1_make_36 : decode cX1_make 36 = .ok (.iconst (-1), 1) := by decide +kernel
theorem dX1_make_37 : decode cX1_make 37 = .ok (.iload_n 2, 1) := by decide +kernel
theorem dX1_make_38 : decode cX1_make 38 = .ok (.iconst (-1), 1) := by decide +kernel
theorem dX1_make_39 : decode cX1_make 39 = .ok (.iconst 0, 1) := by decide +kernel
theorem dX1_make_40 : decode cX1_make 40 = .ok (.invokevirtual 47, 3) := by decide +kernel
theorem dX1_make_43 : decode cX1_make 43 = .ok (.istore 5, 2) := by decide +kernel
theorem dX1_make_45 : decode cX1_make 45 = .ok (.goto 69, 3) := by decide +kernel
theorem dX1_make_48 : decode cX1_make 48 = .ok (.iload_n 1, 1) := by decide +kernel
theorem dX1_make_49 : decode cX1_make 49 = .ok (.iconst 4, 1) := by decide +kernel
theorem dX1_make_50 : decode cX1_make 50 = .ok (.if_icmp .ne 15, 3) := by decide +kernel
theorem dX1_make_53 : decode cX1_make 53 = .ok (.aload_n 0, 1) := by decide +kernel
theorem dX1_make_54 : decode cX1_make 54 = .ok (.iload_n 3, 1) := by decide +kernel
theorem dX1_make_55 : decode cX1_make 55 = .ok (.iload_n 2, 1) := by decide +kernel
theorem dX1_make_56 : decode cX1_make 56 = .ok (.iconst 0, 1) := by decide +kernel
theorem dX1_make_57 : decode cX1_make 57 = .ok (.invokevirtual 51, 3) := by decide +kernel
theorem dX1_make_60 : decode cX1_make 60 = .ok (.istore 5, 2) := by decide +kernel
theorem dX1_make_62 : decode cX1_make 62 = .ok (.goto 52, 3) := by decide +kernel
theorem dX1_make_65 : decode cX1_make 65 = .ok (.iload_n 1, 1) := by decide +kernel
theorem dX1_make_66 : decode cX1_make 66 = .ok (.iconst 5, 1) := by decide +kernel
theorem dX1_make_67 : decode cX1_make 67 = .ok (.if_icmp .ne 47, 3) := by decide +kernel
theorem dX1_make_70 : decode cX1_make 70 = .ok (.aload_n 0, 1) := by decide +kernel
theorem dX1_make_71 : decode cX1_make 71 = .ok (.iload_n 2, 1) := by decide +kernel
theorem dX1_make_72 : decode cX1_make 72 = .ok (.invokevirtual 54, 3) := by decide +kernel
theorem dX1_make_75 : decode cX1_make 75 = .ok (.iconst 3, 1) := by decide +kernel
theorem dX1_make_76 : decode cX1_make 76 = .ok (.if_icmp .ne 7, 3) := by decide +kernel
theorem dX1_make_79 : decode cX1_make 79 = .ok (.iconst 1, 1) := by decide +kernel
theorem dX1_make_80 : decode cX1_make 80 = .ok (.goto 4, 3) := by decide +kernel
theorem dX1_make_83 : decode cX1_make 83 = .ok (.iconst 0, 1) := by decide +kernel
theorem dX1_make_84 : decode cX1_make 84 = .ok (.istore 6, 2) := by decide +kernel
theorem dX1_make_86 : decode cX1_make 86 = .ok (.iload 6, 2) := by decide +kernel
theorem dX1_make_88 : decode cX1_make 88 = .ok (.ifCond .eq 17, 3) := by decide +kernel
theorem dX1_make_91 : decode cX1_make 91 = .ok (.aload_n 0, 1) := by decide +kernel
theorem dX1_make_92 : decode cX1_make 92 = .ok (.iload_n 3, 1) := by decide +kernel
theorem dX1_make_93 : decode cX1_make 93 = .ok (.aload_n 0, 1) := by decide +kernel
theorem dX1_make_94 : decode cX1_make 94 = .ok (.iload_n 2, 1) := by decide +kernel
theorem dX1_make_95 : decode cX1_make 95 = .ok (.invokevirtual 58, 3) := by decide +kernel
theorem dX1_make_98 : decode cX1_make 98 = .ok (.iconst 0, 1) := by decide +kernel
theorem dX1_make_99 : decode cX1_make 99 = .ok (.invokevirtual 51, 3) := by decide +kernel
theorem dX1_make_102 : decode cX1_make 102 = .ok (.goto 10, 3) := by decide +kernel
theorem dX1_make_105 : decode cX1_make 105 = .ok (.aload_n 0, 1) := by decide +kernel
theorem dX1_make_106 : decode cX1_make 106 = .ok (.iload_n 3, 1) := by decide +kernel
theorem dX1_make_107 : decode cX1_make 107 = .ok (.iload_n 2, 1) := by decide +kernel
theorem dX1_make_108 : decode cX1_make 108 = .ok (.iconst 1, 1) := by decide +kernel
theorem dX1_make_109 : decode cX1_make 109 = .ok (.invokevirtual 51, 3) := by decide +kernel
theorem dX1_make_112 : decode cX1_make 112 = .ok (.istore 5, 2) := by decide +kernel
theorem dX1_make_114 : decode cX1_make 114 = .ok (.iload 5, 2) := by decide +kernel
theorem dX1_make_116 : decode cX1_make 116 = .ok (.iconst (-1), 1) := by decide +kernel
theorem dX1_make_117 : decode cX1_make 117 = .ok (.if_icmp .ne 19, 3) := by decide +kernel
theorem dX1_make_120 : decode cX1_make 120 = .ok (.iload_n 1, 1) := by decide +kernel
theorem dX1_make_121 : decode cX1_make 121 = .ok (.ifCond .eq 13, 3) := by decide +kernel
theorem dX1_make_124 : decode cX1_make 124 = .ok (.iload_n 1, 1) := by decide +kernel
theorem dX1_make_125 : decode cX1_make 125 = .ok (.iconst 4, 1) := by decide +kernel
theorem dX1_make_126 : decode cX1_make 126 = .ok (.if_icmp .eq 8, 3) := by decide +kernel
theorem dX1_make_129 : decode cX1_make 129 = .ok (.iload_n 1, 1) := by decide +kernel
theorem dX1_make_130 : decode cX1_make 130 = .ok (.iconst 5, 1) := by decide +kernel
theorem dX1_make_131 : decode cX1_make 131 = .ok (.if_icmp .ne 5, 3) := by decide +kernel
theorem dX1_make_134 : decode cX1_make 134 = .ok (.iconst (-1), 1) := by decide +kernel
theorem dX1_make_135 : decode cX1_make 135 = .ok (.ireturn, 1) := by decide +kernel
theorem dX1_make_136 : decode cX1_make 136 = .ok (.aload_n 0, 1) := by decide +kernel
theorem dX1_make_137 : decode cX1_make 137 = .ok (.getfield 9, 3) := by decide +kernel
theorem dX1_make_140 : decode cX1_make 140 = .ok (.aload_n 0, 1) := by decide +kernel
theorem dX1_make_141 : decode cX1_make 141 = .ok (.getfield 36, 3) := by decide +kernel
theorem dX1_make_144 : decode cX1_make 144 = .ok (.iload_n 1, 1) := by decide +kernel
theorem dX1_make_145 : decode cX1_make 145 = .ok (.iastore, 1) := by decide +kernel
theorem dX1_make_146 : decode cX1_make 146 = .ok (.aload_n 0, 1) := by decide +kernel
theorem dX1_make_147 : decode cX1_make 147 = .ok (.getfield 15, 3) := by decide +kernel
theorem dX1_make_150 : decode cX1_make 150 = .ok (.aload_n 0, 1) := by decide +kernel
theorem dX1_make_151 : decode cX1_make 151 = .ok (.getfield 36, 3) := by decide +kernel
theorem dX1_make_154 : decode cX1_make 154 = .ok (.iload_n 2, 1) := by decide +kernel
theorem dX1_make_155 : decode cX1_make 155 = .ok (.iastore, 1) := by decide +kernel
theorem dX1_make_156 : decode cX1_make 156 = .ok (.aload_n 0, 1) := by decide +kernel
theorem dX1_make_157 : decode cX1_make 157 = .ok (.getfield 18, 3) := by decide +kernel
theorem dX1_make_160 : decode cX1_make 160 = .ok (.aload_n 0, 1) := by decide +kernel
theorem dX1_make_161 : decode cX1_make 161 = .ok (.getfield 36, 3) := by decide +kernel
theorem dX1_make_164 : decode cX1_make 164 = .ok (.iload_n 3, 1) := by decide +kernel
theorem dX1_make_165 : decode cX1_make 165 = .ok (.iastore, 1) := by decide +kernel
theorem dX1_make_166 : decode cX1_make 166 = .ok (.aload_n 0, 1) := by decide +kernel
theorem dX1_make_167 : decode cX1_make 167 = .ok (.getfield 21, 3) := by decide +kernel
theorem dX1_make_170 : decode cX1_make 170 = .ok (.aload_n 0, 1) := by decide +kernel
theorem dX1_make_171 : decode cX1_make 171 = .ok (.getfield 36, 3) := by decide +kernel
theorem dX1_make_174 : decode cX1_make 174 = .ok (.iload 5, 2) := by decide +kernel
theorem dX1_make_176 : decode cX1_make 176 = .ok (.iastore, 1) := by decide +kernel
theorem dX1_make_177 : decode cX1_make 177 = .ok (.aload_n 0, 1) := by decide +kernel
theorem dX1_make_178 : decode cX1_make 178 = .ok (.dup, 1) := by decide +kernel
theorem dX1_make_179 : decode cX1_make 179 = .ok (.getfield 36, 3) := by decide +kernel
theorem dX1_make_182 : decode cX1_make 182 = .ok (.iconst 1, 1) := by decide +kernel
theorem dX1_make_183 : decode cX1_make 183 = .ok (.iadd, 1) := by decide +kernel
theorem dX1_make_184 : decode cX1_make 184 = .ok (.putfield 36, 3) := by decide +kernel
theorem dX1_make_187 : decode cX1_make 187 = .ok (.aload_n 0, 1) := by decide +kernel
theorem dX1_make_188 : decode cX1_make 188 = .ok (.getfield 36, 3) := by decide +kernel
theorem dX1_make_191 : decode cX1_make 191 = .ok (.iconst 1, 1) := by decide +kernel
theorem dX1_make_192 : decode cX1_make 192 = .ok (.isub, 1) := by decide +kernel
theorem dX1_make_193 : decode cX1_make 193 = .ok (.ireturn, 1) := by decide +kernel
theorem dX1_find_0 : decode cX1_find 0 = .ok (.iconst 0, 1) := by decide +kernel
theorem dX1_find_1 : decode cX1_find 1 = .ok (.istore 4, 2) := by decide +kernel
theorem dX1_find_3 : decode cX1_find 3 = .ok (.iload 4, 2) := by decide +kernel
theorem dX1_find_5 : decode cX1_find 5 = .ok (.aload_n 0, 1) := by decide +kernel
theorem dX1_find_6 : decode cX1_find 6 = .ok (.getfield 36, 3) := by decide +kernel
theorem dX1_find_9 : decode cX1_find 9 = .ok (.if_icmp .ge 45, 3) := by decide +kernel
theorem dX1_find_12 : decode cX1_find 12 = .ok (.aload_n 0, 1) := by decide +kernel
theorem dX1_find_13 : decode cX1_find 13 = .ok (.getfield 9, 3) := by decide +kernel
theorem dX1_find_16 : decode cX1_find 16 = .ok (.iload 4, 2) := by decide +kernel
theorem dX1_find_18 : decode cX1_find 18 = .ok (.iaload, 1) := by decide +kernel
theorem dX1_find_19 : decode cX1_find 19 = .ok (.iload_n 1, 1) := by decide +kernel
theorem dX1_find_20 : decode cX1_find 20 = .ok (.if_icmp .ne 28, 3) := by decide +kernel
theorem dX1_find_23 : decode cX1_find 23 = .ok (.aload_n 0, 1) := by decide +kernel
theorem dX1_find_24 : decode cX1_find 24 = .ok (.getfield 15, 3) := by decide +kernel
theorem dX1_find_27 : decode cX1_find 27 = .ok (.iload 4, 2) := by decide +kernel
theorem dX1_find_29 : decode cX1_find 29 = .ok (.iaload, 1) := by decide +kernel
theorem dX1_find_30 : decode cX1_find 30 = .ok (.iload_n 2, 1) := by decide +kernel
theorem dX1_find_31 : decode cX1_find 31 = .ok (.if_icmp .ne 17, 3) := by decide +kernel
theorem dX1_find_34 : decode cX1_find 34 = .ok (.aload_n 0, 1) := by decide +kernel
theorem dX1_find_35 : decode cX1_find 35 = .ok (.getfield 18, 3) := by decide +kernel
theorem dX1_find_38 : decode cX1_find 38 = .ok (.iload 4, 2) := by decide +kernel
theorem dX1_find_40 : decode cX1_find 40 = .ok (.iaload, 1) := by decide +kernel
theorem dX1_find_41 : decode cX1_find 41 = .ok (.iload_n 3, 1) := by decide +kernel
theorem dX1_find_42 : decode cX1_find 42 = .ok (.if_icmp .ne 6, 3) := by decide +kernel
theorem dX1_find_45 : decode cX1_find 45 = .ok (.iload 4, 2) := by decide +kernel
theorem dX1_find_47 : decode cX1_find 47 = .ok (.ireturn, 1) := by decide +kernel
theorem dX1_find_48 : decode cX1_find 48 = .ok (.iinc 4 1, 3) := by decide +kernel
theorem dX1_find_51 : decode cX1_find 51 = .ok (.goto (-48), 3) := by decide +kernel
theorem dX1_find_54 : decode cX1_find 54 = .ok (.iconst (-1), 1) := by decide +kernel
theorem dX1_find_55 : decode cX1_find 55 = .ok (.ireturn, 1) := by decide +kernel
set_option maxRecDepth 20000 in
theorem ggX1_atomOfRole_X1_sortOf : GoodIn wsX1_atomOfRole wsX1_sortOf := goodIn_r _ [5, 6, 7, 22, 23, 24, 25, 26, 27, 28, 29, 30, 31] (by decide +kernel) (by decide +kernel)
set_option maxRecDepth 20000 in
theorem gX1_atomOfRole_X1_sortOf : GoodIn wsX1_atomOfRole (wsV RX1 54 RX1 yX1_sortOf wsX1_sortOf) := goodIn_app (goodIn_of _ (by decide +kernel)) ggX1_atomOfRole_X1_sortOf
set_option maxRecDepth 20000 in
theorem ggX1_atomOfRole_X1_leftOf : GoodIn wsX1_atomOfRole wsX1_leftOf := goodIn_r _ [11, 6, 12, 22, 23, 24, 25, 26, 27, 28, 29, 30, 31] (by decide +kernel) (by decide +kernel)
set_option maxRecDepth 20000 in
theorem gX1_atomOfRole_X1_leftOf : GoodIn wsX1_atomOfRole (wsV RX1 58 RX1 yX1_leftOf wsX1_leftOf) := goodIn_app (goodIn_of _ (by decide +kernel)) ggX1_atomOfRole_X1_leftOf
set_option maxRecDepth 20000 in
theorem ggX1_atomOfRole_X1_atomFor : GoodIn wsX1_atomOfRole wsX1_atomFor := goodIn_r _ [16, 17, 18, 19, 20, 21, 22, 23, 24, 25, 26, 27, 28, 29, 30, 31] (by decide +kernel) (by decide +kernel)
set_option maxRecDepth 20000 in
theorem gX1_atomOfRole_X1_atomFor : GoodIn wsX1_atomOfRole (wsV RX1 47 RX1 yX1_atomFor wsX1_atomFor) := goodIn_app (goodIn_of _ (by decide +kernel)) ggX1_atomOfRole_X1_atomFor
theorem dX1_atomOfRole_0 : decode cX1_atomOfRole 0 = .ok (.iload_n 3, 1) := by decide +kernel
theorem dX1_atomOfRole_1 : decode cX1_atomOfRole 1 = .ok (.ifCond .ne 25, 3) := by decide +kernel
theorem dX1_atomOfRole_4 : decode cX1_atomOfRole 4 = .ok (.aload_n 0, 1) := by decide +kernel
theorem dX1_atomOfRole_5 : decode cX1_atomOfRole 5 = .ok (.iload_n 2, 1) := by decide +kernel
theorem dX1_atomOfRole_6 : decode cX1_atomOfRole 6 = .ok (.invokevirtual 54, 3) := by decide +kernel
theorem dX1_atomOfRole_9 : decode cX1_atomOfRole 9 = .ok (.iconst 3, 1) := by decide +kernel
theorem dX1_atomOfRole_10 : decode cX1_atomOfRole 10 = .ok (.if_icmp .ne 16, 3) := by decide +kernel
theorem dX1_atomOfRole_13 : decode cX1_atomOfRole 13 = .ok (.aload_n 0, 1) := by decide +kernel
theorem dX1_atomOfRole_14 : decode cX1_atomOfRole 14 = .ok (.iload_n 1, 1) := by decide +kernel
theorem dX1_atomOfRole_15 : decode cX1_atomOfRole 15 = .ok (.iconst (-1), 1) := by decide +kernel
theorem dX1_atomOfRole_16 : decode cX1_atomOfRole 16 = .ok (.aload_n 0, 1) := by decide +kernel
theorem dX1_atomOfRole_17 : decode cX1_atomOfRole 17 = .ok (.iload_n 2, 1) := by decide +kernel
theorem dX1_atomOfRole_18 : decode cX1_atomOfRole 18 = .ok (.invokevirtual 58, 3) := by decide +kernel
theorem dX1_atomOfRole_21 : decode cX1_atomOfRole 21 = .ok (.iconst 1, 1) := by decide +kernel
theorem dX1_atomOfRole_22 : decode cX1_atomOfRole 22 = .ok (.invokevirtual 47, 3) := by decide +kernel
theorem dX1_atomOfRole_25 : decode cX1_atomOfRole 25 = .ok (.ireturn, 1) := by decide +kernel
theorem dX1_atomOfRole_26 : decode cX1_atomOfRole 26 = .ok (.aload_n 0, 1) := by decide +kernel
theorem dX1_atomOfRole_27 : decode cX1_atomOfRole 27 = .ok (.iload_n 1, 1) := by decide +kernel
theorem dX1_atomOfRole_28 : decode cX1_atomOfRole 28 = .ok (.iconst (-1), 1) := by decide +kernel
theorem dX1_atomOfRole_29 : decode cX1_atomOfRole 29 = .ok (.iload_n 2, 1) := by decide +kernel
theorem dX1_atomOfRole_30 : decode cX1_atomOfRole 30 = .ok (.iload_n 3, 1) := by decide +kernel
theorem dX1_atomOfRole_31 : decode cX1_atomOfRole 31 = .ok (.invokevirtual 47, 3) := by decide +kernel
theorem dX1_atomOfRole_34 : decode cX1_atomOfRole 34 = .ok (.ireturn, 1) := by decide +kernel
theorem dX1_atomFor_0 : decode cX1_atomFor 0 = .ok (.iconst 0, 1) := by decide +kernel
theorem dX1_atomFor_1 : decode cX1_atomFor 1 = .ok (.istore 5, 2) := by decide +kernel
theorem dX1_atomFor_3 : decode cX1_atomFor 3 = .ok (.iload 5, 2) := by decide +kernel
theorem dX1_atomFor_5 : decode cX1_atomFor 5 = .ok (.aload_n 0, 1) := by decide +kernel
theorem dX1_atomFor_6 : decode cX1_atomFor 6 = .ok (.getfield 40, 3) := by decide +kernel
theorem dX1_atomFor_9 : decode cX1_atomFor 9 = .ok (.if_icmp .ge 57, 3) := by decide +kernel
theorem dX1_atomFor_12 : decode cX1_atomFor 12 = .ok (.aload_n 0, 1) := by decide +kernel
theorem dX1_atomFor_13 : decode cX1_atomFor 13 = .ok (.getfield 24, 3) := by decide +kernel
theorem dX1_atomFor_16 : decode cX1_atomFor 16 = .ok (.iload 5, 2) := by decide +kernel
theorem dX1_atomFor_18 : decode cX1_atomFor 18 = .ok (.iaload, 1) := by decide +kernel
theorem dX1_atomFor_19 : decode cX1_atomFor 19 = .ok (.iload_n 1, 1) := by decide +kernel
theorem dX1_atomFor_20 : decode cX1_atomFor 20 = .ok (.if_icmp .ne 40, 3) := by decide +kernel
theorem dX1_atomFor_23 : decode cX1_atomFor 23 = .ok (.aload_n 0, 1) := by decide +kernel
theorem dX1_atomFor_24 : decode cX1_atomFor 24 = .ok (.getfield 27, 3) := by decide +kernel
theorem dX1_atomFor_27 : decode cX1_atomFor 27 = .ok (.iload 5, 2) := by decide +kernel
theorem dX1_atomFor_29 : decode cX1_atomFor 29 = .ok (.iaload, 1) := by decide +kernel
theorem dX1_atomFor_30 : decode cX1_atomFor 30 = .ok (.iload_n 2, 1) := by decide +kernel
theorem dX1_atomFor_31 : decode cX1_atomFor 31 = .ok (.if_icmp .ne 29, 3) := by decide +kernel
theorem dX1_atomFor_34 : decode cX1_atomFor 34 = .ok (.aload_n 0, 1) := by decide +kernel
theorem dX1_atomFor_35 : decode cX1_atomFor 35 = .ok (.getfield 30, 3) := by decide +kernel
theorem dX1_atomFor_38 : decode cX1_atomFor 38 = .ok (.iload 5, 2) := by decide +kernel
theorem dX1_atomFor_40 : decode cX1_atomFor 40 = .ok (.iaload, 1) := by decide +kernel
theorem dX1_atomFor_41 : decode cX1_atomFor 41 = .ok (.iload_n 3, 1) := by decide +kernel
theorem dX1_atomFor_42 : decode cX1_atomFor 42 = .ok (.if_icmp .ne 18, 3) := by decide +kernel
theorem dX1_atomFor_45 : decode cX1_atomFor 45 = .ok (.aload_n 0, 1) := by decide +kernel
theorem dX1_atomFor_46 : decode cX1_atomFor 46 = .ok (.getfield 33, 3) := by decide +kernel
theorem dX1_atomFor_49 : decode cX1_atomFor 49 = .ok (.iload 5, 2) := by decide +kernel
theorem dX1_atomFor_51 : decode cX1_atomFor 51 = .ok (.iaload, 1) := by decide +kernel
theorem dX1_atomFor_52 : decode cX1_atomFor 52 = .ok (.iload 4, 2) := by decide +kernel
theorem dX1_atomFor_54 : decode cX1_atomFor 54 = .ok (.if_icmp .ne 6, 3) := by decide +kernel
theorem dX1_atomFor_57 : decode cX1_atomFor 57 = .ok (.iload 5, 2) := by decide +kernel
theorem dX1_atomFor_59 : decode cX1_atomFor 59 = .ok (.ireturn, 1) := by decide +kernel
theorem dX1_atomFor_60 : decode cX1_atomFor 60 = .ok (.iinc 5 1, 3) := by decide +kernel
theorem dX1_atomFor_63 : decode cX1_atomFor 63 = .ok (.goto (-60), 3) := by decide +kernel
theorem dX1_atomFor_66 : decode cX1_atomFor 66 = .ok (.aload_n 0, 1) := by decide +kernel
theorem dX1_atomFor_67 : decode cX1_atomFor 67 = .ok (.getfield 40, 3) := by decide +kernel
theorem dX1_atomFor_70 : decode cX1_atomFor 70 = .ok (.bipush 9, 2) := by decide +kernel
theorem dX1_atomFor_72 : decode cX1_atomFor 72 = .ok (.if_icmp .lt 5, 3) := by decide +kernel
theorem dX1_atomFor_75 : decode cX1_atomFor 75 = .ok (.iconst (-1), 1) := by decide +kernel
theorem dX1_atomFor_76 : decode cX1_atomFor 76 = .ok (.ireturn, 1) := by decide +kernel
theorem dX1_atomFor_77 : decode cX1_atomFor 77 = .ok (.aload_n 0, 1) := by decide +kernel
theorem dX1_atomFor_78 : decode cX1_atomFor 78 = .ok (.getfield 24, 3) := by decide +kernel
theorem dX1_atomFor_81 : decode cX1_atomFor 81 = .ok (.aload_n 0, 1) := by decide +kernel
theorem dX1_atomFor_82 : decode cX1_atomFor 82 = .ok (.getfield 40, 3) := by decide +kernel
theorem dX1_atomFor_85 : decode cX1_atomFor 85 = .ok (.iload_n 1, 1) := by decide +kernel
theorem dX1_atomFor_86 : decode cX1_atomFor 86 = .ok (.iastore, 1) := by decide +kernel
theorem dX1_atomFor_87 : decode cX1_atomFor 87 = .ok (.aload_n 0, 1) := by decide +kernel
theorem dX1_atomFor_88 : decode cX1_atomFor 88 = .ok (.getfield 27, 3) := by decide +kernel
theorem dX1_atomFor_91 : decode cX1_atomFor 91 = .ok (.aload_n 0, 1) := by decide +kernel
theorem dX1_atomFor_92 : decode cX1_atomFor 92 = .ok (.getfield 40, 3) := by decide +kernel
theorem dX1_atomFor_95 : decode cX1_atomFor 95 = .ok (.iload_n 2, 1) := by decide +kernel
theorem dX1_atomFor_96 : decode cX1_atomFor 96 = .ok (.iastore, 1) := by decide +kernel
theorem dX1_atomFor_97 : decode cX1_atomFor 97 = .ok (.aload_n 0, 1) := by decide +kernel
theorem dX1_atomFor_98 : decode cX1_atomFor 98 = .ok (.getfield 30, 3) := by decide +kernel
theorem dX1_atomFor_101 : decode cX1_atomFor 101 = .ok (.aload_n 0, 1) := by decide +kernel
theorem dX1_atomFor_102 : decode cX1_atomFor 102 = .ok (.getfield 40, 3) := by decide +kernel
theorem dX1_atomFor_105 : decode cX1_atomFor 105 = .ok (.iload_n 3, 1) := by decide +kernel
theorem dX1_atomFor_106 : decode cX1_atomFor 106 = .ok (.iastore, 1) := by decide +kernel
theorem dX1_atomFor_107 : decode cX1_atomFor 107 = .ok (.aload_n 0, 1) := by decide +kernel
theorem dX1_atomFor_108 : decode cX1_atomFor 108 = .ok (.getfield 33, 3) := by decide +kernel
theorem dX1_atomFor_111 : decode cX1_atomFor 111 = .ok (.aload_n 0, 1) := by decide +kernel
theorem dX1_atomFor_112 : decode cX1_atomFor 112 = .ok (.getfield 40, 3) := by decide +kernel
theorem dX1_atomFor_115 : decode cX1_atomFor 115 = .ok (.iload 4, 2) := by decide +kernel
theorem dX1_atomFor_117 : decode cX1_atomFor 117 = .ok (.iastore, 1) := by decide +kernel
theorem dX1_atomFor_118 : decode cX1_atomFor 118 = .ok (.aload_n 0, 1) := by decide +kernel
theorem dX1_atomFor_119 : decode cX1_atomFor 119 = .ok (.dup, 1) := by decide +kernel
theorem dX1_atomFor_120 : decode cX1_atomFor 120 = .ok (.getfield 40, 3) := by decide +kernel
theorem dX1_atomFor_123 : decode cX1_atomFor 123 = .ok (.iconst 1, 1) := by decide +kernel
theorem dX1_atomFor_124 : decode cX1_atomFor 124 = .ok (.iadd, 1) := by decide +kernel
theorem dX1_atomFor_125 : decode cX1_atomFor 125 = .ok (.putfield 40, 3) := by decide +kernel
theorem dX1_atomFor_128 : decode cX1_atomFor 128 = .ok (.aload_n 0, 1) := by decide +kernel
theorem dX1_atomFor_129 : decode cX1_atomFor 129 = .ok (.getfield 40, 3) := by decide +kernel
theorem dX1_atomFor_132 : decode cX1_atomFor 132 = .ok (.iconst 1, 1) := by decide +kernel
theorem dX1_atomFor_133 : decode cX1_atomFor 133 = .ok (.isub, 1) := by decide +kernel
theorem dX1_atomFor_134 : decode cX1_atomFor 134 = .ok (.ireturn, 1) := by decide +kernel
theorem dX1_sortOf_0 : decode cX1_sortOf 0 = .ok (.iload_n 1, 1) := by decide +kernel
theorem dX1_sortOf_1 : decode cX1_sortOf 1 = .ok (.ifCond .lt 20, 3) := by decide +kernel
theorem dX1_sortOf_4 : decode cX1_sortOf 4 = .ok (.iload_n 1, 1) := by decide +kernel
theorem dX1_sortOf_5 : decode cX1_sortOf 5 = .ok (.aload_n 0, 1) := by decide +kernel
theorem dX1_sortOf_6 : decode cX1_sortOf 6 = .ok (.getfield 36, 3) := by decide +kernel
theorem dX1_sortOf_9 : decode cX1_sortOf 9 = .ok (.if_icmp .ge 12, 3) := by decide +kernel
theorem dX1_sortOf_12 : decode cX1_sortOf 12 = .ok (.aload_n 0, 1) := by decide +kernel
theorem dX1_sortOf_13 : decode cX1_sortOf 13 = .ok (.getfield 9, 3) := by decide +kernel
theorem dX1_sortOf_16 : decode cX1_sortOf 16 = .ok (.iload_n 1, 1) := by decide +kernel
theorem dX1_sortOf_17 : decode cX1_sortOf 17 = .ok (.iaload, 1) := by decide +kernel
theorem dX1_sortOf_18 : decode cX1_sortOf 18 = .ok (.goto 4, 3) := by decide +kernel
theorem dX1_sortOf_21 : decode cX1_sortOf 21 = .ok (.iconst (-1), 1) := by decide +kernel
theorem dX1_sortOf_22 : decode cX1_sortOf 22 = .ok (.ireturn, 1) := by decide +kernel
theorem dX1_leftOf_0 : decode cX1_leftOf 0 = .ok (.iload_n 1, 1) := by decide +kernel
theorem dX1_leftOf_1 : decode cX1_leftOf 1 = .ok (.ifCond .lt 20, 3) := by decide +kernel
theorem dX1_leftOf_4 : decode cX1_leftOf 4 = .ok (.iload_n 1, 1) := by decide +kernel
theorem dX1_leftOf_5 : decode cX1_leftOf 5 = .ok (.aload_n 0, 1) := by decide +kernel
theorem dX1_leftOf_6 : decode cX1_leftOf 6 = .ok (.getfield 36, 3) := by decide +kernel
theorem dX1_leftOf_9 : decode cX1_leftOf 9 = .ok (.if_icmp .ge 12, 3) := by decide +kernel
theorem dX1_leftOf_12 : decode cX1_leftOf 12 = .ok (.aload_n 0, 1) := by decide +kernel
theorem dX1_leftOf_13 : decode cX1_leftOf 13 = .ok (.getfield 15, 3) := by decide +kernel
theorem dX1_leftOf_16 : decode cX1_leftOf 16 = .ok (.iload_n 1, 1) := by decide +kernel
theorem dX1_leftOf_17 : decode cX1_leftOf 17 = .ok (.iaload, 1) := by decide +kernel
theorem dX1_leftOf_18 : decode cX1_leftOf 18 = .ok (.goto 4, 3) := by decide +kernel
theorem dX1_leftOf_21 : decode cX1_leftOf 21 = .ok (.iconst (-1), 1) := by decide +kernel
theorem dX1_leftOf_22 : decode cX1_leftOf 22 = .ok (.ireturn, 1) := by decide +kernel
theorem dX1_rightOf_0 : decode cX1_rightOf 0 = .ok (.iload_n 1, 1) := by decide +kernel
theorem dX1_rightOf_1 : decode cX1_rightOf 1 = .ok (.ifCond .lt 20, 3) := by decide +kernel
theorem dX1_rightOf_4 : decode cX1_rightOf 4 = .ok (.iload_n 1, 1) := by decide +kernel
theorem dX1_rightOf_5 : decode cX1_rightOf 5 = .ok (.aload_n 0, 1) := by decide +kernel
theorem dX1_rightOf_6 : decode cX1_rightOf 6 = .ok (.getfield 36, 3) := by decide +kernel
theorem dX1_rightOf_9 : decode cX1_rightOf 9 = .ok (.if_icmp .ge 12, 3) := by decide +kernel
theorem dX1_rightOf_12 : decode cX1_rightOf 12 = .ok (.aload_n 0, 1) := by decide +kernel
theorem dX1_rightOf_13 : decode cX1_rightOf 13 = .ok (.getfield 18, 3) := by decide +kernel
theorem dX1_rightOf_16 : decode cX1_rightOf 16 = .ok (.iload_n 1, 1) := by decide +kernel
theorem dX1_rightOf_17 : decode cX1_rightOf 17 = .ok (.iaload, 1) := by decide +kernel
theorem dX1_rightOf_18 : decode cX1_rightOf 18 = .ok (.goto 4, 3) := by decide +kernel
theorem dX1_rightOf_21 : decode cX1_rightOf 21 = .ok (.iconst (-1), 1) := by decide +kernel
theorem dX1_rightOf_22 : decode cX1_rightOf 22 = .ok (.ireturn, 1) := by decide +kernel
theorem dX1_atomOf_0 : decode cX1_atomOf 0 = .ok (.iload_n 1, 1) := by decide +kernel
theorem dX1_atomOf_1 : decode cX1_atomOf 1 = .ok (.ifCond .lt 20, 3) := by decide +kernel
theorem dX1_atomOf_4 : decode cX1_atomOf 4 = .ok (.iload_n 1, 1) := by decide +kernel
theorem dX1_atomOf_5 : decode cX1_atomOf 5 = .ok (.aload_n 0, 1) := by decide +kernel
theorem dX1_atomOf_6 : decode cX1_atomOf 6 = .ok (.getfield 36, 3) := by decide +kernel
theorem dX1_atomOf_9 : decode cX1_atomOf 9 = .ok (.if_icmp .ge 12, 3) := by decide +kernel
theorem dX1_atomOf_12 : decode cX1_atomOf 12 = .ok (.aload_n 0, 1) := by decide +kernel
theorem dX1_atomOf_13 : decode cX1_atomOf 13 = .ok (.getfield 21, 3) := by decide +kernel
theorem dX1_atomOf_16 : decode cX1_atomOf 16 = .ok (.iload_n 1, 1) := by decide +kernel
theorem dX1_atomOf_17 : decode cX1_atomOf 17 = .ok (.iaload, 1) := by decide +kernel
theorem dX1_atomOf_18 : decode cX1_atomOf 18 = .ok (.goto 4, 3) := by decide +kernel
theorem dX1_atomOf_21 : decode cX1_atomOf 21 = .ok (.iconst (-1), 1) := by decide +kernel
theorem dX1_atomOf_22 : decode cX1_atomOf 22 = .ok (.ireturn, 1) := by decide +kernel
set_option maxRecDepth 20000 in
theorem ggX1_nodeOfName_X1_find : GoodIn wsX1_nodeOfName wsX1_find := goodIn_r _ [5, 6, 7, 8, 9, 10, 11, 12, 13, 14, 15, 16, 17, 18, 19] (by decide +kernel) (by decide +kernel)
set_option maxRecDepth 20000 in
theorem gX1_nodeOfName_X1_find : GoodIn wsX1_nodeOfName (wsV RX1 43 RX1 yX1_find wsX1_find) := goodIn_app (goodIn_of _ (by decide +kernel)) ggX1_nodeOfName_X1_find
theorem dX1_nodeOfName_0 : decode cX1_nodeOfName 0 = .ok (.aload_n 0, 1) := by decide +kernel
theorem dX1_nodeOfName_1 : decode cX1_nodeOfName 1 = .ok (.iconst 0, 1) := by decide +kernel
theorem dX1_nodeOfName_2 : decode cX1_nodeOfName 2 = .ok (.iload_n 1, 1) := by decide +kernel
theorem dX1_nodeOfName_3 : decode cX1_nodeOfName 3 = .ok (.iconst 0, 1) := by decide +kernel
theorem dX1_nodeOfName_4 : decode cX1_nodeOfName 4 = .ok (.invokevirtual 43, 3) := by decide +kernel
theorem dX1_nodeOfName_7 : decode cX1_nodeOfName 7 = .ok (.ireturn, 1) := by decide +kernel
theorem dX1_roleOfAtom_0 : decode cX1_roleOfAtom 0 = .ok (.iload_n 1, 1) := by decide +kernel
theorem dX1_roleOfAtom_1 : decode cX1_roleOfAtom 1 = .ok (.ifCond .lt 20, 3) := by decide +kernel
theorem dX1_roleOfAtom_4 : decode cX1_roleOfAtom 4 = .ok (.iload_n 1, 1) := by decide +kernel
theorem dX1_roleOfAtom_5 : decode cX1_roleOfAtom 5 = .ok (.aload_n 0, 1) := by decide +kernel
theorem dX1_roleOfAtom_6 : decode cX1_roleOfAtom 6 = .ok (.getfield 40, 3) := by decide +kernel
theorem dX1_roleOfAtom_9 : decode cX1_roleOfAtom 9 = .ok (.if_icmp .ge 12, 3) := by decide +kernel
theorem dX1_roleOfAtom_12 : decode cX1_roleOfAtom 12 = .ok (.aload_n 0, 1) := by decide +kernel
theorem dX1_roleOfAtom_13 : decode cX1_roleOfAtom 13 = .ok (.getfield 24, 3) := by decide +kernel
theorem dX1_roleOfAtom_16 : decode cX1_roleOfAtom 16 = .ok (.iload_n 1, 1) := by decide +kernel
theorem dX1_roleOfAtom_17 : decode cX1_roleOfAtom 17 = .ok (.iaload, 1) := by decide +kernel
theorem dX1_roleOfAtom_18 : decode cX1_roleOfAtom 18 = .ok (.goto 4, 3) := by decide +kernel
theorem dX1_roleOfAtom_21 : decode cX1_roleOfAtom 21 = .ok (.iconst (-1), 1) := by decide +kernel
theorem dX1_roleOfAtom_22 : decode cX1_roleOfAtom 22 = .ok (.ireturn, 1) := by decide +kernel
theorem dX1_nameOfAtom_0 : decode cX1_nameOfAtom 0 = .ok (.iload_n 1, 1) := by decide +kernel
theorem dX1_nameOfAtom_1 : decode cX1_nameOfAtom 1 = .ok (.ifCond .lt 20, 3) := by decide +kernel
theorem dX1_nameOfAtom_4 : decode cX1_nameOfAtom 4 = .ok (.iload_n 1, 1) := by decide +kernel
theorem dX1_nameOfAtom_5 : decode cX1_nameOfAtom 5 = .ok (.aload_n 0, 1) := by decide +kernel
theorem dX1_nameOfAtom_6 : decode cX1_nameOfAtom 6 = .ok (.getfield 40, 3) := by decide +kernel
theorem dX1_nameOfAtom_9 : decode cX1_nameOfAtom 9 = .ok (.if_icmp .ge 12, 3) := by decide +kernel
theorem dX1_nameOfAtom_12 : decode cX1_nameOfAtom 12 = .ok (.aload_n 0, 1) := by decide +kernel
theorem dX1_nameOfAtom_13 : decode cX1_nameOfAtom 13 = .ok (.getfield 27, 3) := by decide +kernel
theorem dX1_nameOfAtom_16 : decode cX1_nameOfAtom 16 = .ok (.iload_n 1, 1) := by decide +kernel
theorem dX1_nameOfAtom_17 : decode cX1_nameOfAtom 17 = .ok (.iaload, 1) := by decide +kernel
theorem dX1_nameOfAtom_18 : decode cX1_nameOfAtom 18 = .ok (.goto 4, 3) := by decide +kernel
theorem dX1_nameOfAtom_21 : decode cX1_nameOfAtom 21 = .ok (.iconst (-1), 1) := by decide +kernel
theorem dX1_nameOfAtom_22 : decode cX1_nameOfAtom 22 = .ok (.ireturn, 1) := by decide +kernel
theorem dX1_partOfAtom_0 : decode cX1_partOfAtom 0 = .ok (.iload_n 1, 1) := by decide +kernel
theorem dX1_partOfAtom_1 : decode cX1_partOfAtom 1 = .ok (.ifCond .lt 20, 3) := by decide +kernel
theorem dX1_partOfAtom_4 : decode cX1_partOfAtom 4 = .ok (.iload_n 1, 1) := by decide +kernel
theorem dX1_partOfAtom_5 : decode cX1_partOfAtom 5 = .ok (.aload_n 0, 1) := by decide +kernel
theorem dX1_partOfAtom_6 : decode cX1_partOfAtom 6 = .ok (.getfield 40, 3) := by decide +kernel
theorem dX1_partOfAtom_9 : decode cX1_partOfAtom 9 = .ok (.if_icmp .ge 12, 3) := by decide +kernel
theorem dX1_partOfAtom_12 : decode cX1_partOfAtom 12 = .ok (.aload_n 0, 1) := by decide +kernel
theorem dX1_partOfAtom_13 : decode cX1_partOfAtom 13 = .ok (.getfield 30, 3) := by decide +kernel
theorem dX1_partOfAtom_16 : decode cX1_partOfAtom 16 = .ok (.iload_n 1, 1) := by decide +kernel
theorem dX1_partOfAtom_17 : decode cX1_partOfAtom 17 = .ok (.iaload, 1) := by decide +kernel
theorem dX1_partOfAtom_18 : decode cX1_partOfAtom 18 = .ok (.goto 4, 3) := by decide +kernel
theorem dX1_partOfAtom_21 : decode cX1_partOfAtom 21 = .ok (.iconst (-1), 1) := by decide +kernel
theorem dX1_partOfAtom_22 : decode cX1_partOfAtom 22 = .ok (.ireturn, 1) := by decide +kernel
theorem dX1_isTurned_0 : decode cX1_isTurned 0 = .ok (.iload_n 1, 1) := by decide +kernel
theorem dX1_isTurned_1 : decode cX1_isTurned 1 = .ok (.ifCond .lt 25, 3) := by decide +kernel
theorem dX1_isTurned_4 : decode cX1_isTurned 4 = .ok (.iload_n 1, 1) := by decide +kernel
theorem dX1_isTurned_5 : decode cX1_isTurned 5 = .ok (.aload_n 0, 1) := by decide +kernel
theorem dX1_isTurned_6 : decode cX1_isTurned 6 = .ok (.getfield 40, 3) := by decide +kernel
theorem dX1_isTurned_9 : decode cX1_isTurned 9 = .ok (.if_icmp .ge 17, 3) := by decide +kernel
theorem dX1_isTurned_12 : decode cX1_isTurned 12 = .ok (.aload_n 0, 1) := by decide +kernel
theorem dX1_isTurned_13 : decode cX1_isTurned 13 = .ok (.getfield 33, 3) := by decide +kernel
theorem dX1_isTurned_16 : decode cX1_isTurned 16 = .ok (.iload_n 1, 1) := by decide +kernel
theorem dX1_isTurned_17 : decode cX1_isTurned 17 = .ok (.iaload, 1) := by decide +kernel
theorem dX1_isTurned_18 : decode cX1_isTurned 18 = .ok (.iconst 1, 1) := by decide +kernel
theorem dX1_isTurned_19 : decode cX1_isTurned 19 = .ok (.if_icmp .ne 7, 3) := by decide +kernel
theorem dX1_isTurned_22 : decode cX1_isTurned 22 = .ok (.iconst 1, 1) := by decide +kernel
theorem dX1_isTurned_23 : decode cX1_isTurned 23 = .ok (.goto 4, 3) := by decide +kernel
theorem dX1_isTurned_26 : decode cX1_isTurned 26 = .ok (.iconst 0, 1) := by decide +kernel
theorem dX1_isTurned_27 : decode cX1_isTurned 27 = .ok (.ireturn, 1) := by decide +kernel
theorem dX2_init_0 : decode cX2_init 0 = .ok (.aload_n 0, 1) := by decide +kernel
theorem dX2_init_1 : decode cX2_init 1 = .ok (.invokespecial 3, 3) := by decide +kernel
theorem dX2_init_4 : decode cX2_init 4 = .ok (.aload_n 0, 1) := by decide +kernel
theorem dX2_init_5 : decode cX2_init 5 = .ok (.sipush 1600, 3) := by decide +kernel
theorem dX2_init_8 : decode cX2_init 8 = .ok (.newarray .long, 2) := by decide +kernel
theorem dX2_init_10 : decode cX2_init 10 = .ok (.putfield 9, 3) := by decide +kernel
theorem dX2_init_13 : decode cX2_init 13 = .ok (.aload_n 0, 1) := by decide +kernel
theorem dX2_init_14 : decode cX2_init 14 = .ok (.bipush 72, 2) := by decide +kernel
theorem dX2_init_16 : decode cX2_init 16 = .ok (.newarray .long, 2) := by decide +kernel
theorem dX2_init_18 : decode cX2_init 18 = .ok (.putfield 15, 3) := by decide +kernel
theorem dX2_init_21 : decode cX2_init 21 = .ok (.aload_n 0, 1) := by decide +kernel
theorem dX2_init_22 : decode cX2_init 22 = .ok (.iconst 3, 1) := by decide +kernel
theorem dX2_init_23 : decode cX2_init 23 = .ok (.newarray .int, 2) := by decide +kernel
theorem dX2_init_25 : decode cX2_init 25 = .ok (.putfield 18, 3) := by decide +kernel
theorem dX2_init_28 : decode cX2_init 28 = .ok (.aload_n 0, 1) := by decide +kernel
theorem dX2_init_29 : decode cX2_init 29 = .ok (.iconst 3, 1) := by decide +kernel
theorem dX2_init_30 : decode cX2_init 30 = .ok (.newarray .int, 2) := by decide +kernel
theorem dX2_init_32 : decode cX2_init 32 = .ok (.putfield 22, 3) := by decide +kernel
theorem dX2_init_35 : decode cX2_init 35 = .ok (.aload_n 0, 1) := by decide +kernel
theorem dX2_init_36 : decode cX2_init 36 = .ok (.bipush 8, 2) := by decide +kernel
theorem dX2_init_38 : decode cX2_init 38 = .ok (.newarray .long, 2) := by decide +kernel
theorem dX2_init_40 : decode cX2_init 40 = .ok (.putfield 25, 3) := by decide +kernel
theorem dX2_init_43 : decode cX2_init 43 = .ok (.aload_n 0, 1) := by decide +kernel
theorem dX2_init_44 : decode cX2_init 44 = .ok (.bipush 8, 2) := by decide +kernel
theorem dX2_init_46 : decode cX2_init 46 = .ok (.newarray .long, 2) := by decide +kernel
theorem dX2_init_48 : decode cX2_init 48 = .ok (.putfield 28, 3) := by decide +kernel
theorem dX2_init_51 : decode cX2_init 51 = .ok (.aload_n 0, 1) := by decide +kernel
theorem dX2_init_52 : decode cX2_init 52 = .ok (.bipush 8, 2) := by decide +kernel
theorem dX2_init_54 : decode cX2_init 54 = .ok (.newarray .long, 2) := by decide +kernel
theorem dX2_init_56 : decode cX2_init 56 = .ok (.putfield 31, 3) := by decide +kernel
theorem dX2_init_59 : decode cX2_init 59 = .ok (.aload_n 0, 1) := by decide +kernel
theorem dX2_init_60 : decode cX2_init 60 = .ok (.bipush 8, 2) := by decide +kernel
theorem dX2_init_62 : decode cX2_init 62 = .ok (.newarray .long, 2) := by decide +kernel
theorem dX2_init_64 : decode cX2_init 64 = .ok (.putfield 34, 3) := by decide +kernel
theorem dX2_init_67 : decode cX2_init 67 = .ok (.aload_n 0, 1) := by decide +kernel
theorem dX2_init_68 : decode cX2_init 68 = .ok (.bipush 8, 2) := by decide +kernel
theorem dX2_init_70 : decode cX2_init 70 = .ok (.newarray .long, 2) := by decide +kernel
theorem dX2_init_72 : decode cX2_init 72 = .ok (.putfield 37, 3) := by decide +kernel
theorem dX2_init_75 : decode cX2_init 75 = .ok (.aload_n 0, 1) := by decide +kernel
theorem dX2_init_76 : decode cX2_init 76 = .ok (.sipush 512, 3) := by decide +kernel
theorem dX2_init_79 : decode cX2_init 79 = .ok (.newarray .short, 2) := by decide +kernel
theorem dX2_init_81 : decode cX2_init 81 = .ok (.putfield 40, 3) := by decide +kernel
theorem dX2_init_84 : decode cX2_init 84 = .ok (.aload_n 0, 1) := by decide +kernel
theorem dX2_init_85 : decode cX2_init 85 = .ok (.aload_n 1, 1) := by decide +kernel
theorem dX2_init_86 : decode cX2_init 86 = .ok (.putfield 44, 3) := by decide +kernel
theorem dX2_init_89 : decode cX2_init 89 = .ok (.aload_n 0, 1) := by decide +kernel
theorem dX2_init_90 : decode cX2_init 90 = .ok (.aload_n 1, 1) := by decide +kernel
theorem dX2_init_91 : decode cX2_init 91 = .ok (.getfield 48, 3) := by decide +kernel
theorem dX2_init_94 : decode cX2_init 94 = .ok (.putfield 54, 3) := by decide +kernel
theorem dX2_init_97 : decode cX2_init 97 = .ok (.return_, 1) := by decide +kernel
set_option maxRecDepth 20000 in
theorem ggX2_workOut_X2_truthWord : GoodIn wsX2_workOut wsX2_truthWord := goodIn_r _ [27, 3, 13, 28, 29, 30, 31, 32, 33, 34, 35, 36, 37, 38, 39, 40, 41, 42, 43, 44, 45, 46, 47, 26, 48, 11, 49, 50, 51, 52, 53, 54, 55, 56, 57, 58, 59, 60, 61, 62, 158, 159, 160, 161, 162, 163, 164, 165, 166, 167, 168, 169, 170, 171, 172, 188, 189, 190, 191, 192, 193, 194, 195, 196, 197] (by decide +kernel) (by decide +kernel)
set_option maxRecDepth 20000 in
theorem gX2_workOut_X2_truthWord : GoodIn wsX2_workOut (wsV RX2 73 RX2 yX2_truthWord wsX2_truthWord) := goodIn_app (goodIn_of _ (by decide +kernel)) ggX2_workOut_X2_truthWord
set_option maxRecDepth 20000 in
theorem ggX2_workOut_X1_partOfAtom : GoodIn wsX2_workOut wsX1_partOfAtom := goodIn_r _ [66, 67, 68, 188, 189, 190, 191, 192, 193, 194, 195, 196, 197] (by decide +kernel) (by decide +kernel)
set_option maxRecDepth 20000 in
theorem gX2_workOut_X1_partOfAtom : GoodIn wsX2_workOut (wsV RX2 77 RX1 yX1_partOfAtom wsX1_partOfAtom) := goodIn_app (goodIn_of _ (by decide +kernel)) ggX2_workOut_X1_partOfAtom
set_option maxRecDepth 20000 in
theorem ggX2_workOut_X2_truthOf : GoodIn wsX2_workOut wsX2_truthOf := goodIn_r _ [48, 11, 158, 159, 160, 161, 162, 163, 164, 165, 166, 167, 168, 169, 170, 171, 172] (by decide +kernel) (by decide +kernel)
set_option maxRecDepth 20000 in
theorem gX2_workOut_X2_truthOf : GoodIn wsX2_workOut (wsV RX2 81 RX2 yX2_truthOf wsX2_truthOf) := goodIn_app (goodIn_of _ (by decide +kernel)) ggX2_workOut_X2_truthOf
set_option maxRecDepth 20000 in
theorem ggX2_workOut_X1_isTurned : GoodIn wsX2_workOut wsX1_isTurned := goodIn_r _ [72, 67, 73, 188, 189, 190, 191, 192, 193, 194, 195, 196, 197] (by decide +kernel) (by decide +kernel)
set_option maxRecDepth 20000 in
theorem gX2_workOut_X1_isTurned : GoodIn wsX2_workOut (wsV RX2 84 RX1 yX1_isTurned wsX1_isTurned) := goodIn_app (goodIn_of _ (by decide +kernel)) ggX2_workOut_X1_isTurned
set_option maxRecDepth 20000 in
theorem ggX2_workOut_X2_gatherAtoms : GoodIn wsX2_workOut wsX2_gatherAtoms := goodIn_r _ [77, 78, 79, 80, 3, 4, 1, 81, 82, 83, 31, 84, 67, 85, 86, 87, 88, 89, 90, 91, 92, 93, 94, 95, 158, 159, 160, 161, 162, 163, 164, 165, 166, 167, 168, 169, 170, 171, 172, 188, 189, 190, 191, 192, 193, 194, 195, 196, 197, 173, 174, 175, 176, 177, 178, 179, 180, 181, 182, 183, 184, 185, 186, 187] (by decide +kernel) (by decide +kernel)
set_option maxRecDepth 20000 in
theorem gX2_workOut_X2_gatherAtoms : GoodIn wsX2_workOut (wsV RX2 90 RX2 yX2_gatherAtoms wsX2_gatherAtoms) := goodIn_app (goodIn_of _ (by decide +kernel)) ggX2_workOut_X2_gatherAtoms
set_option maxRecDepth 20000 in
theorem ggX2_workOut_X2_takeFair : GoodIn wsX2_workOut wsX2_takeFair := goodIn_r _ [99, 9, 13, 1, 14, 100, 101, 102, 89, 103, 104, 105, 106, 107, 108, 26, 109, 110, 111, 112, 45, 46, 47, 48, 11, 113, 114, 115, 116, 117, 118, 158, 159, 160, 161, 162, 163, 164, 165, 166, 167, 168, 169, 170, 171, 172, 173, 174, 175, 176, 177, 178, 179, 180, 181, 182, 183, 184, 185, 186, 187] (by decide +kernel) (by decide +kernel)
set_option maxRecDepth 20000 in
theorem gX2_workOut_X2_takeFair : GoodIn wsX2_workOut (wsV RX2 96 RX2 yX2_takeFair wsX2_takeFair) := goodIn_app (goodIn_of _ (by decide +kernel)) ggX2_workOut_X2_takeFair
set_option maxRecDepth 20000 in
theorem ggX2_workOut_X2_has : GoodIn wsX2_workOut wsX2_has := goodIn_r _ [121] (by decide +kernel) (by decide +kernel)
set_option maxRecDepth 20000 in
theorem gX2_workOut_X2_has : GoodIn wsX2_workOut (va_wsS RX2 106 yX2_has wsX2_has) := goodIn_app (goodIn_of _ (by decide +kernel)) ggX2_workOut_X2_has
set_option maxRecDepth 20000 in
theorem ggX2_workOut_X2_settle : GoodIn wsX2_workOut wsX2_settle := goodIn_r _ [125, 126, 127, 128, 26, 129, 130, 17, 18, 19, 20, 9, 78, 131, 21, 132, 133, 134, 135, 3, 4, 81, 82, 83, 31, 84, 67, 85, 136, 137, 138, 139, 1, 79, 80, 12, 13, 140, 141, 142, 89, 143, 144, 145, 146, 147, 148, 149, 150, 151, 152, 153, 154, 155, 156, 157, 119, 120, 121, 158, 159, 160, 161, 162, 163, 164, 165, 166, 167, 168, 169, 170, 171, 172, 188, 189, 190, 191, 192, 193, 194, 195, 196, 197, 173, 174, 175, 176, 177, 178, 179, 180, 181, 182, 183, 184, 185, 186, 187] (by decide +kernel) (by decide +kernel)
set_option maxRecDepth 20000 in
theorem gX2_workOut_X2_settle : GoodIn wsX2_workOut (wsV RX2 110 RX2 yX2_settle wsX2_settle) := goodIn_app (goodIn_of _ (by decide +kernel)) ggX2_workOut_X2_settle
theorem dX2_workOut_0 : decode cX2_workOut 0 = .ok (.aload_n 0, 1) := by decide +kernel
theorem dX2_workOut_1 : decode cX2_workOut 1 = .ok (.aload_n 1, 1) := by decide +kernel
theorem dX2_workOut_2 : decode cX2_workOut 2 = .ok (.putfield 44, 3) := by decide +kernel
theorem dX2_workOut_5 : decode cX2_workOut 5 = .ok (.aload_n 0, 1) := by decide +kernel
theorem dX2_workOut_6 : decode cX2_workOut 6 = .ok (.aload_n 1, 1) := by decide +kernel
theorem dX2_workOut_7 : decode cX2_workOut 7 = .ok (.getfield 48, 3) := by decide +kernel
theorem dX2_workOut_10 : decode cX2_workOut 10 = .ok (.putfield 54, 3) := by decide +kernel
theorem dX2_workOut_13 : decode cX2_workOut 13 = .ok (.aload_n 0, 1) := by decide +kernel
theorem dX2_workOut_14 : decode cX2_workOut 14 = .ok (.iconst 1, 1) := by decide +kernel
theorem dX2_workOut_15 : decode cX2_workOut 15 = .ok (.aload_n 0, 1) := by decide +kernel
theorem dX2_workOut_16 : decode cX2_workOut 16 = .ok (.getfield 54, 3) := by decide +kernel
theorem dX2_workOut_19 : decode cX2_workOut 19 = .ok (.getfield 55, 3) := by decide +kernel
theorem dX2_workOut_22 : decode cX2_workOut 22 = .ok (.bipush 9, 2) := by decide +kernel
theorem dX2_workOut_24 : decode cX2_workOut 24 = .ok (.invokestatic 61, 3) := by decide +kernel
theorem dX2_workOut_27 : decode cX2_workOut 27 = .ok (.ishl, 1) := by decide +kernel
theorem dX2_workOut_28 : decode cX2_workOut 28 = .ok (.putfield 67, 3) := by decide +kernel
theorem dX2_workOut_31 : decode cX2_workOut 31 = .ok (.iconst 0, 1) := by decide +kernel
theorem dX2_workOut_32 : decode cX2_workOut 32 = .ok (.istore_n 2, 1) := by decide +kernel
theorem dX2_workOut_33 : decode cX2_workOut 33 = .ok (.iload_n 2, 1) := by decide +kernel
theorem dX2_workOut_34 : decode cX2_workOut 34 = .ok (.aload_n 0, 1) := by decide +kernel
theorem dX2_workOut_35 : decode cX2_workOut 35 = .ok (.getfield 54, 3) := by decide +kernel
theorem dX2_workOut_38 : decode cX2_workOut 38 = .ok (.getfield 70, 3) := by decide +kernel
theorem dX2_workOut_41 : decode cX2_workOut 41 = .ok (.if_icmp .ge 47, 3) := by decide +kernel
theorem dX2_workOut_44 : decode cX2_workOut 44 = .ok (.iload_n 2, 1) := by decide +kernel
theorem dX2_workOut_45 : decode cX2_workOut 45 = .ok (.sipush 200, 3) := by decide +kernel
theorem dX2_workOut_48 : decode cX2_workOut 48 = .ok (.if_icmp .ge 40, 3) := by decide +kernel
theorem dX2_workOut_51 : decode cX2_workOut 51 = .ok (.iconst 0, 1) := by decide +kernel
theorem dX2_workOut_52 : decode cX2_workOut 52 = .ok (.istore_n 3, 1) := by decide +kernel
theorem dX2_workOut_53 : decode cX2_workOut 53 = .ok (.iload_n 3, 1) := by decide +kernel
theorem dX2_workOut_54 : decode cX2_workOut 54 = .ok (.bipush 8, 2) := by decide +kernel
theorem dX2_workOut_56 : decode cX2_workOut 56 = .ok (.if_icmp .ge 26, 3) := by decide +kernel
theorem dX2_workOut_59 : decode cX2_workOut 59 = .ok (.aload_n 0, 1) := by decide +kernel
theorem dX2_workOut_60 : decode cX2_workOut 60 = .ok (.getfield 9, 3) := by decide +kernel
theorem dX2_workOut_63 : decode cX2_workOut 63 = .ok (.iload_n 2, 1) := by decide +kernel
theorem dX2_workOut_64 : decode cX2_workOut 64 = .ok (.bipush 8, 2) := by decide +kernel
theorem dX2_workOut_66 : decode cX2_workOut 66 = .ok (.imul, 1) := by decide +kernel
theorem dX2_workOut_67 : decode cX2_workOut 67 = .ok (.iload_n 3, 1) := by decide +kernel
theorem dX2_workOut_68 : decode cX2_workOut 68 = .ok (.iadd, 1) := by decide +kernel
theorem dX2_workOut_69 : decode cX2_workOut 69 = .ok (.aload_n 0, 1) := by decide +kernel
theorem dX2_workOut_70 : decode cX2_workOut 70 = .ok (.iload_n 2, 1) := by decide +kernel
theorem dX2_workOut_71 : decode cX2_workOut 71 = .ok (.iload_n 3, 1) := by decide +kernel
theorem dX2_workOut_72 : decode cX2_workOut 72 = .ok (.invokevirtual 73, 3) := by decide +kernel
theorem dX2_workOut_75 : decode cX2_workOut 75 = .ok (.lastore, 1) := by decide +kernel
theorem dX2_workOut_76 : decode cX2_workOut 76 = .ok (.iinc 3 1, 3) := by decide +kernel
theorem dX2_workOut_79 : decode cX2_workOut 79 = .ok (.goto (-26), 3) := by decide +kernel
theorem dX2_workOut_82 : decode cX2_workOut 82 = .ok (.iinc 2 1, 3) := by decide +kernel
theorem dX2_workOut_85 : decode cX2_workOut 85 = .ok (.goto (-52), 3) := by decide +kernel
theorem dX2_workOut_88 : decode cX2_workOut 88 = .ok (.iconst 0, 1) := by decide +kernel
theorem dX2_workOut_89 : decode cX2_workOut 89 = .ok (.istore_n 2, 1) := by decide +kernel
theorem dX2_workOut_90 : decode cX2_workOut 90 = .ok (.iload_n 2, 1) := by decide +kernel
theorem dX2_workOut_91 : decode cX2_workOut 91 = .ok (.aload_n 0, 1) := by decide +kernel
theorem dX2_workOut_92 : decode cX2_workOut 92 = .ok (.getfield 54, 3) := by decide +kernel
theorem dX2_workOut_95 : decode cX2_workOut 95 = .ok (.getfield 55, 3) := by decide +kernel
theorem dX2_workOut_98 : decode cX2_workOut 98 = .ok (.if_icmp .ge 77, 3) := by decide +kernel
theorem dX2_workOut_101 : decode cX2_workOut 101 = .ok (.iload_n 2, 1) := by decide +kernel
theorem dX2_workOut_102 : decode cX2_workOut 102 = .ok (.bipush 9, 2) := by decide +kernel
theorem dX2_workOut_104 : decode cX2_workOut 104 = .ok (.if_icmp .ge 71, 3) := by decide +kernel
theorem dX2_workOut_107 : decode cX2_workOut 107 = .ok (.iconst 0, 1) := by decide +kernel
theorem dX2_workOut_108 : decode cX2_workOut 108 = .ok (.istore_n 3, 1) := by decide +kernel
theorem dX2_workOut_109 : decode cX2_workOut 109 = .ok (.iload_n 3, 1) := by decide +kernel
theorem dX2_workOut_110 : decode cX2_workOut 110 = .ok (.bipush 8, 2) := by decide +kernel
theorem dX2_workOut_112 : decode cX2_workOut 112 = .ok (.if_icmp .ge 57, 3) := by decide +kernel
theorem dX2_workOut_115 : decode cX2_workOut 115 = .ok (.aload_n 0, 1) := by decide +kernel
theorem dX2_workOut_116 : decode cX2_workOut 116 = .ok (.aload_n 0, 1) := by decide +kernel
theorem dX2_workOut_117 : decode cX2_workOut 117 = .ok (.getfield 54, 3) := by decide +kernel
theorem dX2_workOut_120 : decode cX2_workOut 120 = .ok (.iload_n 2, 1) := by decide +kernel
theorem dX2_workOut_121 : decode cX2_workOut 121 = .ok (.invokevirtual 77, 3) := by decide +kernel
theorem dX2_workOut_124 : decode cX2_workOut 124 = .ok (.iload_n 3, 1) := by decide +kernel
theorem dX2_workOut_125 : decode cX2_workOut 125 = .ok (.invokevirtual 81, 3) := by decide +kernel
theorem dX2_workOut_128 : decode cX2_workOut 128 = .ok (.lstore 4, 2) := by decide +kernel
theorem dX2_workOut_130 : decode cX2_workOut 130 = .ok (.aload_n 0, 1) := by decide +kernel
theorem dX2_workOut_131 : decode cX2_workOut 131 = .ok (.getfield 15, 3) := by decide +kernel
theorem dX2_workOut_134 : decode cX2_workOut 134 = .ok (.iload_n 2, 1) := by decide +kernel
theorem dX2_workOut_135 : decode cX2_workOut 135 = .ok (.bipush 8, 2) := by decide +kernel
theorem dX2_workOut_137 : decode cX2_workOut 137 = .ok (.imul, 1) := by decide +kernel
theorem dX2_workOut_138 : decode cX2_workOut 138 = .ok (.iload_n 3, 1) := by decide +kernel
theorem dX2_workOut_139 : decode cX2_workOut 139 = .ok (.iadd, 1) := by decide +kernel
theorem dX2_workOut_140 : decode cX2_workOut 140 = .ok (.aload_n 0, 1) := by decide +kernel
theorem dX2_workOut_141 : decode cX2_workOut 141 = .ok (.getfield 54, 3) := by decide +kernel
theorem dX2_workOut_144 : decode cX2_workOut 144 = .ok (.iload_n 2, 1) := by decide +kernel
theorem dX2_workOut_145 : decode cX2_workOut 145 = .ok (.invokevirtual 84, 3) := by decide +kernel
theorem dX2_workOut_148 : decode cX2_workOut 148 = .ok (.ifCond .eq 12, 3) := by decide +kernel
theorem dX2_workOut_151 : decode cX2_workOut 151 = .ok (.lload 4, 2) := by decide +kernel
theorem dX2_workOut_153 : decode cX2_workOut 153 = .ok (.ldc2_w 88, 3) := by decide +kernel
theorem dX2_workOut_156 : decode cX2_workOut 156 = .ok (.lxor, 1) := by decide +kernel
theorem dX2_workOut_157 : decode cX2_workOut 157 = .ok (.goto 5, 3) := by decide +kernel
theorem dX2_workOut_160 : decode cX2_workOut 160 = .ok (.lload 4, 2) := by decide +kernel
theorem dX2_workOut_162 : decode cX2_workOut 162 = .ok (.lastore, 1) := by decide +kernel
theorem dX2_workOut_163 : decode cX2_workOut 163 = .ok (.iinc 3 1, 3) := by decide +kernel
theorem dX2_workOut_166 : decode cX2_workOut 166 = .ok (.goto (-57), 3) := by decide +kernel
theorem dX2_workOut_169 : decode cX2_workOut 169 = .ok (.iinc 2 1, 3) := by decide +kernel
theorem dX2_workOut_172 : decode cX2_workOut 172 = .ok (.goto (-82), 3) := by decide +kernel
theorem dX2_workOut_175 : decode cX2_workOut 175 = .ok (.aload_n 0, 1) := by decide +kernel
theorem dX2_workOut_176 : decode cX2_workOut 176 = .ok (.invokevirtual 90, 3) := by decide +kernel
theorem dX2_workOut_179 : decode cX2_workOut 179 = .ok (.aload_n 0, 1) := by decide +kernel
theorem dX2_workOut_180 : decode cX2_workOut 180 = .ok (.iconst 1, 1) := by decide +kernel
theorem dX2_workOut_181 : decode cX2_workOut 181 = .ok (.aload_n 0, 1) := by decide +kernel
theorem dX2_workOut_182 : decode cX2_workOut 182 = .ok (.getfield 44, 3) := by decide +kernel
theorem dX2_workOut_185 : decode cX2_workOut 185 = .ok (.getfield 93, 3) := by decide +kernel
theorem dX2_workOut_188 : decode cX2_workOut 188 = .ok (.ishl, 1) := by decide +kernel
theorem dX2_workOut_189 : decode cX2_workOut 189 = .ok (.iconst 1, 1) := by decide +kernel
theorem dX2_workOut_190 : decode cX2_workOut 190 = .ok (.isub, 1) := by decide +kernel
theorem dX2_workOut_191 : decode cX2_workOut 191 = .ok (.aload_n 0, 1) := by decide +kernel
theorem dX2_workOut_192 : decode cX2_workOut 192 = .ok (.getfield 25, 3) := by decide +kernel
theorem dX2_workOut_195 : decode cX2_workOut 195 = .ok (.invokevirtual 96, 3) := by decide +kernel
theorem dX2_workOut_198 : decode cX2_workOut 198 = .ok (.aload_n 0, 1) := by decide +kernel
theorem dX2_workOut_199 : decode cX2_workOut 199 = .ok (.getfield 25, 3) := by decide +kernel
theorem dX2_workOut_202 : decode cX2_workOut 202 = .ok (.iconst 0, 1) := by decide +kernel
theorem dX2_workOut_203 : decode cX2_workOut 203 = .ok (.aload_n 0, 1) := by decide +kernel
theorem dX2_workOut_204 : decode cX2_workOut 204 = .ok (.getfield 28, 3) := by decide +kernel
theorem dX2_workOut_207 : decode cX2_workOut 207 = .ok (.iconst 0, 1) := by decide +kernel
theorem dX2_workOut_208 : decode cX2_workOut 208 = .ok (.bipush 8, 2) := by decide +kernel
theorem dX2_workOut_210 : decode cX2_workOut 210 = .ok (.invokestatic 100, 3) := by decide +kernel
theorem dX2_workOut_213 : decode cX2_workOut 213 = .ok (.iconst 0, 1) := by decide +kernel
theorem dX2_workOut_214 : decode cX2_workOut 214 = .ok (.istore_n 2, 1) := by decide +kernel
theorem dX2_workOut_215 : decode cX2_workOut 215 = .ok (.iload_n 2, 1) := by decide +kernel
theorem dX2_workOut_216 : decode cX2_workOut 216 = .ok (.aload_n 0, 1) := by decide +kernel
theorem dX2_workOut_217 : decode cX2_workOut 217 = .ok (.getfield 67, 3) := by decide +kernel
theorem dX2_workOut_220 : decode cX2_workOut 220 = .ok (.if_icmp .ge 39, 3) := by decide +kernel
theorem dX2_workOut_223 : decode cX2_workOut 223 = .ok (.iload_n 2, 1) := by decide +kernel
theorem dX2_workOut_224 : decode cX2_workOut 224 = .ok (.sipush 512, 3) := by decide +kernel
theorem dX2_workOut_227 : decode cX2_workOut 227 = .ok (.if_icmp .ge 32, 3) := by decide +kernel
theorem dX2_workOut_230 : decode cX2_workOut 230 = .ok (.aload_n 0, 1) := by decide +kernel
theorem dX2_workOut_231 : decode cX2_workOut 231 = .ok (.getfield 40, 3) := by decide +kernel
theorem dX2_workOut_234 : decode cX2_workOut 234 = .ok (.iload_n 2, 1) := by decide +kernel
theorem dX2_workOut_235 : decode cX2_workOut 235 = .ok (.aload_n 0, 1) := by decide +kernel
theorem dX2_workOut_236 : decode cX2_workOut 236 = .ok (.getfield 25, 3) := by decide +kernel
theorem dX2_workOut_239 : decode cX2_workOut 239 = .ok (.iload_n 2, 1) := by decide +kernel
theorem dX2_workOut_240 : decode cX2_workOut 240 = .ok (.invokestatic 106, 3) := by decide +kernel
theorem dX2_workOut_243 : decode cX2_workOut 243 = .ok (.ifCond .eq 7, 3) := by decide +kernel
theorem dX2_workOut_246 : decode cX2_workOut 246 = .ok (.iconst (-1), 1) := by decide +kernel
theorem dX2_workOut_247 : decode cX2_workOut 247 = .ok (.goto 4, 3) := by decide +kernel
theorem dX2_workOut_250 : decode cX2_workOut 250 = .ok (.iconst 0, 1) := by decide +kernel
theorem dX2_workOut_251 : decode cX2_workOut 251 = .ok (.i2s, 1) := by decide +kernel
theorem dX2_workOut_252 : decode cX2_workOut 252 = .ok (.sastore, 1) := by decide +kernel
theorem dX2_workOut_253 : decode cX2_workOut 253 = .ok (.iinc 2 1, 3) := by decide +kernel
theorem dX2_workOut_256 : decode cX2_workOut 256 = .ok (.goto (-41), 3) := by decide +kernel
theorem dX2_workOut_259 : decode cX2_workOut 259 = .ok (.aload_n 0, 1) := by decide +kernel
theorem dX2_workOut_260 : decode cX2_workOut 260 = .ok (.aload_n 0, 1) := by decide +kernel
theorem dX2_workOut_261 : decode cX2_workOut 261 = .ok (.aload_n 0, 1) := by decide +kernel
theorem dX2_workOut_262 : decode cX2_workOut 262 = .ok (.getfield 28, 3) := by decide +kernel
theorem dX2_workOut_265 : decode cX2_workOut 265 = .ok (.iconst 1, 1) := by decide +kernel
theorem dX2_workOut_266 : decode cX2_workOut 266 = .ok (.invokevirtual 110, 3) := by decide +kernel
theorem dX2_workOut_269 : decode cX2_workOut 269 = .ok (.putfield 114, 3) := by decide +kernel
theorem dX2_workOut_272 : decode cX2_workOut 272 = .ok (.return_, 1) := by decide +kernel
set_option maxRecDepth 20000 in
theorem ggX2_truthWord_X1_leftOf : GoodIn wsX2_truthWord wsX1_leftOf := goodIn_r _ [7, 8, 9, 55, 56, 57, 58, 59, 60, 61, 62, 63, 64] (by decide +kernel) (by decide +kernel)
set_option maxRecDepth 20000 in
theorem gX2_truthWord_X1_leftOf : GoodIn wsX2_truthWord (wsV RX2 117 RX1 yX1_leftOf wsX1_leftOf) := goodIn_app (goodIn_of _ (by decide +kernel)) ggX2_truthWord_X1_leftOf
set_option maxRecDepth 20000 in
theorem ggX2_truthWord_X1_rightOf : GoodIn wsX2_truthWord wsX1_rightOf := goodIn_r _ [13, 8, 14, 55, 56, 57, 58, 59, 60, 61, 62, 63, 64] (by decide +kernel) (by decide +kernel)
set_option maxRecDepth 20000 in
theorem gX2_truthWord_X1_rightOf : GoodIn wsX2_truthWord (wsV RX2 120 RX1 yX1_rightOf wsX1_rightOf) := goodIn_app (goodIn_of _ (by decide +kernel)) ggX2_truthWord_X1_rightOf
set_option maxRecDepth 20000 in
theorem ggX2_truthWord_X1_sortOf : GoodIn wsX2_truthWord wsX1_sortOf := goodIn_r _ [18, 8, 19, 55, 56, 57, 58, 59, 60, 61, 62, 63, 64] (by decide +kernel) (by decide +kernel)
set_option maxRecDepth 20000 in
theorem gX2_truthWord_X1_sortOf : GoodIn wsX2_truthWord (wsV RX2 123 RX1 yX1_sortOf wsX1_sortOf) := goodIn_app (goodIn_of _ (by decide +kernel)) ggX2_truthWord_X1_sortOf
set_option maxRecDepth 20000 in
theorem ggX2_truthWord_X2_truthOf : GoodIn wsX2_truthWord wsX2_truthOf := goodIn_r _ [24, 25, 40, 41, 42, 43, 44, 45, 46, 47, 48, 49, 50, 51, 52, 53, 54] (by decide +kernel) (by decide +kernel)
set_option maxRecDepth 20000 in
theorem gX2_truthWord_X2_truthOf : GoodIn wsX2_truthWord (wsV RX2 81 RX2 yX2_truthOf wsX2_truthOf) := goodIn_app (goodIn_of _ (by decide +kernel)) ggX2_truthWord_X2_truthOf
set_option maxRecDepth 20000 in
theorem ggX2_truthWord_X1_atomOf : GoodIn wsX2_truthWord wsX1_atomOf := goodIn_r _ [29, 8, 30, 55, 56, 57, 58, 59, 60, 61, 62, 63, 64] (by decide +kernel) (by decide +kernel)
set_option maxRecDepth 20000 in
theorem gX2_truthWord_X1_atomOf : GoodIn wsX2_truthWord (wsV RX2 126 RX1 yX1_atomOf wsX1_atomOf) := goodIn_app (goodIn_of _ (by decide +kernel)) ggX2_truthWord_X1_atomOf
set_option maxRecDepth 20000 in
theorem ggX2_truthWord_X2_bitPattern : GoodIn wsX2_truthWord wsX2_bitPattern := goodIn_r _ [33, 34, 35, 36, 37, 38, 39, 2] (by decide +kernel) (by decide +kernel)
set_option maxRecDepth 20000 in
theorem gX2_truthWord_X2_bitPattern : GoodIn wsX2_truthWord (va_wsS RX2 129 yX2_bitPattern wsX2_bitPattern) := goodIn_app (goodIn_of _ (by decide +kernel)) ggX2_truthWord_X2_bitPattern
theorem dX2_truthWord_0 : decode cX2_truthWord 0 = .ok (.aload_n 0, 1) := by decide +kernel
theorem dX2_truthWord_1 : decode cX2_truthWord 1 = .ok (.getfield 54, 3) := by decide +kernel
theorem dX2_truthWord_4 : decode cX2_truthWord 4 = .ok (.iload_n 1, 1) := by decide +kernel
theorem dX2_truthWord_5 : decode cX2_truthWord 5 = .ok (.invokevirtual 117, 3) := by decide +kernel
theorem dX2_truthWord_8 : decode cX2_truthWord 8 = .ok (.istore_n 3, 1) := by decide +kernel
theorem dX2_truthWord_9 : decode cX2_truthWord 9 = .ok (.aload_n 0, 1) := by decide +kernel
theorem dX2_truthWord_10 : decode cX2_truthWord 10 = .ok (.getfield 54, 3) := by decide +kernel
theorem dX2_truthWord_13 : decode cX2_truthWord 13 = .ok (.iload_n 1, 1) := by decide +kernel
theorem dX2_truthWord_14 : decode cX2_truthWord 14 = .ok (.invokevirtual 120, 3) := by decide +kernel
theorem dX2_truthWord_17 : decode cX2_truthWord 17 = .ok (.istore 4, 2) := by decide +kernel
theorem dX2_truthWord_19 : decode cX2_truthWord 19 = .ok (.aload_n 0, 1) := by decide +kernel
theorem dX2_truthWord_20 : decode cX2_truthWord 20 = .ok (.getfield 54, 3) := by decide +kernel
theorem dX2_truthWord_23 : decode cX2_truthWord 23 = .ok (.iload_n 1, 1) := by decide +kernel
theorem dX2_truthWord_24 : decode cX2_truthWord 24 = .ok (.invokevirtual 123, 3) := by decide +kernel
theorem dX2_truthWord_27 : decode cX2_truthWord 27 = .ok (.tableswitch 105 1 7 #[41, 45, 47, 105, 88, 58, 73], 41) := by decide +kernel
theorem dX2_truthWord_68 : decode cX2_truthWord 68 = .ok (.ldc2_w 88, 3) := by decide +kernel
theorem dX2_truthWord_71 : decode cX2_truthWord 71 = .ok (.lreturn, 1) := by decide +kernel
theorem dX2_truthWord_72 : decode cX2_truthWord 72 = .ok (.lconst 0, 1) := by decide +kernel
theorem dX2_truthWord_73 : decode cX2_truthWord 73 = .ok (.lreturn, 1) := by decide +kernel
theorem dX2_truthWord_74 : decode cX2_truthWord 74 = .ok (.aload_n 0, 1) := by decide +kernel
theorem dX2_truthWord_75 : decode cX2_truthWord 75 = .ok (.iload_n 3, 1) := by decide +kernel
theorem dX2_truthWord_76 : decode cX2_truthWord 76 = .ok (.iload_n 2, 1) := by decide +kernel
theorem dX2_truthWord_77 : decode cX2_truthWord 77 = .ok (.invokevirtual 81, 3) := by decide +kernel
theorem dX2_truthWord_80 : decode cX2_truthWord 80 = .ok (.ldc2_w 88, 3) := by decide +kernel
theorem dX2_truthWord_83 : decode cX2_truthWord 83 = .ok (.lxor, 1) := by decide +kernel
theorem dX2_truthWord_84 : decode cX2_truthWord 84 = .ok (.lreturn, 1) := by decide +kernel
theorem dX2_truthWord_85 : decode cX2_truthWord 85 = .ok (.aload_n 0, 1) := by decide +kernel
theorem dX2_truthWord_86 : decode cX2_truthWord 86 = .ok (.iload_n 3, 1) := by decide +kernel
theorem dX2_truthWord_87 : decode cX2_truthWord 87 = .ok (.iload_n 2, 1) := by decide +kernel
theorem dX2_truthWord_88 : decode cX2_truthWord 88 = .ok (.invokevirtual 81, 3) := by decide +kernel
theorem dX2_truthWord_91 : decode cX2_truthWord 91 = .ok (.aload_n 0, 1) := by decide +kernel
theorem dX2_truthWord_92 : decode cX2_truthWord 92 = .ok (.iload 4, 2) := by decide +kernel
theorem dX2_truthWord_94 : decode cX2_truthWord 94 = .ok (.iload_n 2, 1) := by decide +kernel
theorem dX2_truthWord_95 : decode cX2_truthWord 95 = .ok (.invokevirtual 81, 3) := by decide +kernel
theorem dX2_truthWord_98 : decode cX2_truthWord 98 = .ok (.land, 1) := by decide +kernel
theorem dX2_truthWord_99 : decode cX2_truthWord 99 = .ok (.lreturn, 1) := by decide +kernel
theorem dX2_truthWord_100 : decode cX2_truthWord 100 = .ok (.aload_n 0, 1) := by decide +kernel
theorem dX2_truthWord_101 : decode cX2_truthWord 101 = .ok (.iload_n 3, 1) := by decide +kernel
theorem dX2_truthWord_102 : decode cX2_truthWord 102 = .ok (.iload_n 2, 1) := by decide +kernel
theorem dX2_truthWord_103 : decode cX2_truthWord 103 = .ok (.invokevirtual 81, 3) := by decide +kernel
theorem dX2_truthWord_106 : decode cX2_truthWord 106 = .ok (.aload_n 0, 1) := by decide +kernel
theorem dX2_truthWord_107 : decode cX2_truthWord 107 = .ok (.iload 4, 2) := by decide +kernel
theorem dX2_truthWord_109 : decode cX2_truthWord 109 = .ok (.iload_n 2, 1) := by decide +kernel
theorem dX2_truthWord_110 : decode cX2_truthWord 110 = .ok (.invokevirtual 81, 3) := by decide +kernel
theorem dX2_truthWord_113 : decode cX2_truthWord 113 = .ok (.lor, 1) := by decide +kernel
theorem dX2_truthWord_114 : decode cX2_truthWord 114 = .ok (.lreturn, 1) := by decide +kernel
theorem dX2_truthWord_115 : decode cX2_truthWord 115 = .ok (.aload_n 0, 1) := by decide +kernel
theorem dX2_truthWord_116 : decode cX2_truthWord 116 = .ok (.getfield 54, 3) := by decide +kernel
theorem dX2_truthWord_119 : decode cX2_truthWord 119 = .ok (.iload_n 1, 1) := by decide +kernel
theorem dX2_truthWord_120 : decode cX2_truthWord 120 = .ok (.invokevirtual 126, 3) := by decide +kernel
theorem dX2_truthWord_123 : decode cX2_truthWord 123 = .ok (.iload_n 2, 1) := by decide +kernel
theorem dX2_truthWord_124 : decode cX2_truthWord 124 = .ok (.invokestatic 129, 3) := by decide +kernel
theorem dX2_truthWord_127 : decode cX2_truthWord 127 = .ok (.ldc2_w 88, 3) := by decide +kernel
theorem dX2_truthWord_130 : decode cX2_truthWord 130 = .ok (.lxor, 1) := by decide +kernel
theorem dX2_truthWord_131 : decode cX2_truthWord 131 = .ok (.lreturn, 1) := by decide +kernel
theorem dX2_truthWord_132 : decode cX2_truthWord 132 = .ok (.aload_n 0, 1) := by decide +kernel
theorem dX2_truthWord_133 : decode cX2_truthWord 133 = .ok (.getfield 54, 3) := by decide +kernel
theorem dX2_truthWord_136 : decode cX2_truthWord 136 = .ok (.iload_n 1, 1) := by decide +kernel
theorem dX2_truthWord_137 : decode cX2_truthWord 137 = .ok (.invokevirtual 126, 3) := by decide +kernel
theorem dX2_truthWord_140 : decode cX2_truthWord 140 = .ok (.iload_n 2, 1) := by decide +kernel
theorem dX2_truthWord_141 : decode cX2_truthWord 141 = .ok (.invokestatic 129, 3) := by decide +kernel
theorem dX2_truthWord_144 : decode cX2_truthWord 144 = .ok (.lreturn, 1) := by decide +kernel
theorem dX2_truthOf_0 : decode cX2_truthOf 0 = .ok (.iload_n 1, 1) := by decide +kernel
theorem dX2_truthOf_1 : decode cX2_truthOf 1 = .ok (.ifCond .lt 34, 3) := by decide +kernel
theorem dX2_truthOf_4 : decode cX2_truthOf 4 = .ok (.iload_n 1, 1) := by decide +kernel
theorem dX2_truthOf_5 : decode cX2_truthOf 5 = .ok (.sipush 200, 3) := by decide +kernel
theorem dX2_truthOf_8 : decode cX2_truthOf 8 = .ok (.if_icmp .ge 27, 3) := by decide +kernel
theorem dX2_truthOf_11 : decode cX2_truthOf 11 = .ok (.iload_n 2, 1) := by decide +kernel
theorem dX2_truthOf_12 : decode cX2_truthOf 12 = .ok (.ifCond .lt 23, 3) := by decide +kernel
theorem dX2_truthOf_15 : decode cX2_truthOf 15 = .ok (.iload_n 2, 1) := by decide +kernel
theorem dX2_truthOf_16 : decode cX2_truthOf 16 = .ok (.bipush 8, 2) := by decide +kernel
theorem dX2_truthOf_18 : decode cX2_truthOf 18 = .ok (.if_icmp .ge 17, 3) := by decide +kernel
theorem dX2_truthOf_21 : decode cX2_truthOf 21 = .ok (.aload_n 0, 1) := by decide +kernel
theorem dX2_truthOf_22 : decode cX2_truthOf 22 = .ok (.getfield 9, 3) := by decide +kernel
theorem dX2_truthOf_25 : decode cX2_truthOf 25 = .ok (.iload_n 1, 1) := by decide +kernel
theorem dX2_truthOf_26 : decode cX2_truthOf 26 = .ok (.bipush 8, 2) := by decide +kernel
theorem dX2_truthOf_28 : decode cX2_truthOf 28 = .ok (.imul, 1) := by decide +kernel
theorem dX2_truthOf_29 : decode cX2_truthOf 29 = .ok (.iload_n 2, 1) := by decide +kernel
theorem dX2_truthOf_30 : decode cX2_truthOf 30 = .ok (.iadd, 1) := by decide +kernel
theorem dX2_truthOf_31 : decode cX2_truthOf 31 = .ok (.laload, 1) := by decide +kernel
theorem dX2_truthOf_32 : decode cX2_truthOf 32 = .ok (.goto 4, 3) := by decide +kernel
theorem dX2_truthOf_35 : decode cX2_truthOf 35 = .ok (.lconst 0, 1) := by decide +kernel
theorem dX2_truthOf_36 : decode cX2_truthOf 36 = .ok (.lreturn, 1) := by decide +kernel
theorem dX2_bitPattern_0 : decode cX2_bitPattern 0 = .ok (.iload_n 0, 1) := by decide +kernel
theorem dX2_bitPattern_1 : decode cX2_bitPattern 1 = .ok (.tableswitch 63 0 5 #[39, 43, 47, 51, 55, 59], 39) := by decide +kernel
theorem dX2_bitPattern_40 : decode cX2_bitPattern 40 = .ok (.ldc2_w 132, 3) := by decide +kernel
theorem dX2_bitPattern_43 : decode cX2_bitPattern 43 = .ok (.lreturn, 1) := by decide +kernel
theorem dX2_bitPattern_44 : decode cX2_bitPattern 44 = .ok (.ldc2_w 134, 3) := by decide +kernel
theorem dX2_bitPattern_47 : decode cX2_bitPattern 47 = .ok (.lreturn, 1) := by decide +kernel
theorem dX2_bitPattern_48 : decode cX2_bitPattern 48 = .ok (.ldc2_w 136, 3) := by decide +kernel
theorem dX2_bitPattern_51 : decode cX2_bitPattern 51 = .ok (.lreturn, 1) := by decide +kernel
theorem dX2_bitPattern_52 : decode cX2_bitPattern 52 = .ok (.ldc2_w 138, 3) := by decide +kernel
theorem dX2_bitPattern_55 : decode cX2_bitPattern 55 = .ok (.lreturn, 1) := by decide +kernel
theorem dX2_bitPattern_56 : decode cX2_bitPattern 56 = .ok (.ldc2_w 140, 3) := by decide +kernel
theorem dX2_bitPattern_59 : decode cX2_bitPattern 59 = .ok (.lreturn, 1) := by decide +kernel
theorem dX2_bitPattern_60 : decode cX2_bitPattern 60 = .ok (.ldc2_w 142, 3) := by decide +kernel
theorem dX2_bitPattern_63 : decode cX2_bitPattern 63 = .ok (.lreturn, 1) := by decide +kernel
theorem dX2_bitPattern_64 : decode cX2_bitPattern 64 = .ok (.iload_n 0, 1) := by decide +kernel
theorem dX2_bitPattern_65 : decode cX2_bitPattern 65 = .ok (.iconst 5, 1) := by decide +kernel
theorem dX2_bitPattern_66 : decode cX2_bitPattern 66 = .ok (.if_icmp .le 21, 3) := by decide +kernel
theorem dX2_bitPattern_69 : decode cX2_bitPattern 69 = .ok (.iload_n 1, 1) := by decide +kernel
theorem dX2_bitPattern_70 : decode cX2_bitPattern 70 = .ok (.iload_n 0, 1) := by decide +kernel
theorem dX2_bitPattern_71 : decode cX2_bitPattern 71 = .ok (.bipush 6, 2) := by decide +kernel
theorem dX2_bitPattern_73 : decode cX2_bitPattern 73 = .ok (.isub, 1) := by decide +kernel
theorem dX2_bitPattern_74 : decode cX2_bitPattern 74 = .ok (.ishr, 1) := by decide +kernel
theorem dX2_bitPattern_75 : decode cX2_bitPattern 75 = .ok (.iconst 1, 1) := by decide +kernel
theorem dX2_bitPattern_76 : decode cX2_bitPattern 76 = .ok (.iand, 1) := by decide +kernel
theorem dX2_bitPattern_77 : decode cX2_bitPattern 77 = .ok (.iconst 1, 1) := by decide +kernel
theorem dX2_bitPattern_78 : decode cX2_bitPattern 78 = .ok (.if_icmp .ne 9, 3) := by decide +kernel
theorem dX2_bitPattern_81 : decode cX2_bitPattern 81 = .ok (.ldc2_w 88, 3) := by decide +kernel
theorem dX2_bitPattern_84 : decode cX2_bitPattern 84 = .ok (.goto 4, 3) := by decide +kernel
theorem dX2_bitPattern_87 : decode cX2_bitPattern 87 = .ok (.lconst 0, 1) := by decide +kernel
theorem dX2_bitPattern_88 : decode cX2_bitPattern 88 = .ok (.lreturn, 1) := by decide +kernel
set_option maxRecDepth 20000 in
theorem ggX2_gatherAtoms_X1_roleOfAtom : GoodIn wsX2_gatherAtoms wsX1_roleOfAtom := goodIn_r _ [11, 12, 13, 39, 40, 41, 42, 43, 44, 45, 46, 47, 48] (by decide +kernel) (by decide +kernel)
set_option maxRecDepth 20000 in
theorem gX2_gatherAtoms_X1_roleOfAtom : GoodIn wsX2_gatherAtoms (wsV RX2 147 RX1 yX1_roleOfAtom wsX1_roleOfAtom) := goodIn_app (goodIn_of _ (by decide +kernel)) ggX2_gatherAtoms_X1_roleOfAtom
set_option maxRecDepth 20000 in
theorem ggX2_gatherAtoms_X0_isRoleUnder : GoodIn wsX2_gatherAtoms wsX0_isRoleUnder := goodIn_r _ [18, 19, 20, 21, 17, 22, 23, 49, 50, 51, 52, 53, 54, 55, 56, 57, 58, 59, 60, 61, 62, 63] (by decide +kernel) (by decide +kernel)
set_option maxRecDepth 20000 in
theorem gX2_gatherAtoms_X0_isRoleUnder : GoodIn wsX2_gatherAtoms (wsV RX2 150 RX0 yX0_isRoleUnder wsX0_isRoleUnder) := goodIn_app (goodIn_of _ (by decide +kernel)) ggX2_gatherAtoms_X0_isRoleUnder
theorem dX2_gatherAtoms_0 : decode cX2_gatherAtoms 0 = .ok (.aload_n 0, 1) := by decide +kernel
theorem dX2_gatherAtoms_1 : decode cX2_gatherAtoms 1 = .ok (.iconst 0, 1) := by decide +kernel
theorem dX2_gatherAtoms_2 : decode cX2_gatherAtoms 2 = .ok (.putfield 144, 3) := by decide +kernel
theorem dX2_gatherAtoms_5 : decode cX2_gatherAtoms 5 = .ok (.iconst 0, 1) := by decide +kernel
theorem dX2_gatherAtoms_6 : decode cX2_gatherAtoms 6 = .ok (.istore_n 1, 1) := by decide +kernel
theorem dX2_gatherAtoms_7 : decode cX2_gatherAtoms 7 = .ok (.iload_n 1, 1) := by decide +kernel
theorem dX2_gatherAtoms_8 : decode cX2_gatherAtoms 8 = .ok (.iconst 3, 1) := by decide +kernel
theorem dX2_gatherAtoms_9 : decode cX2_gatherAtoms 9 = .ok (.if_icmp .ge 117, 3) := by decide +kernel
theorem dX2_gatherAtoms_12 : decode cX2_gatherAtoms 12 = .ok (.aload_n 0, 1) := by decide +kernel
theorem dX2_gatherAtoms_13 : decode cX2_gatherAtoms 13 = .ok (.getfield 18, 3) := by decide +kernel
theorem dX2_gatherAtoms_16 : decode cX2_gatherAtoms 16 = .ok (.iload_n 1, 1) := by decide +kernel
theorem dX2_gatherAtoms_17 : decode cX2_gatherAtoms 17 = .ok (.iconst 0, 1) := by decide +kernel
theorem dX2_gatherAtoms_18 : decode cX2_gatherAtoms 18 = .ok (.iastore, 1) := by decide +kernel
theorem dX2_gatherAtoms_19 : decode cX2_gatherAtoms 19 = .ok (.aload_n 0, 1) := by decide +kernel
theorem dX2_gatherAtoms_20 : decode cX2_gatherAtoms 20 = .ok (.getfield 22, 3) := by decide +kernel
theorem dX2_gatherAtoms_23 : decode cX2_gatherAtoms 23 = .ok (.iload_n 1, 1) := by decide +kernel
theorem dX2_gatherAtoms_24 : decode cX2_gatherAtoms 24 = .ok (.iconst 0, 1) := by decide +kernel
theorem dX2_gatherAtoms_25 : decode cX2_gatherAtoms 25 = .ok (.iastore, 1) := by decide +kernel
theorem dX2_gatherAtoms_26 : decode cX2_gatherAtoms 26 = .ok (.iconst 0, 1) := by decide +kernel
theorem dX2_gatherAtoms_27 : decode cX2_gatherAtoms 27 = .ok (.istore_n 2, 1) := by decide +kernel
theorem dX2_gatherAtoms_28 : decode cX2_gatherAtoms 28 = .ok (.iload_n 2, 1) := by decide +kernel
theorem dX2_gatherAtoms_29 : decode cX2_gatherAtoms 29 = .ok (.aload_n 0, 1) := by decide +kernel
theorem dX2_gatherAtoms_30 : decode cX2_gatherAtoms 30 = .ok (.getfield 54, 3) := by decide +kernel
theorem dX2_gatherAtoms_33 : decode cX2_gatherAtoms 33 = .ok (.getfield 55, 3) := by decide +kernel
theorem dX2_gatherAtoms_36 : decode cX2_gatherAtoms 36 = .ok (.if_icmp .ge 69, 3) := by decide +kernel
theorem dX2_gatherAtoms_39 : decode cX2_gatherAtoms 39 = .ok (.aload_n 0, 1) := by decide +kernel
theorem dX2_gatherAtoms_40 : decode cX2_gatherAtoms 40 = .ok (.getfield 54, 3) := by decide +kernel
theorem dX2_gatherAtoms_43 : decode cX2_gatherAtoms 43 = .ok (.iload_n 2, 1) := by decide +kernel
theorem dX2_gatherAtoms_44 : decode cX2_gatherAtoms 44 = .ok (.invokevirtual 147, 3) := by decide +kernel
theorem dX2_gatherAtoms_47 : decode cX2_gatherAtoms 47 = .ok (.istore_n 3, 1) := by decide +kernel
theorem dX2_gatherAtoms_48 : decode cX2_gatherAtoms 48 = .ok (.iload_n 3, 1) := by decide +kernel
theorem dX2_gatherAtoms_49 : decode cX2_gatherAtoms 49 = .ok (.iload_n 1, 1) := by decide +kernel
theorem dX2_gatherAtoms_50 : decode cX2_gatherAtoms 50 = .ok (.if_icmp .ne 15, 3) := by decide +kernel
theorem dX2_gatherAtoms_53 : decode cX2_gatherAtoms 53 = .ok (.aload_n 0, 1) := by decide +kernel
theorem dX2_gatherAtoms_54 : decode cX2_gatherAtoms 54 = .ok (.getfield 18, 3) := by decide +kernel
theorem dX2_gatherAtoms_57 : decode cX2_gatherAtoms 57 = .ok (.iload_n 1, 1) := by decide +kernel
theorem dX2_gatherAtoms_58 : decode cX2_gatherAtoms 58 = .ok (.dup2, 1) := by decide +kernel
theorem dX2_gatherAtoms_59 : decode cX2_gatherAtoms 59 = .ok (.iaload, 1) := by decide +kernel
theorem dX2_gatherAtoms_60 : decode cX2_gatherAtoms 60 = .ok (.iconst 1, 1) := by decide +kernel
theorem dX2_gatherAtoms_61 : decode cX2_gatherAtoms 61 = .ok (.iload_n 2, 1) := by decide +kernel
theorem dX2_gatherAtoms_62 : decode cX2_gatherAtoms 62 = .ok (.ishl, 1) := by decide +kernel
theorem dX2_gatherAtoms_63 : decode cX2_gatherAtoms 63 = .ok (.ior, 1) := by decide +kernel
theorem dX2_gatherAtoms_64 : decode cX2_gatherAtoms 64 = .ok (.iastore, 1) := by decide +kernel
theorem dX2_gatherAtoms_65 : decode cX2_gatherAtoms 65 = .ok (.iload_n 3, 1) := by decide +kernel
theorem dX2_gatherAtoms_66 : decode cX2_gatherAtoms 66 = .ok (.iload_n 1, 1) := by decide +kernel
theorem dX2_gatherAtoms_67 : decode cX2_gatherAtoms 67 = .ok (.if_icmp .eq 20, 3) := by decide +kernel
theorem dX2_gatherAtoms_70 : decode cX2_gatherAtoms 70 = .ok (.iload_n 3, 1) := by decide +kernel
theorem dX2_gatherAtoms_71 : decode cX2_gatherAtoms 71 = .ok (.iconst (-1), 1) := by decide +kernel
theorem dX2_gatherAtoms_72 : decode cX2_gatherAtoms 72 = .ok (.if_icmp .eq 27, 3) := by decide +kernel
theorem dX2_gatherAtoms_75 : decode cX2_gatherAtoms 75 = .ok (.aload_n 0, 1) := by decide +kernel
theorem dX2_gatherAtoms_76 : decode cX2_gatherAtoms 76 = .ok (.getfield 44, 3) := by decide +kernel
theorem dX2_gatherAtoms_79 : decode cX2_gatherAtoms 79 = .ok (.iload_n 1, 1) := by decide +kernel
theorem dX2_gatherAtoms_80 : decode cX2_gatherAtoms 80 = .ok (.iload_n 3, 1) := by decide +kernel
theorem dX2_gatherAtoms_81 : decode cX2_gatherAtoms 81 = .ok (.invokevirtual 150, 3) := by decide +kernel
theorem dX2_gatherAtoms_84 : decode cX2_gatherAtoms 84 = .ok (.ifCond .eq 15, 3) := by decide +kernel
theorem dX2_gatherAtoms_87 : decode cX2_gatherAtoms 87 = .ok (.aload_n 0, 1) := by decide +kernel
theorem dX2_gatherAtoms_88 : decode cX2_gatherAtoms 88 = .ok (.getfield 22, 3) := by decide +kernel
theorem dX2_gatherAtoms_91 : decode cX2_gatherAtoms 91 = .ok (.iload_n 1, 1) := by decide +kernel
theorem dX2_gatherAtoms_92 : decode cX2_gatherAtoms 92 = .ok (.dup2, 1) := by decide +kernel
theorem dX2_gatherAtoms_93 : decode cX2_gatherAtoms 93 = .ok (.iaload, 1) := by decide +kernel
theorem dX2_gatherAtoms_94 : decode cX2_gatherAtoms 94 = .ok (.iconst 1, 1) := by decide +kernel
theorem dX2_gatherAtoms_95 : decode cX2_gatherAtoms 95 = .ok (.iload_n 2, 1) := by decide +kernel
theorem dX2_gatherAtoms_96 : decode cX2_gatherAtoms 96 = .ok (.ishl, 1) := by decide +kernel
theorem dX2_gatherAtoms_97 : decode cX2_gatherAtoms 97 = .ok (.ior, 1) := by decide +kernel
theorem dX2_gatherAtoms_98 : decode cX2_gatherAtoms 98 = .ok (.iastore, 1) := by decide +kernel
theorem dX2_gatherAtoms_99 : decode cX2_gatherAtoms 99 = .ok (.iinc 2 1, 3) := by decide +kernel
theorem dX2_gatherAtoms_102 : decode cX2_gatherAtoms 102 = .ok (.goto (-74), 3) := by decide +kernel
theorem dX2_gatherAtoms_105 : decode cX2_gatherAtoms 105 = .ok (.aload_n 0, 1) := by decide +kernel
theorem dX2_gatherAtoms_106 : decode cX2_gatherAtoms 106 = .ok (.dup, 1) := by decide +kernel
theorem dX2_gatherAtoms_107 : decode cX2_gatherAtoms 107 = .ok (.getfield 144, 3) := by decide +kernel
theorem dX2_gatherAtoms_110 : decode cX2_gatherAtoms 110 = .ok (.aload_n 0, 1) := by decide +kernel
theorem dX2_gatherAtoms_111 : decode cX2_gatherAtoms 111 = .ok (.getfield 18, 3) := by decide +kernel
theorem dX2_gatherAtoms_114 : decode cX2_gatherAtoms 114 = .ok (.iload_n 1, 1) := by decide +kernel
theorem dX2_gatherAtoms_115 : decode cX2_gatherAtoms 115 = .ok (.iaload, 1) := by decide +kernel
theorem dX2_gatherAtoms_116 : decode cX2_gatherAtoms 116 = .ok (.ior, 1) := by decide +kernel
theorem dX2_gatherAtoms_117 : decode cX2_gatherAtoms 117 = .ok (.putfield 144, 3) := by decide +kernel
theorem dX2_gatherAtoms_120 : decode cX2_gatherAtoms 120 = .ok (.iinc 1 1, 3) := by decide +kernel
theorem dX2_gatherAtoms_123 : decode cX2_gatherAtoms 123 = .ok (.goto (-116), 3) := by decide +kernel
theorem dX2_gatherAtoms_126 : decode cX2_gatherAtoms 126 = .ok (.return_, 1) := by decide +kernel
set_option maxRecDepth 20000 in
theorem ggX2_takeFair_X0_ruleStatement : GoodIn wsX2_takeFair wsX0_ruleStatement := goodIn_r _ [9, 10, 11, 46, 47, 48, 49, 50, 51, 52, 53, 54, 55, 56, 57, 58, 59, 60] (by decide +kernel) (by decide +kernel)
set_option maxRecDepth 20000 in
theorem gX2_takeFair_X0_ruleStatement : GoodIn wsX2_takeFair (wsV RX2 154 RX0 yX0_ruleStatement wsX0_ruleStatement) := goodIn_app (goodIn_of _ (by decide +kernel)) ggX2_takeFair_X0_ruleStatement
set_option maxRecDepth 20000 in
theorem ggX2_takeFair_X2_broken : GoodIn wsX2_takeFair wsX2_broken := goodIn_r _ [16, 2, 17, 18, 8, 19, 20, 21, 22, 15, 23, 24, 25, 26, 27, 28, 29, 30, 31, 32, 33, 34, 35, 36, 37, 38, 39, 40, 41, 42, 43, 44, 45] (by decide +kernel) (by decide +kernel)
set_option maxRecDepth 20000 in
theorem gX2_takeFair_X2_broken : GoodIn wsX2_takeFair (wsV RX2 157 RX2 yX2_broken wsX2_broken) := goodIn_app (goodIn_of _ (by decide +kernel)) ggX2_takeFair_X2_broken
theorem dX2_takeFair_0 : decode cX2_takeFair 0 = .ok (.iconst 0, 1) := by decide +kernel
theorem dX2_takeFair_1 : decode cX2_takeFair 1 = .ok (.istore_n 3, 1) := by decide +kernel
theorem dX2_takeFair_2 : decode cX2_takeFair 2 = .ok (.iload_n 3, 1) := by decide +kernel
theorem dX2_takeFair_3 : decode cX2_takeFair 3 = .ok (.bipush 8, 2) := by decide +kernel
theorem dX2_takeFair_5 : decode cX2_takeFair 5 = .ok (.if_icmp .ge 109, 3) := by decide +kernel
theorem dX2_takeFair_8 : decode cX2_takeFair 8 = .ok (.aload_n 0, 1) := by decide +kernel
theorem dX2_takeFair_9 : decode cX2_takeFair 9 = .ok (.getfield 67, 3) := by decide +kernel
theorem dX2_takeFair_12 : decode cX2_takeFair 12 = .ok (.bipush 64, 2) := by decide +kernel
theorem dX2_takeFair_14 : decode cX2_takeFair 14 = .ok (.iload_n 3, 1) := by decide +kernel
theorem dX2_takeFair_15 : decode cX2_takeFair 15 = .ok (.imul, 1) := by decide +kernel
theorem dX2_takeFair_16 : decode cX2_takeFair 16 = .ok (.isub, 1) := by decide +kernel
theorem dX2_takeFair_17 : decode cX2_takeFair 17 = .ok (.istore 4, 2) := by decide +kernel
theorem dX2_takeFair_19 : decode cX2_takeFair 19 = .ok (.iload 4, 2) := by decide +kernel
theorem dX2_takeFair_21 : decode cX2_takeFair 21 = .ok (.bipush 64, 2) := by decide +kernel
theorem dX2_takeFair_23 : decode cX2_takeFair 23 = .ok (.if_icmp .lt 9, 3) := by decide +kernel
theorem dX2_takeFair_26 : decode cX2_takeFair 26 = .ok (.ldc2_w 88, 3) := by decide +kernel
theorem dX2_takeFair_29 : decode cX2_takeFair 29 = .ok (.goto 18, 3) := by decide +kernel
theorem dX2_takeFair_32 : decode cX2_takeFair 32 = .ok (.iload 4, 2) := by decide +kernel
theorem dX2_takeFair_34 : decode cX2_takeFair 34 = .ok (.ifCond .gt 7, 3) := by decide +kernel
theorem dX2_takeFair_37 : decode cX2_takeFair 37 = .ok (.lconst 0, 1) := by decide +kernel
theorem dX2_takeFair_38 : decode cX2_takeFair 38 = .ok (.goto 9, 3) := by decide +kernel
theorem dX2_takeFair_41 : decode cX2_takeFair 41 = .ok (.lconst 1, 1) := by decide +kernel
theorem dX2_takeFair_42 : decode cX2_takeFair 42 = .ok (.iload 4, 2) := by decide +kernel
theorem dX2_takeFair_44 : decode cX2_takeFair 44 = .ok (.lshl, 1) := by decide +kernel
theorem dX2_takeFair_45 : decode cX2_takeFair 45 = .ok (.lconst 1, 1) := by decide +kernel
theorem dX2_takeFair_46 : decode cX2_takeFair 46 = .ok (.lsub, 1) := by decide +kernel
theorem dX2_takeFair_47 : decode cX2_takeFair 47 = .ok (.lstore 5, 2) := by decide +kernel
theorem dX2_takeFair_49 : decode cX2_takeFair 49 = .ok (.iconst 0, 1) := by decide +kernel
theorem dX2_takeFair_50 : decode cX2_takeFair 50 = .ok (.istore 7, 2) := by decide +kernel
theorem dX2_takeFair_52 : decode cX2_takeFair 52 = .ok (.iload 7, 2) := by decide +kernel
theorem dX2_takeFair_54 : decode cX2_takeFair 54 = .ok (.aload_n 0, 1) := by decide +kernel
theorem dX2_takeFair_55 : decode cX2_takeFair 55 = .ok (.getfield 44, 3) := by decide +kernel
theorem dX2_takeFair_58 : decode cX2_takeFair 58 = .ok (.getfield 93, 3) := by decide +kernel
theorem dX2_takeFair_61 : decode cX2_takeFair 61 = .ok (.if_icmp .ge 42, 3) := by decide +kernel
theorem dX2_takeFair_64 : decode cX2_takeFair 64 = .ok (.iload_n 1, 1) := by decide +kernel
theorem dX2_takeFair_65 : decode cX2_takeFair 65 = .ok (.iload 7, 2) := by decide +kernel
theorem dX2_takeFair_67 : decode cX2_takeFair 67 = .ok (.ishr, 1) := by decide +kernel
theorem dX2_takeFair_68 : decode cX2_takeFair 68 = .ok (.iconst 1, 1) := by decide +kernel
theorem dX2_takeFair_69 : decode cX2_takeFair 69 = .ok (.iand, 1) := by decide +kernel
theorem dX2_takeFair_70 : decode cX2_takeFair 70 = .ok (.iconst 1, 1) := by decide +kernel
theorem dX2_takeFair_71 : decode cX2_takeFair 71 = .ok (.if_icmp .ne 26, 3) := by decide +kernel
theorem dX2_takeFair_74 : decode cX2_takeFair 74 = .ok (.lload 5, 2) := by decide +kernel
theorem dX2_takeFair_76 : decode cX2_takeFair 76 = .ok (.aload_n 0, 1) := by decide +kernel
theorem dX2_takeFair_77 : decode cX2_takeFair 77 = .ok (.aload_n 0, 1) := by decide +kernel
theorem dX2_takeFair_78 : decode cX2_takeFair 78 = .ok (.getfield 44, 3) := by decide +kernel
