/-! the tables' words, each by its place -/
def BG : List Cond := lw_tbl.filter goodWord
theorem bg_in {w : Cond} (h : w ∈ tables_1) (g : goodWord w = true) : w ∈ BG := List.mem_filter.mpr ⟨List.mem_append_right _ h, g⟩
theorem bg1 {w : Cond} (h : w ∈ tables_1_1) (g : goodWord w = true) : w ∈ BG := bg_in (List.mem_append_left _ h) g
theorem bg2 {w : Cond} (h : w ∈ tables_1_2) (g : goodWord w = true) : w ∈ BG := bg_in (List.mem_append_right _ (List.mem_append_left _ h)) g
theorem bg3 {w : Cond} (h : w ∈ tables_1_3) (g : goodWord w = true) : w ∈ BG := bg_in (List.mem_append_right _ (List.mem_append_right _ (List.mem_append_left _ h))) g
theorem bg4 {w : Cond} (h : w ∈ tables_1_4) (g : goodWord w = true) : w ∈ BG := bg_in (List.mem_append_right _ (List.mem_append_right _ (List.mem_append_right _ (List.mem_append_left _ h)))) g
theorem bg5 {w : Cond} (h : w ∈ tables_1_5) (g : goodWord w = true) : w ∈ BG := bg_in (List.mem_append_right _ (List.mem_append_right _ (List.mem_append_right _ (List.mem_append_right _ (List.mem_append_left _ h))))) g
theorem bg6 {w : Cond} (h : w ∈ tables_1_6) (g : goodWord w = true) : w ∈ BG := bg_in (List.mem_append_right _ (List.mem_append_right _ (List.mem_append_right _ (List.mem_append_right _ (List.mem_append_right _ (List.mem_append_left _ h)))))) g
theorem bg7 {w : Cond} (h : w ∈ tables_1_7) (g : goodWord w = true) : w ∈ BG := bg_in (List.mem_append_right _ (List.mem_append_right _ (List.mem_append_right _ (List.mem_append_right _ (List.mem_append_right _ (List.mem_append_right _ h)))))) g
theorem bgp1 {q : MethodName × Nat} (h : q ∈ lw_privs_1) (g : goodWord (Cond.selects q.1.cls q.1 q.1) = true) : Cond.selects q.1.cls q.1 q.1 ∈ BG := List.mem_filter.mpr ⟨List.mem_append_left _ (List.mem_map.mpr ⟨q, (List.mem_append_left _ h), rfl⟩), g⟩
theorem bgp2 {q : MethodName × Nat} (h : q ∈ lw_privs_2) (g : goodWord (Cond.selects q.1.cls q.1 q.1) = true) : Cond.selects q.1.cls q.1 q.1 ∈ BG := List.mem_filter.mpr ⟨List.mem_append_left _ (List.mem_map.mpr ⟨q, (List.mem_append_right _ (List.mem_append_left _ h)), rfl⟩), g⟩
theorem bgp3 {q : MethodName × Nat} (h : q ∈ lw_privs_3) (g : goodWord (Cond.selects q.1.cls q.1 q.1) = true) : Cond.selects q.1.cls q.1 q.1 ∈ BG := List.mem_filter.mpr ⟨List.mem_append_left _ (List.mem_map.mpr ⟨q, (List.mem_append_right _ (List.mem_append_right _ (List.mem_append_left _ h))), rfl⟩), g⟩
theorem bgp4 {q : MethodName × Nat} (h : q ∈ lw_privs_4) (g : goodWord (Cond.selects q.1.cls q.1 q.1) = true) : Cond.selects q.1.cls q.1 q.1 ∈ BG := List.mem_filter.mpr ⟨List.mem_append_left _ (List.mem_map.mpr ⟨q, (List.mem_append_right _ (List.mem_append_right _ (List.mem_append_right _ (List.mem_append_left _ h)))), rfl⟩), g⟩
theorem bgp5 {q : MethodName × Nat} (h : q ∈ lw_privs_5) (g : goodWord (Cond.selects q.1.cls q.1 q.1) = true) : Cond.selects q.1.cls q.1 q.1 ∈ BG := List.mem_filter.mpr ⟨List.mem_append_left _ (List.mem_map.mpr ⟨q, (List.mem_append_right _ (List.mem_append_right _ (List.mem_append_right _ (List.mem_append_right _ (List.mem_append_left _ h))))), rfl⟩), g⟩
theorem bgp6 {q : MethodName × Nat} (h : q ∈ lw_privs_6) (g : goodWord (Cond.selects q.1.cls q.1 q.1) = true) : Cond.selects q.1.cls q.1 q.1 ∈ BG := List.mem_filter.mpr ⟨List.mem_append_left _ (List.mem_map.mpr ⟨q, (List.mem_append_right _ (List.mem_append_right _ (List.mem_append_right _ (List.mem_append_right _ (List.mem_append_right _ (List.mem_append_left _ h)))))), rfl⟩), g⟩
theorem bgp7 {q : MethodName × Nat} (h : q ∈ lw_privs_7) (g : goodWord (Cond.selects q.1.cls q.1 q.1) = true) : Cond.selects q.1.cls q.1 q.1 ∈ BG := List.mem_filter.mpr ⟨List.mem_append_left _ (List.mem_map.mpr ⟨q, (List.mem_append_right _ (List.mem_append_right _ (List.mem_append_right _ (List.mem_append_right _ (List.mem_append_right _ (List.mem_append_right _ h)))))), rfl⟩), g⟩
theorem bgood {w : Cond} (h : w ∈ BG) : goodWord w = true := (List.mem_filter.mp h).2
theorem bg_tbl {w : Cond} (h : w ∈ BG) : w ∈ lw_tbl := (List.mem_filter.mp h).1
theorem m_in_L : Cond.initialized RL ∈ BG := bg1 (List.mem_of_getElem? (i := 0) (by decide +kernel)) rfl
theorem m_in_X7 : Cond.initialized RX7 ∈ BG := bg1 (List.mem_of_getElem? (i := 1) (by decide +kernel)) rfl
theorem m_in_X0 : Cond.initialized RX0 ∈ BG := bg1 (List.mem_of_getElem? (i := 2) (by decide +kernel)) rfl
theorem m_in_X1 : Cond.initialized RX1 ∈ BG := bg1 (List.mem_of_getElem? (i := 3) (by decide +kernel)) rfl
theorem m_in_X4 : Cond.initialized RX4 ∈ BG := bg1 (List.mem_of_getElem? (i := 4) (by decide +kernel)) rfl
theorem m_in_X5 : Cond.initialized RX5 ∈ BG := bg1 (List.mem_of_getElem? (i := 5) (by decide +kernel)) rfl
theorem m_in_X2 : Cond.initialized RX2 ∈ BG := bg1 (List.mem_of_getElem? (i := 6) (by decide +kernel)) rfl
theorem m_in_X6 : Cond.initialized RX6 ∈ BG := bg1 (List.mem_of_getElem? (i := 7) (by decide +kernel)) rfl
theorem m_in_X3 : Cond.initialized RX3 ∈ BG := bg1 (List.mem_of_getElem? (i := 8) (by decide +kernel)) rfl
theorem m_in_X8 : Cond.initialized RX8 ∈ BG := bg1 (List.mem_of_getElem? (i := 9) (by decide +kernel)) rfl
theorem m_in_java_lang_Math : Cond.initialized "java/lang/Math" ∈ BG := bg1 (List.mem_of_getElem? (i := 10) (by decide +kernel)) rfl
theorem m_in_java_lang_System : Cond.initialized "java/lang/System" ∈ BG := bg1 (List.mem_of_getElem? (i := 11) (by decide +kernel)) rfl
theorem m_in_J13 : Cond.initialized RJ13 ∈ BG := bg1 (List.mem_of_getElem? (i := 12) (by decide +kernel)) rfl
theorem m_cl_L_7 : Cond.classLink RL 7 RX7 ∈ BG := bg1 (List.mem_of_getElem? (i := 13) (by decide +kernel)) rfl
theorem m_mk_X7 : Cond.instantiable RX7 9 ∈ BG := bg1 (List.mem_of_getElem? (i := 14) (by decide +kernel)) rfl
theorem m_ml_L_9 : Cond.methodLink RL 9 yX7_init ∈ BG := bg1 (List.mem_of_getElem? (i := 15) (by decide +kernel)) rfl
theorem m_im_X7_init : Cond.instanceMethod yX7_init ∈ BG := bg1 (List.mem_of_getElem? (i := 16) (by decide +kernel)) rfl
theorem m_cd_X7_init : Cond.code yX7_init cX7_init 1 none ∈ BG := bg1 (List.mem_of_getElem? (i := 17) rfl) rfl
theorem m_ml_X7_3 : Cond.methodLink RX7 3 objectInit ∈ BG := bg1 (List.mem_of_getElem? (i := 18) (by decide +kernel)) rfl
theorem m_im_java_lang_Object__init : Cond.instanceMethod objectInit ∈ BG := bg1 (List.mem_of_getElem? (i := 19) (by decide +kernel)) rfl
theorem m_cd_java_lang_Object__init : Cond.code objectInit ⟨#[0xb1]⟩ 1 none ∈ BG := bg1 (List.mem_of_getElem? (i := 20) rfl) rfl
theorem m_cl_X7_13 : Cond.classLink RX7 13 RX0 ∈ BG := bg1 (List.mem_of_getElem? (i := 21) (by decide +kernel)) rfl
theorem m_mk_X0 : Cond.instantiable RX0 15 ∈ BG := bg1 (List.mem_of_getElem? (i := 22) (by decide +kernel)) rfl
theorem m_im_X0_init : Cond.instanceMethod yX0_init ∈ BG := bg1 (List.mem_of_getElem? (i := 24) (by decide +kernel)) rfl
theorem m_cd_X0_init : Cond.code yX0_init cX0_init 1 none ∈ BG := bg1 (List.mem_of_getElem? (i := 25) rfl) rfl
theorem m_ml_X0_3 : Cond.methodLink RX0 3 objectInit ∈ BG := bg1 (List.mem_of_getElem? (i := 26) (by decide +kernel)) rfl
theorem m_cl_X0_9 : Cond.classLink RX0 9 RX1 ∈ BG := bg1 (List.mem_of_getElem? (i := 27) (by decide +kernel)) rfl
theorem m_mk_X1 : Cond.instantiable RX1 10 ∈ BG := bg1 (List.mem_of_getElem? (i := 28) (by decide +kernel)) rfl
theorem m_im_X1_init : Cond.instanceMethod yX1_init ∈ BG := bg1 (List.mem_of_getElem? (i := 30) (by decide +kernel)) rfl
theorem m_cd_X1_init : Cond.code yX1_init cX1_init 1 none ∈ BG := bg1 (List.mem_of_getElem? (i := 31) rfl) rfl
theorem m_ml_X1_3 : Cond.methodLink RX1 3 objectInit ∈ BG := bg1 (List.mem_of_getElem? (i := 32) (by decide +kernel)) rfl
theorem m_fl_X1_9 : Cond.fieldLink RX1 9 "TypeCourt$Concepts" "sorts" "[I" ∈ BG := bg1 (List.mem_of_getElem? (i := 33) (by decide +kernel)) rfl
theorem m_fl_X1_15 : Cond.fieldLink RX1 15 "TypeCourt$Concepts" "lefts" "[I" ∈ BG := bg1 (List.mem_of_getElem? (i := 34) (by decide +kernel)) rfl
theorem m_fl_X1_18 : Cond.fieldLink RX1 18 "TypeCourt$Concepts" "rights" "[I" ∈ BG := bg1 (List.mem_of_getElem? (i := 35) (by decide +kernel)) rfl
theorem m_fl_X1_21 : Cond.fieldLink RX1 21 "TypeCourt$Concepts" "atoms" "[I" ∈ BG := bg1 (List.mem_of_getElem? (i := 36) (by decide +kernel)) rfl
theorem m_fl_X1_36 : Cond.fieldLink RX1 36 "TypeCourt$Concepts" "size" "I" ∈ BG := bg1 (List.mem_of_getElem? (i := 37) (by decide +kernel)) rfl
theorem m_fl_X2_70 : Cond.fieldLink RX2 70 "TypeCourt$Concepts" "size" "I" ∈ BG := bg1 (List.mem_of_getElem? (i := 38) (by decide +kernel)) rfl
theorem m_fl_X1_24 : Cond.fieldLink RX1 24 "TypeCourt$Concepts" "atomRoles" "[I" ∈ BG := bg1 (List.mem_of_getElem? (i := 39) (by decide +kernel)) rfl
theorem m_fl_X1_27 : Cond.fieldLink RX1 27 "TypeCourt$Concepts" "atomNames" "[I" ∈ BG := bg1 (List.mem_of_getElem? (i := 40) (by decide +kernel)) rfl
theorem m_fl_X1_30 : Cond.fieldLink RX1 30 "TypeCourt$Concepts" "atomParts" "[I" ∈ BG := bg1 (List.mem_of_getElem? (i := 41) (by decide +kernel)) rfl
theorem m_fl_X1_33 : Cond.fieldLink RX1 33 "TypeCourt$Concepts" "atomTurns" "[I" ∈ BG := bg1 (List.mem_of_getElem? (i := 42) (by decide +kernel)) rfl
theorem m_fl_X1_40 : Cond.fieldLink RX1 40 "TypeCourt$Concepts" "atomCount" "I" ∈ BG := bg1 (List.mem_of_getElem? (i := 43) (by decide +kernel)) rfl
theorem m_fl_X2_55 : Cond.fieldLink RX2 55 "TypeCourt$Concepts" "atomCount" "I" ∈ BG := bg1 (List.mem_of_getElem? (i := 44) (by decide +kernel)) rfl
theorem m_fl_X7_105 : Cond.fieldLink RX7 105 "TypeCourt$Concepts" "atomCount" "I" ∈ BG := bg1 (List.mem_of_getElem? (i := 45) (by decide +kernel)) rfl
theorem m_ly_X1_0 : u_lay RX1 TX1 0 ∈ BG := bg1 (List.mem_of_getElem? (i := 46) rfl) rfl
theorem m_ly_X1_1 : u_lay RX1 TX1 1 ∈ BG := bg1 (List.mem_of_getElem? (i := 48) rfl) rfl
theorem m_ly_X1_2 : u_lay RX1 TX1 2 ∈ BG := bg1 (List.mem_of_getElem? (i := 50) rfl) rfl
theorem m_ly_X1_3 : u_lay RX1 TX1 3 ∈ BG := bg1 (List.mem_of_getElem? (i := 52) rfl) rfl
theorem m_ly_X1_4 : u_lay RX1 TX1 4 ∈ BG := bg1 (List.mem_of_getElem? (i := 54) rfl) rfl
theorem m_ly_X1_5 : u_lay RX1 TX1 5 ∈ BG := bg1 (List.mem_of_getElem? (i := 56) rfl) rfl
theorem m_ly_X1_6 : u_lay RX1 TX1 6 ∈ BG := bg1 (List.mem_of_getElem? (i := 58) rfl) rfl
theorem m_ly_X1_7 : u_lay RX1 TX1 7 ∈ BG := bg1 (List.mem_of_getElem? (i := 60) rfl) rfl
theorem m_ly_X1_8 : u_lay RX1 TX1 8 ∈ BG := bg1 (List.mem_of_getElem? (i := 62) rfl) rfl
theorem m_ly_X1_9 : u_lay RX1 TX1 9 ∈ BG := bg1 (List.mem_of_getElem? (i := 64) rfl) rfl
theorem m_ac_byte : Cond.arrayClass .byte ∈ BG := bg1 (List.mem_of_getElem? (i := 67) (by decide +kernel)) rfl
theorem m_ac_int : Cond.arrayClass .int ∈ BG := bg1 (List.mem_of_getElem? (i := 68) (by decide +kernel)) rfl
theorem m_fl_X0_12 : Cond.fieldLink RX0 12 "TypeCourt$Book" "concepts" "LTypeCourt$Concepts;" ∈ BG := bg1 (List.mem_of_getElem? (i := 69) (by decide +kernel)) rfl
theorem m_fl_X4_28 : Cond.fieldLink RX4 28 "TypeCourt$Book" "concepts" "LTypeCourt$Concepts;" ∈ BG := bg1 (List.mem_of_getElem? (i := 70) (by decide +kernel)) rfl
theorem m_fl_X2_48 : Cond.fieldLink RX2 48 "TypeCourt$Book" "concepts" "LTypeCourt$Concepts;" ∈ BG := bg1 (List.mem_of_getElem? (i := 71) (by decide +kernel)) rfl
theorem m_fl_X3_99 : Cond.fieldLink RX3 99 "TypeCourt$Book" "concepts" "LTypeCourt$Concepts;" ∈ BG := bg1 (List.mem_of_getElem? (i := 72) (by decide +kernel)) rfl
theorem m_fl_X7_101 : Cond.fieldLink RX7 101 "TypeCourt$Book" "concepts" "LTypeCourt$Concepts;" ∈ BG := bg1 (List.mem_of_getElem? (i := 73) (by decide +kernel)) rfl
theorem m_fl_X0_41 : Cond.fieldLink RX0 41 "TypeCourt$Book" "conceptCount" "I" ∈ BG := bg1 (List.mem_of_getElem? (i := 74) (by decide +kernel)) rfl
theorem m_fl_X7_80 : Cond.fieldLink RX7 80 "TypeCourt$Book" "conceptCount" "I" ∈ BG := bg1 (List.mem_of_getElem? (i := 75) (by decide +kernel)) rfl
theorem m_fl_X4_194 : Cond.fieldLink RX4 194 "TypeCourt$Book" "conceptCount" "I" ∈ BG := bg1 (List.mem_of_getElem? (i := 76) (by decide +kernel)) rfl
theorem m_fl_X0_18 : Cond.fieldLink RX0 18 "TypeCourt$Book" "names" "[J" ∈ BG := bg1 (List.mem_of_getElem? (i := 77) (by decide +kernel)) rfl
theorem m_fl_X0_45 : Cond.fieldLink RX0 45 "TypeCourt$Book" "nameCount" "I" ∈ BG := bg1 (List.mem_of_getElem? (i := 78) (by decide +kernel)) rfl
theorem m_fl_X7_89 : Cond.fieldLink RX7 89 "TypeCourt$Book" "nameCount" "I" ∈ BG := bg1 (List.mem_of_getElem? (i := 79) (by decide +kernel)) rfl
theorem m_fl_X0_22 : Cond.fieldLink RX0 22 "TypeCourt$Book" "roles" "[J" ∈ BG := bg1 (List.mem_of_getElem? (i := 80) (by decide +kernel)) rfl
theorem m_fl_X0_48 : Cond.fieldLink RX0 48 "TypeCourt$Book" "roleCount" "I" ∈ BG := bg1 (List.mem_of_getElem? (i := 81) (by decide +kernel)) rfl
theorem m_fl_X7_92 : Cond.fieldLink RX7 92 "TypeCourt$Book" "roleCount" "I" ∈ BG := bg1 (List.mem_of_getElem? (i := 82) (by decide +kernel)) rfl
theorem m_fl_X0_25 : Cond.fieldLink RX0 25 "TypeCourt$Book" "statements" "[I" ∈ BG := bg1 (List.mem_of_getElem? (i := 83) (by decide +kernel)) rfl
theorem m_fl_X3_27 : Cond.fieldLink RX3 27 "TypeCourt$Book" "statementCount" "I" ∈ BG := bg1 (List.mem_of_getElem? (i := 84) (by decide +kernel)) rfl
theorem m_fl_X0_51 : Cond.fieldLink RX0 51 "TypeCourt$Book" "statementCount" "I" ∈ BG := bg1 (List.mem_of_getElem? (i := 85) (by decide +kernel)) rfl
theorem m_fl_X0_29 : Cond.fieldLink RX0 29 "TypeCourt$Book" "rules" "[I" ∈ BG := bg1 (List.mem_of_getElem? (i := 86) (by decide +kernel)) rfl
theorem m_fl_X0_54 : Cond.fieldLink RX0 54 "TypeCourt$Book" "ruleCount" "I" ∈ BG := bg1 (List.mem_of_getElem? (i := 87) (by decide +kernel)) rfl
theorem m_fl_X2_93 : Cond.fieldLink RX2 93 "TypeCourt$Book" "ruleCount" "I" ∈ BG := bg1 (List.mem_of_getElem? (i := 88) (by decide +kernel)) rfl
theorem m_fl_X4_94 : Cond.fieldLink RX4 94 "TypeCourt$Book" "ruleCount" "I" ∈ BG := bg1 (List.mem_of_getElem? (i := 89) (by decide +kernel)) rfl
theorem m_fl_X7_95 : Cond.fieldLink RX7 95 "TypeCourt$Book" "ruleCount" "I" ∈ BG := bg1 (List.mem_of_getElem? (i := 90) (by decide +kernel)) rfl
theorem m_fl_X0_32 : Cond.fieldLink RX0 32 "TypeCourt$Book" "questions" "[I" ∈ BG := bg1 (List.mem_of_getElem? (i := 91) (by decide +kernel)) rfl
theorem m_fl_X0_57 : Cond.fieldLink RX0 57 "TypeCourt$Book" "questionCount" "I" ∈ BG := bg1 (List.mem_of_getElem? (i := 92) (by decide +kernel)) rfl
theorem m_fl_X7_98 : Cond.fieldLink RX7 98 "TypeCourt$Book" "questionCount" "I" ∈ BG := bg1 (List.mem_of_getElem? (i := 93) (by decide +kernel)) rfl
theorem m_fl_X4_111 : Cond.fieldLink RX4 111 "TypeCourt$Book" "questionCount" "I" ∈ BG := bg1 (List.mem_of_getElem? (i := 94) (by decide +kernel)) rfl
theorem m_fl_X0_35 : Cond.fieldLink RX0 35 "TypeCourt$Book" "above" "[I" ∈ BG := bg1 (List.mem_of_getElem? (i := 95) (by decide +kernel)) rfl
theorem m_fl_X0_60 : Cond.fieldLink RX0 60 "TypeCourt$Book" "singles" "I" ∈ BG := bg1 (List.mem_of_getElem? (i := 96) (by decide +kernel)) rfl
theorem m_fl_X0_63 : Cond.fieldLink RX0 63 "TypeCourt$Book" "ordered" "I" ∈ BG := bg1 (List.mem_of_getElem? (i := 97) (by decide +kernel)) rfl
theorem m_ly_X0_0 : u_lay RX0 TX0 0 ∈ BG := bg1 (List.mem_of_getElem? (i := 98) rfl) rfl
theorem m_ly_X0_1 : u_lay RX0 TX0 1 ∈ BG := bg1 (List.mem_of_getElem? (i := 100) rfl) rfl
theorem m_ly_X0_2 : u_lay RX0 TX0 2 ∈ BG := bg1 (List.mem_of_getElem? (i := 102) rfl) rfl
theorem m_ly_X0_3 : u_lay RX0 TX0 3 ∈ BG := bg1 (List.mem_of_getElem? (i := 104) rfl) rfl
theorem m_ly_X0_4 : u_lay RX0 TX0 4 ∈ BG := bg1 (List.mem_of_getElem? (i := 106) rfl) rfl
theorem m_ly_X0_5 : u_lay RX0 TX0 5 ∈ BG := bg1 (List.mem_of_getElem? (i := 108) rfl) rfl
theorem m_ly_X0_6 : u_lay RX0 TX0 6 ∈ BG := bg1 (List.mem_of_getElem? (i := 110) rfl) rfl
theorem m_ly_X0_7 : u_lay RX0 TX0 7 ∈ BG := bg1 (List.mem_of_getElem? (i := 112) rfl) rfl
theorem m_ly_X0_8 : u_lay RX0 TX0 8 ∈ BG := bg1 (List.mem_of_getElem? (i := 114) rfl) rfl
theorem m_ly_X0_9 : u_lay RX0 TX0 9 ∈ BG := bg1 (List.mem_of_getElem? (i := 116) rfl) rfl
theorem m_ly_X0_10 : u_lay RX0 TX0 10 ∈ BG := bg1 (List.mem_of_getElem? (i := 118) rfl) rfl
theorem m_ly_X0_11 : u_lay RX0 TX0 11 ∈ BG := bg1 (List.mem_of_getElem? (i := 120) rfl) rfl
theorem m_ly_X0_12 : u_lay RX0 TX0 12 ∈ BG := bg1 (List.mem_of_getElem? (i := 122) rfl) rfl
theorem m_ly_X0_13 : u_lay RX0 TX0 13 ∈ BG := bg1 (List.mem_of_getElem? (i := 124) rfl) rfl
theorem m_ly_X0_14 : u_lay RX0 TX0 14 ∈ BG := bg1 (List.mem_of_getElem? (i := 126) rfl) rfl
theorem m_ac_long : Cond.arrayClass .long ∈ BG := bg1 (List.mem_of_getElem? (i := 129) (by decide +kernel)) rfl
theorem m_cl_X7_23 : Cond.classLink RX7 23 RX4 ∈ BG := bg1 (List.mem_of_getElem? (i := 130) (by decide +kernel)) rfl
theorem m_mk_X4 : Cond.instantiable RX4 5 ∈ BG := bg1 (List.mem_of_getElem? (i := 131) (by decide +kernel)) rfl
theorem m_ml_X7_25 : Cond.methodLink RX7 25 yX4_init ∈ BG := bg1 (List.mem_of_getElem? (i := 132) (by decide +kernel)) rfl
theorem m_im_X4_init : Cond.instanceMethod yX4_init ∈ BG := bg1 (List.mem_of_getElem? (i := 133) (by decide +kernel)) rfl
theorem m_cd_X4_init : Cond.code yX4_init cX4_init 3 none ∈ BG := bg1 (List.mem_of_getElem? (i := 134) rfl) rfl
theorem m_ml_X4_3 : Cond.methodLink RX4 3 objectInit ∈ BG := bg1 (List.mem_of_getElem? (i := 135) (by decide +kernel)) rfl
theorem m_cl_X4_15 : Cond.classLink RX4 15 RX5 ∈ BG := bg1 (List.mem_of_getElem? (i := 136) (by decide +kernel)) rfl
theorem m_mk_X5 : Cond.instantiable RX5 6 ∈ BG := bg1 (List.mem_of_getElem? (i := 137) (by decide +kernel)) rfl
theorem m_ml_X4_17 : Cond.methodLink RX4 17 yX5_init ∈ BG := bg1 (List.mem_of_getElem? (i := 138) (by decide +kernel)) rfl
theorem m_im_X5_init : Cond.instanceMethod yX5_init ∈ BG := bg1 (List.mem_of_getElem? (i := 139) (by decide +kernel)) rfl
theorem m_cd_X5_init : Cond.code yX5_init cX5_init 2 none ∈ BG := bg1 (List.mem_of_getElem? (i := 140) rfl) rfl
theorem m_ml_X5_3 : Cond.methodLink RX5 3 objectInit ∈ BG := bg1 (List.mem_of_getElem? (i := 141) (by decide +kernel)) rfl
theorem m_fl_X5_9 : Cond.fieldLink RX5 9 "TypeCourt$Tokens" "text" "[B" ∈ BG := bg1 (List.mem_of_getElem? (i := 142) (by decide +kernel)) rfl
theorem m_fl_X5_21 : Cond.fieldLink RX5 21 "TypeCourt$Tokens" "length" "I" ∈ BG := bg1 (List.mem_of_getElem? (i := 143) (by decide +kernel)) rfl
theorem m_fl_X5_25 : Cond.fieldLink RX5 25 "TypeCourt$Tokens" "next" "I" ∈ BG := bg1 (List.mem_of_getElem? (i := 144) (by decide +kernel)) rfl
theorem m_fl_X5_34 : Cond.fieldLink RX5 34 "TypeCourt$Tokens" "from" "I" ∈ BG := bg1 (List.mem_of_getElem? (i := 145) (by decide +kernel)) rfl
theorem m_fl_X4_70 : Cond.fieldLink RX4 70 "TypeCourt$Tokens" "from" "I" ∈ BG := bg1 (List.mem_of_getElem? (i := 146) (by decide +kernel)) rfl
theorem m_fl_X4_45 : Cond.fieldLink RX4 45 "TypeCourt$Tokens" "sort" "I" ∈ BG := bg1 (List.mem_of_getElem? (i := 147) (by decide +kernel)) rfl
theorem m_fl_X5_41 : Cond.fieldLink RX5 41 "TypeCourt$Tokens" "sort" "I" ∈ BG := bg1 (List.mem_of_getElem? (i := 148) (by decide +kernel)) rfl
theorem m_fl_X4_48 : Cond.fieldLink RX4 48 "TypeCourt$Tokens" "word" "J" ∈ BG := bg1 (List.mem_of_getElem? (i := 149) (by decide +kernel)) rfl
theorem m_fl_X5_37 : Cond.fieldLink RX5 37 "TypeCourt$Tokens" "word" "J" ∈ BG := bg1 (List.mem_of_getElem? (i := 150) (by decide +kernel)) rfl
theorem m_ly_X5_0 : u_lay RX5 TX5 0 ∈ BG := bg1 (List.mem_of_getElem? (i := 151) rfl) rfl
theorem m_ly_X5_1 : u_lay RX5 TX5 1 ∈ BG := bg1 (List.mem_of_getElem? (i := 153) rfl) rfl
theorem m_ly_X5_2 : u_lay RX5 TX5 2 ∈ BG := bg1 (List.mem_of_getElem? (i := 155) rfl) rfl
theorem m_ly_X5_3 : u_lay RX5 TX5 3 ∈ BG := bg1 (List.mem_of_getElem? (i := 157) rfl) rfl
theorem m_ly_X5_4 : u_lay RX5 TX5 4 ∈ BG := bg1 (List.mem_of_getElem? (i := 159) rfl) rfl
theorem m_ly_X5_5 : u_lay RX5 TX5 5 ∈ BG := bg1 (List.mem_of_getElem? (i := 161) rfl) rfl
theorem m_fl_X4_20 : Cond.fieldLink RX4 20 "TypeCourt$Reader" "tokens" "LTypeCourt$Tokens;" ∈ BG := bg1 (List.mem_of_getElem? (i := 164) (by decide +kernel)) rfl
theorem m_fl_X4_24 : Cond.fieldLink RX4 24 "TypeCourt$Reader" "book" "LTypeCourt$Book;" ∈ BG := bg1 (List.mem_of_getElem? (i := 165) (by decide +kernel)) rfl
theorem m_fl_X4_34 : Cond.fieldLink RX4 34 "TypeCourt$Reader" "concepts" "LTypeCourt$Concepts;" ∈ BG := bg1 (List.mem_of_getElem? (i := 166) (by decide +kernel)) rfl
theorem m_fl_X4_38 : Cond.fieldLink RX4 38 "TypeCourt$Reader" "fault" "I" ∈ BG := bg1 (List.mem_of_getElem? (i := 167) (by decide +kernel)) rfl
theorem m_fl_X7_67 : Cond.fieldLink RX7 67 "TypeCourt$Reader" "fault" "I" ∈ BG := bg1 (List.mem_of_getElem? (i := 168) (by decide +kernel)) rfl
theorem m_fl_X4_9 : Cond.fieldLink RX4 9 "TypeCourt$Reader" "faultPlace" "I" ∈ BG := bg1 (List.mem_of_getElem? (i := 169) (by decide +kernel)) rfl
theorem m_fl_X7_83 : Cond.fieldLink RX7 83 "TypeCourt$Reader" "faultPlace" "I" ∈ BG := bg1 (List.mem_of_getElem? (i := 170) (by decide +kernel)) rfl
theorem m_ly_X4_0 : u_lay RX4 TX4 0 ∈ BG := bg1 (List.mem_of_getElem? (i := 171) rfl) rfl
theorem m_ly_X4_1 : u_lay RX4 TX4 1 ∈ BG := bg1 (List.mem_of_getElem? (i := 173) rfl) rfl
theorem m_ly_X4_2 : u_lay RX4 TX4 2 ∈ BG := bg1 (List.mem_of_getElem? (i := 175) rfl) rfl
theorem m_ly_X4_3 : u_lay RX4 TX4 3 ∈ BG := bg1 (List.mem_of_getElem? (i := 177) rfl) rfl
theorem m_ly_X4_4 : u_lay RX4 TX4 4 ∈ BG := bg1 (List.mem_of_getElem? (i := 179) rfl) rfl
theorem m_cl_X7_32 : Cond.classLink RX7 32 RX2 ∈ BG := bg1 (List.mem_of_getElem? (i := 182) (by decide +kernel)) rfl
theorem m_mk_X2 : Cond.instantiable RX2 15 ∈ BG := bg1 (List.mem_of_getElem? (i := 183) (by decide +kernel)) rfl
theorem m_ml_X7_34 : Cond.methodLink RX7 34 yX2_init ∈ BG := bg1 (List.mem_of_getElem? (i := 184) (by decide +kernel)) rfl
theorem m_im_X2_init : Cond.instanceMethod yX2_init ∈ BG := bg1 (List.mem_of_getElem? (i := 185) (by decide +kernel)) rfl
theorem m_cd_X2_init : Cond.code yX2_init cX2_init 2 none ∈ BG := bg1 (List.mem_of_getElem? (i := 186) rfl) rfl
theorem m_ml_X2_3 : Cond.methodLink RX2 3 objectInit ∈ BG := bg1 (List.mem_of_getElem? (i := 187) (by decide +kernel)) rfl
theorem m_fl_X2_44 : Cond.fieldLink RX2 44 "TypeCourt$Kinds" "book" "LTypeCourt$Book;" ∈ BG := bg1 (List.mem_of_getElem? (i := 188) (by decide +kernel)) rfl
theorem m_fl_X2_54 : Cond.fieldLink RX2 54 "TypeCourt$Kinds" "concepts" "LTypeCourt$Concepts;" ∈ BG := bg1 (List.mem_of_getElem? (i := 189) (by decide +kernel)) rfl
theorem m_fl_X2_67 : Cond.fieldLink RX2 67 "TypeCourt$Kinds" "types" "I" ∈ BG := bg1 (List.mem_of_getElem? (i := 191) (by decide +kernel)) rfl
theorem m_fl_X2_9 : Cond.fieldLink RX2 9 "TypeCourt$Kinds" "truths" "[J" ∈ BG := bg1 (List.mem_of_getElem? (i := 192) (by decide +kernel)) rfl
theorem m_fl_X2_15 : Cond.fieldLink RX2 15 "TypeCourt$Kinds" "parts" "[J" ∈ BG := bg1 (List.mem_of_getElem? (i := 193) (by decide +kernel)) rfl
theorem m_fl_X2_18 : Cond.fieldLink RX2 18 "TypeCourt$Kinds" "ownAtoms" "[I" ∈ BG := bg1 (List.mem_of_getElem? (i := 194) (by decide +kernel)) rfl
theorem m_fl_X2_22 : Cond.fieldLink RX2 22 "TypeCourt$Kinds" "farAtoms" "[I" ∈ BG := bg1 (List.mem_of_getElem? (i := 195) (by decide +kernel)) rfl
theorem m_fl_X2_144 : Cond.fieldLink RX2 144 "TypeCourt$Kinds" "roleAtoms" "I" ∈ BG := bg1 (List.mem_of_getElem? (i := 196) (by decide +kernel)) rfl
theorem m_fl_X2_25 : Cond.fieldLink RX2 25 "TypeCourt$Kinds" "fair" "[J" ∈ BG := bg1 (List.mem_of_getElem? (i := 197) (by decide +kernel)) rfl
theorem m_fl_X7_110 : Cond.fieldLink RX7 110 "TypeCourt$Kinds" "fair" "[J" ∈ BG := bg1 (List.mem_of_getElem? (i := 198) (by decide +kernel)) rfl
theorem m_fl_X2_28 : Cond.fieldLink RX2 28 "TypeCourt$Kinds" "standing" "[J" ∈ BG := bg1 (List.mem_of_getElem? (i := 199) (by decide +kernel)) rfl
theorem m_fl_X6_32 : Cond.fieldLink RX6 32 "TypeCourt$Kinds" "standing" "[J" ∈ BG := bg1 (List.mem_of_getElem? (i := 200) (by decide +kernel)) rfl
theorem m_fl_X7_118 : Cond.fieldLink RX7 118 "TypeCourt$Kinds" "standing" "[J" ∈ BG := bg1 (List.mem_of_getElem? (i := 201) (by decide +kernel)) rfl
theorem m_fl_X2_31 : Cond.fieldLink RX2 31 "TypeCourt$Kinds" "trial" "[J" ∈ BG := bg1 (List.mem_of_getElem? (i := 202) (by decide +kernel)) rfl
theorem m_fl_X2_34 : Cond.fieldLink RX2 34 "TypeCourt$Kinds" "before" "[J" ∈ BG := bg1 (List.mem_of_getElem? (i := 203) (by decide +kernel)) rfl
theorem m_fl_X2_37 : Cond.fieldLink RX2 37 "TypeCourt$Kinds" "met" "[J" ∈ BG := bg1 (List.mem_of_getElem? (i := 204) (by decide +kernel)) rfl
theorem m_fl_X2_40 : Cond.fieldLink RX2 40 "TypeCourt$Kinds" "ranks" "[S" ∈ BG := bg1 (List.mem_of_getElem? (i := 205) (by decide +kernel)) rfl
theorem m_fl_X2_114 : Cond.fieldLink RX2 114 "TypeCourt$Kinds" "rounds" "I" ∈ BG := bg1 (List.mem_of_getElem? (i := 206) (by decide +kernel)) rfl
theorem m_fl_X7_121 : Cond.fieldLink RX7 121 "TypeCourt$Kinds" "rounds" "I" ∈ BG := bg1 (List.mem_of_getElem? (i := 207) (by decide +kernel)) rfl
theorem m_ly_X2_0 : u_lay RX2 TX2 0 ∈ BG := bg1 (List.mem_of_getElem? (i := 208) rfl) rfl
theorem m_ly_X2_1 : u_lay RX2 TX2 1 ∈ BG := bg1 (List.mem_of_getElem? (i := 210) rfl) rfl
theorem m_ly_X2_2 : u_lay RX2 TX2 2 ∈ BG := bg1 (List.mem_of_getElem? (i := 212) rfl) rfl
theorem m_ly_X2_3 : u_lay RX2 TX2 3 ∈ BG := bg1 (List.mem_of_getElem? (i := 214) rfl) rfl
theorem m_ly_X2_4 : u_lay RX2 TX2 4 ∈ BG := bg1 (List.mem_of_getElem? (i := 216) rfl) rfl
theorem m_ly_X2_5 : u_lay RX2 TX2 5 ∈ BG := bg1 (List.mem_of_getElem? (i := 218) rfl) rfl
theorem m_ly_X2_6 : u_lay RX2 TX2 6 ∈ BG := bg1 (List.mem_of_getElem? (i := 220) rfl) rfl
theorem m_ly_X2_7 : u_lay RX2 TX2 7 ∈ BG := bg1 (List.mem_of_getElem? (i := 222) rfl) rfl
theorem m_ly_X2_8 : u_lay RX2 TX2 8 ∈ BG := bg1 (List.mem_of_getElem? (i := 224) rfl) rfl
theorem m_ly_X2_9 : u_lay RX2 TX2 9 ∈ BG := bg1 (List.mem_of_getElem? (i := 226) rfl) rfl
theorem m_ly_X2_10 : u_lay RX2 TX2 10 ∈ BG := bg1 (List.mem_of_getElem? (i := 228) rfl) rfl
theorem m_ly_X2_11 : u_lay RX2 TX2 11 ∈ BG := bg1 (List.mem_of_getElem? (i := 230) rfl) rfl
theorem m_ly_X2_12 : u_lay RX2 TX2 12 ∈ BG := bg1 (List.mem_of_getElem? (i := 232) rfl) rfl
theorem m_ly_X2_13 : u_lay RX2 TX2 13 ∈ BG := bg1 (List.mem_of_getElem? (i := 234) rfl) rfl
theorem m_ly_X2_14 : u_lay RX2 TX2 14 ∈ BG := bg1 (List.mem_of_getElem? (i := 236) rfl) rfl
theorem m_ac_short : Cond.arrayClass .short ∈ BG := bg1 (List.mem_of_getElem? (i := 239) (by decide +kernel)) rfl
theorem m_cl_X7_41 : Cond.classLink RX7 41 RX6 ∈ BG := bg2 (List.mem_of_getElem? (i := 0) (by decide +kernel)) rfl
theorem m_mk_X6 : Cond.instantiable RX6 5 ∈ BG := bg2 (List.mem_of_getElem? (i := 1) (by decide +kernel)) rfl
theorem m_im_X6_init : Cond.instanceMethod yX6_init ∈ BG := bg2 (List.mem_of_getElem? (i := 3) (by decide +kernel)) rfl
theorem m_cd_X6_init : Cond.code yX6_init cX6_init 1 none ∈ BG := bg2 (List.mem_of_getElem? (i := 4) rfl) rfl
theorem m_ml_X6_3 : Cond.methodLink RX6 3 objectInit ∈ BG := bg2 (List.mem_of_getElem? (i := 5) (by decide +kernel)) rfl
theorem m_fl_X6_9 : Cond.fieldLink RX6 9 "TypeCourt$World" "things" "[S" ∈ BG := bg2 (List.mem_of_getElem? (i := 6) (by decide +kernel)) rfl
theorem m_fl_X7_179 : Cond.fieldLink RX7 179 "TypeCourt$World" "things" "[S" ∈ BG := bg2 (List.mem_of_getElem? (i := 7) (by decide +kernel)) rfl
theorem m_fl_X6_22 : Cond.fieldLink RX6 22 "TypeCourt$World" "thingCount" "I" ∈ BG := bg2 (List.mem_of_getElem? (i := 8) (by decide +kernel)) rfl
theorem m_fl_X7_124 : Cond.fieldLink RX7 124 "TypeCourt$World" "thingCount" "I" ∈ BG := bg2 (List.mem_of_getElem? (i := 9) (by decide +kernel)) rfl
theorem m_fl_X6_15 : Cond.fieldLink RX6 15 "TypeCourt$World" "thingOfType" "[S" ∈ BG := bg2 (List.mem_of_getElem? (i := 10) (by decide +kernel)) rfl
theorem m_fl_X6_18 : Cond.fieldLink RX6 18 "TypeCourt$World" "edges" "[I" ∈ BG := bg2 (List.mem_of_getElem? (i := 11) (by decide +kernel)) rfl
theorem m_fl_X6_26 : Cond.fieldLink RX6 26 "TypeCourt$World" "edgeCount" "I" ∈ BG := bg2 (List.mem_of_getElem? (i := 12) (by decide +kernel)) rfl
theorem m_fl_X7_127 : Cond.fieldLink RX7 127 "TypeCourt$World" "edgeCount" "I" ∈ BG := bg2 (List.mem_of_getElem? (i := 13) (by decide +kernel)) rfl
theorem m_ly_X6_0 : u_lay RX6 TX6 0 ∈ BG := bg2 (List.mem_of_getElem? (i := 14) rfl) rfl
theorem m_ly_X6_1 : u_lay RX6 TX6 1 ∈ BG := bg2 (List.mem_of_getElem? (i := 16) rfl) rfl
theorem m_ly_X6_2 : u_lay RX6 TX6 2 ∈ BG := bg2 (List.mem_of_getElem? (i := 18) rfl) rfl
theorem m_ly_X6_3 : u_lay RX6 TX6 3 ∈ BG := bg2 (List.mem_of_getElem? (i := 20) rfl) rfl
theorem m_ly_X6_4 : u_lay RX6 TX6 4 ∈ BG := bg2 (List.mem_of_getElem? (i := 22) rfl) rfl
theorem m_cl_X7_48 : Cond.classLink RX7 48 RX3 ∈ BG := bg2 (List.mem_of_getElem? (i := 25) (by decide +kernel)) rfl
theorem m_mk_X3 : Cond.instantiable RX3 5 ∈ BG := bg2 (List.mem_of_getElem? (i := 26) (by decide +kernel)) rfl
theorem m_ml_X7_50 : Cond.methodLink RX7 50 yX3_init ∈ BG := bg2 (List.mem_of_getElem? (i := 27) (by decide +kernel)) rfl
theorem m_im_X3_init : Cond.instanceMethod yX3_init ∈ BG := bg2 (List.mem_of_getElem? (i := 28) (by decide +kernel)) rfl
theorem m_cd_X3_init : Cond.code yX3_init cX3_init 2 none ∈ BG := bg2 (List.mem_of_getElem? (i := 29) rfl) rfl
theorem m_ml_X3_3 : Cond.methodLink RX3 3 objectInit ∈ BG := bg2 (List.mem_of_getElem? (i := 30) (by decide +kernel)) rfl
theorem m_fl_X3_9 : Cond.fieldLink RX3 9 "TypeCourt$Printer" "bytes" "[B" ∈ BG := bg2 (List.mem_of_getElem? (i := 31) (by decide +kernel)) rfl
theorem m_fl_X7_201 : Cond.fieldLink RX7 201 "TypeCourt$Printer" "bytes" "[B" ∈ BG := bg2 (List.mem_of_getElem? (i := 32) (by decide +kernel)) rfl
theorem m_fl_X3_23 : Cond.fieldLink RX3 23 "TypeCourt$Printer" "size" "I" ∈ BG := bg2 (List.mem_of_getElem? (i := 33) (by decide +kernel)) rfl
theorem m_fl_X7_86 : Cond.fieldLink RX7 86 "TypeCourt$Printer" "size" "I" ∈ BG := bg2 (List.mem_of_getElem? (i := 34) (by decide +kernel)) rfl
theorem m_fl_X3_19 : Cond.fieldLink RX3 19 "TypeCourt$Printer" "book" "LTypeCourt$Book;" ∈ BG := bg2 (List.mem_of_getElem? (i := 35) (by decide +kernel)) rfl
theorem m_fl_X3_15 : Cond.fieldLink RX3 15 "TypeCourt$Printer" "waiting" "[I" ∈ BG := bg2 (List.mem_of_getElem? (i := 36) (by decide +kernel)) rfl
theorem m_fl_X3_79 : Cond.fieldLink RX3 79 "TypeCourt$Printer" "waitingCount" "I" ∈ BG := bg2 (List.mem_of_getElem? (i := 37) (by decide +kernel)) rfl
theorem m_ly_X3_0 : u_lay RX3 TX3 0 ∈ BG := bg2 (List.mem_of_getElem? (i := 38) rfl) rfl
theorem m_ly_X3_1 : u_lay RX3 TX3 1 ∈ BG := bg2 (List.mem_of_getElem? (i := 40) rfl) rfl
theorem m_ly_X3_2 : u_lay RX3 TX3 2 ∈ BG := bg2 (List.mem_of_getElem? (i := 42) rfl) rfl
theorem m_ly_X3_3 : u_lay RX3 TX3 3 ∈ BG := bg2 (List.mem_of_getElem? (i := 44) rfl) rfl
theorem m_ly_X3_4 : u_lay RX3 TX3 4 ∈ BG := bg2 (List.mem_of_getElem? (i := 46) rfl) rfl
theorem m_fl_X7_9 : Cond.fieldLink RX7 9 "TypeCourt" "tape" "[B" ∈ BG := bg2 (List.mem_of_getElem? (i := 49) (by decide +kernel)) rfl
theorem m_fl_X7_55 : Cond.fieldLink RX7 55 "TypeCourt" "tapeSize" "I" ∈ BG := bg2 (List.mem_of_getElem? (i := 50) (by decide +kernel)) rfl
theorem m_fl_X7_28 : Cond.fieldLink RX7 28 "TypeCourt" "reader" "LTypeCourt$Reader;" ∈ BG := bg2 (List.mem_of_getElem? (i := 51) (by decide +kernel)) rfl
theorem m_fl_X7_16 : Cond.fieldLink RX7 16 "TypeCourt" "book" "LTypeCourt$Book;" ∈ BG := bg2 (List.mem_of_getElem? (i := 52) (by decide +kernel)) rfl
theorem m_fl_X7_20 : Cond.fieldLink RX7 20 "TypeCourt" "spare" "LTypeCourt$Book;" ∈ BG := bg2 (List.mem_of_getElem? (i := 53) (by decide +kernel)) rfl
theorem m_fl_X7_70 : Cond.fieldLink RX7 70 "TypeCourt" "told" "Z" ∈ BG := bg2 (List.mem_of_getElem? (i := 54) (by decide +kernel)) rfl
theorem m_fl_X7_37 : Cond.fieldLink RX7 37 "TypeCourt" "kinds" "LTypeCourt$Kinds;" ∈ BG := bg2 (List.mem_of_getElem? (i := 55) (by decide +kernel)) rfl
theorem m_fl_X7_44 : Cond.fieldLink RX7 44 "TypeCourt" "world" "LTypeCourt$World;" ∈ BG := bg2 (List.mem_of_getElem? (i := 56) (by decide +kernel)) rfl
theorem m_fl_X7_51 : Cond.fieldLink RX7 51 "TypeCourt" "printer" "LTypeCourt$Printer;" ∈ BG := bg2 (List.mem_of_getElem? (i := 57) (by decide +kernel)) rfl
theorem m_ly_X7_0 : u_lay RX7 TX7 0 ∈ BG := bg2 (List.mem_of_getElem? (i := 58) rfl) rfl
theorem m_ly_X7_1 : u_lay RX7 TX7 1 ∈ BG := bg2 (List.mem_of_getElem? (i := 60) rfl) rfl
theorem m_ly_X7_2 : u_lay RX7 TX7 2 ∈ BG := bg2 (List.mem_of_getElem? (i := 62) rfl) rfl
theorem m_ly_X7_3 : u_lay RX7 TX7 3 ∈ BG := bg2 (List.mem_of_getElem? (i := 64) rfl) rfl
theorem m_ly_X7_4 : u_lay RX7 TX7 4 ∈ BG := bg2 (List.mem_of_getElem? (i := 66) rfl) rfl
theorem m_ly_X7_5 : u_lay RX7 TX7 5 ∈ BG := bg2 (List.mem_of_getElem? (i := 68) rfl) rfl
theorem m_ly_X7_6 : u_lay RX7 TX7 6 ∈ BG := bg2 (List.mem_of_getElem? (i := 70) rfl) rfl
theorem m_ly_X7_7 : u_lay RX7 TX7 7 ∈ BG := bg2 (List.mem_of_getElem? (i := 72) rfl) rfl
theorem m_ly_X7_8 : u_lay RX7 TX7 8 ∈ BG := bg2 (List.mem_of_getElem? (i := 74) rfl) rfl
theorem m_ml_L_13 : Cond.methodLink RL 13 yX7_feed ∈ BG := bg2 (List.mem_of_getElem? (i := 77) (by decide +kernel)) rfl
theorem m_im_X7_feed : Cond.instanceMethod yX7_feed ∈ BG := bg2 (List.mem_of_getElem? (i := 78) (by decide +kernel)) rfl
theorem m_se_X7_feed : Cond.selects RX7 yX7_feed yX7_feed ∈ BG := bg2 (List.mem_of_getElem? (i := 79) (by decide +kernel)) rfl
theorem m_cd_X7_feed : Cond.code yX7_feed cX7_feed 6 (some .int) ∈ BG := bg2 (List.mem_of_getElem? (i := 80) rfl) rfl
theorem m_ml_X7_59 : Cond.methodLink RX7 59 yX7_feedOne ∈ BG := bg2 (List.mem_of_getElem? (i := 81) (by decide +kernel)) rfl
theorem m_im_X7_feedOne : Cond.instanceMethod yX7_feedOne ∈ BG := bg2 (List.mem_of_getElem? (i := 83) (by decide +kernel)) rfl
theorem m_cd_X7_feedOne : Cond.code yX7_feedOne cX7_feedOne 3 none ∈ BG := bg2 (List.mem_of_getElem? (i := 84) rfl) rfl
theorem m_ml_L_18 : Cond.methodLink RL 18 yX7_cut ∈ BG := bg2 (List.mem_of_getElem? (i := 85) (by decide +kernel)) rfl
theorem m_im_X7_cut : Cond.instanceMethod yX7_cut ∈ BG := bg2 (List.mem_of_getElem? (i := 86) (by decide +kernel)) rfl
theorem m_se_X7_cut : Cond.selects RX7 yX7_cut yX7_cut ∈ BG := bg2 (List.mem_of_getElem? (i := 87) (by decide +kernel)) rfl
theorem m_cd_X7_cut : Cond.code yX7_cut cX7_cut 3 (some .int) ∈ BG := bg2 (List.mem_of_getElem? (i := 88) rfl) rfl
theorem m_ml_L_23 : Cond.methodLink RL 23 yX7_read ∈ BG := bg2 (List.mem_of_getElem? (i := 89) (by decide +kernel)) rfl
theorem m_im_X7_read : Cond.instanceMethod yX7_read ∈ BG := bg2 (List.mem_of_getElem? (i := 90) (by decide +kernel)) rfl
theorem m_se_X7_read : Cond.selects RX7 yX7_read yX7_read ∈ BG := bg2 (List.mem_of_getElem? (i := 91) (by decide +kernel)) rfl
theorem m_cd_X7_read : Cond.code yX7_read cX7_read 3 (some .int) ∈ BG := bg2 (List.mem_of_getElem? (i := 92) rfl) rfl
theorem m_ml_X7_63 : Cond.methodLink RX7 63 yX4_takeIn ∈ BG := bg2 (List.mem_of_getElem? (i := 93) (by decide +kernel)) rfl
theorem m_im_X4_takeIn : Cond.instanceMethod yX4_takeIn ∈ BG := bg2 (List.mem_of_getElem? (i := 94) (by decide +kernel)) rfl
theorem m_se_X4_takeIn : Cond.selects RX4 yX4_takeIn yX4_takeIn ∈ BG := bg2 (List.mem_of_getElem? (i := 95) (by decide +kernel)) rfl
theorem m_cd_X4_takeIn : Cond.code yX4_takeIn cX4_takeIn 4 (some .boolean) ∈ BG := bg2 (List.mem_of_getElem? (i := 96) rfl) rfl
theorem m_ml_X4_35 : Cond.methodLink RX4 35 yX0_clear ∈ BG := bg2 (List.mem_of_getElem? (i := 97) (by decide +kernel)) rfl
theorem m_im_X0_clear : Cond.instanceMethod yX0_clear ∈ BG := bg2 (List.mem_of_getElem? (i := 98) (by decide +kernel)) rfl
theorem m_se_X0_clear : Cond.selects RX0 yX0_clear yX0_clear ∈ BG := bg2 (List.mem_of_getElem? (i := 99) (by decide +kernel)) rfl
theorem m_cd_X0_clear : Cond.code yX0_clear cX0_clear 2 none ∈ BG := bg2 (List.mem_of_getElem? (i := 100) rfl) rfl
theorem m_ml_X0_38 : Cond.methodLink RX0 38 yX1_clear ∈ BG := bg2 (List.mem_of_getElem? (i := 101) (by decide +kernel)) rfl
theorem m_im_X1_clear : Cond.instanceMethod yX1_clear ∈ BG := bg2 (List.mem_of_getElem? (i := 102) (by decide +kernel)) rfl
theorem m_se_X1_clear : Cond.selects RX1 yX1_clear yX1_clear ∈ BG := bg2 (List.mem_of_getElem? (i := 103) (by decide +kernel)) rfl
theorem m_cd_X1_clear : Cond.code yX1_clear cX1_clear 1 none ∈ BG := bg2 (List.mem_of_getElem? (i := 104) rfl) rfl
theorem m_ml_X4_41 : Cond.methodLink RX4 41 yX5_start ∈ BG := bg2 (List.mem_of_getElem? (i := 105) (by decide +kernel)) rfl
theorem m_im_X5_start : Cond.instanceMethod yX5_start ∈ BG := bg2 (List.mem_of_getElem? (i := 106) (by decide +kernel)) rfl
theorem m_se_X5_start : Cond.selects RX5 yX5_start yX5_start ∈ BG := bg2 (List.mem_of_getElem? (i := 107) (by decide +kernel)) rfl
theorem m_cd_X5_start : Cond.code yX5_start cX5_start 2 none ∈ BG := bg2 (List.mem_of_getElem? (i := 108) rfl) rfl
theorem m_ml_X5_15 : Cond.methodLink RX5 15 Lib.Math.min.name ∈ BG := bg2 (List.mem_of_getElem? (i := 109) (by decide +kernel)) rfl
theorem m_st_java_lang_Math_min : Cond.static Lib.Math.min.name ∈ BG := bg2 (List.mem_of_getElem? (i := 110) (by decide +kernel)) rfl
theorem m_cd_java_lang_Math_min : Cond.code Lib.Math.min.name Lib.Math.min.code 2 (some .int) ∈ BG := bg2 (List.mem_of_getElem? (i := 111) rfl) rfl
theorem m_ml_X5_28 : Cond.methodLink RX5 28 yX5_step ∈ BG := bg2 (List.mem_of_getElem? (i := 112) (by decide +kernel)) rfl
theorem m_im_X5_step : Cond.instanceMethod yX5_step ∈ BG := bg2 (List.mem_of_getElem? (i := 113) (by decide +kernel)) rfl
theorem m_se_X5_step : Cond.selects RX5 yX5_step yX5_step ∈ BG := bg2 (List.mem_of_getElem? (i := 114) (by decide +kernel)) rfl
theorem m_cd_X5_step : Cond.code yX5_step cX5_step 1 none ∈ BG := bg2 (List.mem_of_getElem? (i := 115) rfl) rfl
theorem m_ml_X5_31 : Cond.methodLink RX5 31 yX5_skipBlanks ∈ BG := bg2 (List.mem_of_getElem? (i := 116) (by decide +kernel)) rfl
theorem m_im_X5_skipBlanks : Cond.instanceMethod yX5_skipBlanks ∈ BG := bg2 (List.mem_of_getElem? (i := 118) (by decide +kernel)) rfl
theorem m_cd_X5_skipBlanks : Cond.code yX5_skipBlanks cX5_skipBlanks 1 none ∈ BG := bg2 (List.mem_of_getElem? (i := 119) rfl) rfl
theorem m_ml_X5_44 : Cond.methodLink RX5 44 yX5_isLetter ∈ BG := bg2 (List.mem_of_getElem? (i := 120) (by decide +kernel)) rfl
theorem m_st_X5_isLetter : Cond.static yX5_isLetter ∈ BG := bg2 (List.mem_of_getElem? (i := 121) (by decide +kernel)) rfl
theorem m_cd_X5_isLetter : Cond.code yX5_isLetter cX5_isLetter 1 (some .boolean) ∈ BG := bg2 (List.mem_of_getElem? (i := 122) rfl) rfl
theorem m_ml_X5_48 : Cond.methodLink RX5 48 yX5_isDigit ∈ BG := bg2 (List.mem_of_getElem? (i := 123) (by decide +kernel)) rfl
theorem m_st_X5_isDigit : Cond.static yX5_isDigit ∈ BG := bg2 (List.mem_of_getElem? (i := 124) (by decide +kernel)) rfl
theorem m_cd_X5_isDigit : Cond.code yX5_isDigit cX5_isDigit 1 (some .boolean) ∈ BG := bg2 (List.mem_of_getElem? (i := 125) rfl) rfl
theorem m_ml_X5_51 : Cond.methodLink RX5 51 yX5_takeRow ∈ BG := bg2 (List.mem_of_getElem? (i := 126) (by decide +kernel)) rfl
theorem m_im_X5_takeRow : Cond.instanceMethod yX5_takeRow ∈ BG := bg2 (List.mem_of_getElem? (i := 128) (by decide +kernel)) rfl
theorem m_cd_X5_takeRow : Cond.code yX5_takeRow cX5_takeRow 2 none ∈ BG := bg2 (List.mem_of_getElem? (i := 129) rfl) rfl
theorem m_ml_X5_57 : Cond.methodLink RX5 57 yX5_isKeyword ∈ BG := bg2 (List.mem_of_getElem? (i := 130) (by decide +kernel)) rfl
theorem m_st_X5_isKeyword : Cond.static yX5_isKeyword ∈ BG := bg2 (List.mem_of_getElem? (i := 131) (by decide +kernel)) rfl
theorem m_cd_X5_isKeyword : Cond.code yX5_isKeyword cX5_isKeyword 2 (some .boolean) ∈ BG := bg2 (List.mem_of_getElem? (i := 132) rfl) rfl
theorem m_kl_X5_71 : Cond.constantLong RX5 71 (6386539) ∈ BG := bg2 (List.mem_of_getElem? (i := 133) (by decide +kernel)) rfl
theorem m_kl_X5_73 : Cond.constantLong RX5 73 (504363246962) ∈ BG := bg2 (List.mem_of_getElem? (i := 134) (by decide +kernel)) rfl
theorem m_kl_X5_75 : Cond.constantLong RX5 75 (126896661032037) ∈ BG := bg2 (List.mem_of_getElem? (i := 135) (by decide +kernel)) rfl
theorem m_kl_X5_77 : Cond.constantLong RX5 77 (28530) ∈ BG := bg2 (List.mem_of_getElem? (i := 136) (by decide +kernel)) rfl
theorem m_kl_X5_79 : Cond.constantLong RX5 79 (6385252) ∈ BG := bg2 (List.mem_of_getElem? (i := 137) (by decide +kernel)) rfl
theorem m_kl_X5_81 : Cond.constantLong RX5 81 (7237492) ∈ BG := bg2 (List.mem_of_getElem? (i := 138) (by decide +kernel)) rfl
theorem m_kl_X5_83 : Cond.constantLong RX5 83 (1936682341) ∈ BG := bg2 (List.mem_of_getElem? (i := 139) (by decide +kernel)) rfl
theorem m_kl_X5_85 : Cond.constantLong RX5 85 (435778056825) ∈ BG := bg2 (List.mem_of_getElem? (i := 140) (by decide +kernel)) rfl
theorem m_kl_X5_87 : Cond.constantLong RX5 87 (7630704) ∈ BG := bg2 (List.mem_of_getElem? (i := 141) (by decide +kernel)) rfl
theorem m_kl_X5_89 : Cond.constantLong RX5 89 (108230834679661) ∈ BG := bg2 (List.mem_of_getElem? (i := 142) (by decide +kernel)) rfl
theorem m_ml_X5_54 : Cond.methodLink RX5 54 yX5_takeSign ∈ BG := bg2 (List.mem_of_getElem? (i := 143) (by decide +kernel)) rfl
theorem m_im_X5_takeSign : Cond.instanceMethod yX5_takeSign ∈ BG := bg2 (List.mem_of_getElem? (i := 145) (by decide +kernel)) rfl
theorem m_cd_X5_takeSign : Cond.code yX5_takeSign cX5_takeSign 2 none ∈ BG := bg2 (List.mem_of_getElem? (i := 146) rfl) rfl
theorem m_kl_X5_61 : Cond.constantLong RX5 61 (60) ∈ BG := bg2 (List.mem_of_getElem? (i := 147) (by decide +kernel)) rfl
theorem m_kl_X5_63 : Cond.constantLong RX5 63 (61) ∈ BG := bg2 (List.mem_of_getElem? (i := 148) (by decide +kernel)) rfl
theorem m_kl_X5_65 : Cond.constantLong RX5 65 (59) ∈ BG := bg2 (List.mem_of_getElem? (i := 149) (by decide +kernel)) rfl
theorem m_kl_X5_67 : Cond.constantLong RX5 67 (40) ∈ BG := bg2 (List.mem_of_getElem? (i := 150) (by decide +kernel)) rfl
theorem m_kl_X5_69 : Cond.constantLong RX5 69 (41) ∈ BG := bg2 (List.mem_of_getElem? (i := 151) (by decide +kernel)) rfl
theorem m_kl_X4_52 : Cond.constantLong RX4 52 (6386539) ∈ BG := bg2 (List.mem_of_getElem? (i := 152) (by decide +kernel)) rfl
theorem m_ml_X4_54 : Cond.methodLink RX4 54 yX4_takeQuestion ∈ BG := bg2 (List.mem_of_getElem? (i := 153) (by decide +kernel)) rfl
theorem m_im_X4_takeQuestion : Cond.instanceMethod yX4_takeQuestion ∈ BG := bg2 (List.mem_of_getElem? (i := 155) (by decide +kernel)) rfl
theorem m_cd_X4_takeQuestion : Cond.code yX4_takeQuestion cX4_takeQuestion 2 none ∈ BG := bg2 (List.mem_of_getElem? (i := 156) rfl) rfl
theorem m_ml_X4_77 : Cond.methodLink RX4 77 yX4_failHere ∈ BG := bg2 (List.mem_of_getElem? (i := 157) (by decide +kernel)) rfl
theorem m_im_X4_failHere : Cond.instanceMethod yX4_failHere ∈ BG := bg2 (List.mem_of_getElem? (i := 159) (by decide +kernel)) rfl
theorem m_cd_X4_failHere : Cond.code yX4_failHere cX4_failHere 2 (some .int) ∈ BG := bg2 (List.mem_of_getElem? (i := 160) rfl) rfl
theorem m_ml_X4_73 : Cond.methodLink RX4 73 yX4_fail ∈ BG := bg2 (List.mem_of_getElem? (i := 161) (by decide +kernel)) rfl
theorem m_im_X4_fail : Cond.instanceMethod yX4_fail ∈ BG := bg2 (List.mem_of_getElem? (i := 163) (by decide +kernel)) rfl
theorem m_cd_X4_fail : Cond.code yX4_fail cX4_fail 3 (some .int) ∈ BG := bg2 (List.mem_of_getElem? (i := 164) rfl) rfl
theorem m_ml_X4_87 : Cond.methodLink RX4 87 yX5_step ∈ BG := bg2 (List.mem_of_getElem? (i := 165) (by decide +kernel)) rfl
theorem m_ml_X4_97 : Cond.methodLink RX4 97 yX4_takeConcept ∈ BG := bg2 (List.mem_of_getElem? (i := 166) (by decide +kernel)) rfl
theorem m_im_X4_takeConcept : Cond.instanceMethod yX4_takeConcept ∈ BG := bg2 (List.mem_of_getElem? (i := 168) (by decide +kernel)) rfl
theorem m_cd_X4_takeConcept : Cond.code yX4_takeConcept cX4_takeConcept 5 (some .int) ∈ BG := bg2 (List.mem_of_getElem? (i := 169) rfl) rfl
theorem m_ml_X4_148 : Cond.methodLink RX4 148 yX4_takeAll ∈ BG := bg2 (List.mem_of_getElem? (i := 170) (by decide +kernel)) rfl
theorem m_im_X4_takeAll : Cond.instanceMethod yX4_takeAll ∈ BG := bg2 (List.mem_of_getElem? (i := 172) (by decide +kernel)) rfl
theorem m_cd_X4_takeAll : Cond.code yX4_takeAll cX4_takeAll 5 (some .int) ∈ BG := bg2 (List.mem_of_getElem? (i := 173) rfl) rfl
theorem m_ml_X4_162 : Cond.methodLink RX4 162 yX4_takeOne ∈ BG := bg2 (List.mem_of_getElem? (i := 174) (by decide +kernel)) rfl
theorem m_im_X4_takeOne : Cond.instanceMethod yX4_takeOne ∈ BG := bg2 (List.mem_of_getElem? (i := 176) (by decide +kernel)) rfl
theorem m_cd_X4_takeOne : Cond.code yX4_takeOne cX4_takeOne 6 (some .int) ∈ BG := bg2 (List.mem_of_getElem? (i := 177) rfl) rfl
theorem m_ml_X4_90 : Cond.methodLink RX4 90 yX5_beginsConcept ∈ BG := bg2 (List.mem_of_getElem? (i := 178) (by decide +kernel)) rfl
theorem m_im_X5_beginsConcept : Cond.instanceMethod yX5_beginsConcept ∈ BG := bg2 (List.mem_of_getElem? (i := 179) (by decide +kernel)) rfl
theorem m_se_X5_beginsConcept : Cond.selects RX5 yX5_beginsConcept yX5_beginsConcept ∈ BG := bg2 (List.mem_of_getElem? (i := 180) (by decide +kernel)) rfl
theorem m_cd_X5_beginsConcept : Cond.code yX5_beginsConcept cX5_beginsConcept 1 (some .boolean) ∈ BG := bg2 (List.mem_of_getElem? (i := 181) rfl) rfl
theorem m_ml_X5_91 : Cond.methodLink RX5 91 yX5_holdsConcept ∈ BG := bg2 (List.mem_of_getElem? (i := 182) (by decide +kernel)) rfl
theorem m_im_X5_holdsConcept : Cond.instanceMethod yX5_holdsConcept ∈ BG := bg2 (List.mem_of_getElem? (i := 183) (by decide +kernel)) rfl
theorem m_se_X5_holdsConcept : Cond.selects RX5 yX5_holdsConcept yX5_holdsConcept ∈ BG := bg2 (List.mem_of_getElem? (i := 184) (by decide +kernel)) rfl
theorem m_cd_X5_holdsConcept : Cond.code yX5_holdsConcept cX5_holdsConcept 1 (some .boolean) ∈ BG := bg2 (List.mem_of_getElem? (i := 185) rfl) rfl
theorem m_ml_X4_83 : Cond.methodLink RX4 83 yX4_misplaced ∈ BG := bg2 (List.mem_of_getElem? (i := 186) (by decide +kernel)) rfl
theorem m_im_X4_misplaced : Cond.instanceMethod yX4_misplaced ∈ BG := bg2 (List.mem_of_getElem? (i := 188) (by decide +kernel)) rfl
theorem m_cd_X4_misplaced : Cond.code yX4_misplaced cX4_misplaced 1 (some .int) ∈ BG := bg2 (List.mem_of_getElem? (i := 189) rfl) rfl
theorem m_ml_X4_167 : Cond.methodLink RX4 167 yX5_holdsConcept ∈ BG := bg2 (List.mem_of_getElem? (i := 190) (by decide +kernel)) rfl
theorem m_kl_X4_170 : Cond.constantLong RX4 170 (40) ∈ BG := bg2 (List.mem_of_getElem? (i := 191) (by decide +kernel)) rfl
theorem m_ml_X4_153 : Cond.methodLink RX4 153 yX4_countConcept ∈ BG := bg2 (List.mem_of_getElem? (i := 192) (by decide +kernel)) rfl
theorem m_im_X4_countConcept : Cond.instanceMethod yX4_countConcept ∈ BG := bg2 (List.mem_of_getElem? (i := 194) (by decide +kernel)) rfl
theorem m_cd_X4_countConcept : Cond.code yX4_countConcept cX4_countConcept 1 (some .boolean) ∈ BG := bg2 (List.mem_of_getElem? (i := 195) rfl) rfl
theorem m_ml_X4_172 : Cond.methodLink RX4 172 yX4_takeName ∈ BG := bg2 (List.mem_of_getElem? (i := 196) (by decide +kernel)) rfl
theorem m_im_X4_takeName : Cond.instanceMethod yX4_takeName ∈ BG := bg2 (List.mem_of_getElem? (i := 198) (by decide +kernel)) rfl
theorem m_cd_X4_takeName : Cond.code yX4_takeName cX4_takeName 3 (some .int) ∈ BG := bg2 (List.mem_of_getElem? (i := 199) rfl) rfl
theorem m_ml_X4_142 : Cond.methodLink RX4 142 yX0_findName ∈ BG := bg2 (List.mem_of_getElem? (i := 200) (by decide +kernel)) rfl
theorem m_im_X0_findName : Cond.instanceMethod yX0_findName ∈ BG := bg2 (List.mem_of_getElem? (i := 201) (by decide +kernel)) rfl
theorem m_se_X0_findName : Cond.selects RX0 yX0_findName yX0_findName ∈ BG := bg2 (List.mem_of_getElem? (i := 202) (by decide +kernel)) rfl
theorem m_cd_X0_findName : Cond.code yX0_findName cX0_findName 3 (some .int) ∈ BG := bg2 (List.mem_of_getElem? (i := 203) rfl) rfl
theorem m_ml_X0_66 : Cond.methodLink RX0 66 yX0_find ∈ BG := bg2 (List.mem_of_getElem? (i := 204) (by decide +kernel)) rfl
theorem m_st_X0_find : Cond.static yX0_find ∈ BG := bg2 (List.mem_of_getElem? (i := 205) (by decide +kernel)) rfl
theorem m_cd_X0_find : Cond.code yX0_find cX0_find 5 (some .int) ∈ BG := bg2 (List.mem_of_getElem? (i := 206) rfl) rfl
theorem m_ml_X4_138 : Cond.methodLink RX4 138 yX0_findRole ∈ BG := bg2 (List.mem_of_getElem? (i := 207) (by decide +kernel)) rfl
theorem m_im_X0_findRole : Cond.instanceMethod yX0_findRole ∈ BG := bg2 (List.mem_of_getElem? (i := 208) (by decide +kernel)) rfl
theorem m_se_X0_findRole : Cond.selects RX0 yX0_findRole yX0_findRole ∈ BG := bg2 (List.mem_of_getElem? (i := 209) (by decide +kernel)) rfl
theorem m_cd_X0_findRole : Cond.code yX0_findRole cX0_findRole 3 (some .int) ∈ BG := bg2 (List.mem_of_getElem? (i := 210) rfl) rfl
theorem m_ml_X4_191 : Cond.methodLink RX4 191 yX0_addName ∈ BG := bg2 (List.mem_of_getElem? (i := 211) (by decide +kernel)) rfl
theorem m_im_X0_addName : Cond.instanceMethod yX0_addName ∈ BG := bg2 (List.mem_of_getElem? (i := 212) (by decide +kernel)) rfl
theorem m_se_X0_addName : Cond.selects RX0 yX0_addName yX0_addName ∈ BG := bg2 (List.mem_of_getElem? (i := 213) (by decide +kernel)) rfl
theorem m_cd_X0_addName : Cond.code yX0_addName cX0_addName 3 (some .int) ∈ BG := bg2 (List.mem_of_getElem? (i := 214) rfl) rfl
theorem m_ml_X4_156 : Cond.methodLink RX4 156 yX1_make ∈ BG := bg2 (List.mem_of_getElem? (i := 215) (by decide +kernel)) rfl
theorem m_im_X1_make : Cond.instanceMethod yX1_make ∈ BG := bg2 (List.mem_of_getElem? (i := 216) (by decide +kernel)) rfl
theorem m_se_X1_make : Cond.selects RX1 yX1_make yX1_make ∈ BG := bg2 (List.mem_of_getElem? (i := 217) (by decide +kernel)) rfl
theorem m_cd_X1_make : Cond.code yX1_make cX1_make 7 (some .int) ∈ BG := bg2 (List.mem_of_getElem? (i := 218) rfl) rfl
theorem m_ml_X1_43 : Cond.methodLink RX1 43 yX1_find ∈ BG := bg2 (List.mem_of_getElem? (i := 219) (by decide +kernel)) rfl
theorem m_im_X1_find : Cond.instanceMethod yX1_find ∈ BG := bg2 (List.mem_of_getElem? (i := 221) (by decide +kernel)) rfl
theorem m_cd_X1_find : Cond.code yX1_find cX1_find 5 (some .int) ∈ BG := bg2 (List.mem_of_getElem? (i := 222) rfl) rfl
theorem m_ml_X1_47 : Cond.methodLink RX1 47 yX1_atomFor ∈ BG := bg2 (List.mem_of_getElem? (i := 223) (by decide +kernel)) rfl
theorem m_im_X1_atomFor : Cond.instanceMethod yX1_atomFor ∈ BG := bg2 (List.mem_of_getElem? (i := 225) (by decide +kernel)) rfl
theorem m_cd_X1_atomFor : Cond.code yX1_atomFor cX1_atomFor 6 (some .int) ∈ BG := bg2 (List.mem_of_getElem? (i := 226) rfl) rfl
theorem m_ml_X1_51 : Cond.methodLink RX1 51 yX1_atomOfRole ∈ BG := bg2 (List.mem_of_getElem? (i := 227) (by decide +kernel)) rfl
theorem m_im_X1_atomOfRole : Cond.instanceMethod yX1_atomOfRole ∈ BG := bg2 (List.mem_of_getElem? (i := 229) (by decide +kernel)) rfl
theorem m_cd_X1_atomOfRole : Cond.code yX1_atomOfRole cX1_atomOfRole 4 (some .int) ∈ BG := bg2 (List.mem_of_getElem? (i := 230) rfl) rfl
theorem m_ml_X1_54 : Cond.methodLink RX1 54 yX1_sortOf ∈ BG := bg2 (List.mem_of_getElem? (i := 231) (by decide +kernel)) rfl
theorem m_im_X1_sortOf : Cond.instanceMethod yX1_sortOf ∈ BG := bg2 (List.mem_of_getElem? (i := 232) (by decide +kernel)) rfl
theorem m_se_X1_sortOf : Cond.selects RX1 yX1_sortOf yX1_sortOf ∈ BG := bg2 (List.mem_of_getElem? (i := 233) (by decide +kernel)) rfl
theorem m_cd_X1_sortOf : Cond.code yX1_sortOf cX1_sortOf 2 (some .int) ∈ BG := bg2 (List.mem_of_getElem? (i := 234) rfl) rfl
theorem m_ml_X1_58 : Cond.methodLink RX1 58 yX1_leftOf ∈ BG := bg2 (List.mem_of_getElem? (i := 235) (by decide +kernel)) rfl
theorem m_im_X1_leftOf : Cond.instanceMethod yX1_leftOf ∈ BG := bg2 (List.mem_of_getElem? (i := 236) (by decide +kernel)) rfl
theorem m_se_X1_leftOf : Cond.selects RX1 yX1_leftOf yX1_leftOf ∈ BG := bg2 (List.mem_of_getElem? (i := 237) (by decide +kernel)) rfl
theorem m_cd_X1_leftOf : Cond.code yX1_leftOf cX1_leftOf 2 (some .int) ∈ BG := bg2 (List.mem_of_getElem? (i := 238) rfl) rfl
theorem m_ml_X4_175 : Cond.methodLink RX4 175 yX4_takeBracketed ∈ BG := bg2 (List.mem_of_getElem? (i := 239) (by decide +kernel)) rfl
theorem m_im_X4_takeBracketed : Cond.instanceMethod yX4_takeBracketed ∈ BG := bg3 (List.mem_of_getElem? (i := 1) (by decide +kernel)) rfl
theorem m_cd_X4_takeBracketed : Cond.code yX4_takeBracketed cX4_takeBracketed 3 (some .int) ∈ BG := bg3 (List.mem_of_getElem? (i := 2) rfl) rfl
theorem m_kl_X4_189 : Cond.constantLong RX4 189 (41) ∈ BG := bg3 (List.mem_of_getElem? (i := 3) (by decide +kernel)) rfl
theorem m_kl_X4_178 : Cond.constantLong RX4 178 (7630704) ∈ BG := bg3 (List.mem_of_getElem? (i := 4) (by decide +kernel)) rfl
theorem m_kl_X4_180 : Cond.constantLong RX4 180 (108230834679661) ∈ BG := bg3 (List.mem_of_getElem? (i := 5) (by decide +kernel)) rfl
theorem m_kl_X4_182 : Cond.constantLong RX4 182 (7237492) ∈ BG := bg3 (List.mem_of_getElem? (i := 6) (by decide +kernel)) rfl
theorem m_kl_X4_184 : Cond.constantLong RX4 184 (1936682341) ∈ BG := bg3 (List.mem_of_getElem? (i := 7) (by decide +kernel)) rfl
theorem m_ml_X4_186 : Cond.methodLink RX4 186 yX4_takeQuantified ∈ BG := bg3 (List.mem_of_getElem? (i := 8) (by decide +kernel)) rfl
theorem m_im_X4_takeQuantified : Cond.instanceMethod yX4_takeQuantified ∈ BG := bg3 (List.mem_of_getElem? (i := 10) (by decide +kernel)) rfl
theorem m_cd_X4_takeQuantified : Cond.code yX4_takeQuantified cX4_takeQuantified 7 (some .int) ∈ BG := bg3 (List.mem_of_getElem? (i := 11) rfl) rfl
theorem m_ml_X4_117 : Cond.methodLink RX4 117 yX4_takeRole ∈ BG := bg3 (List.mem_of_getElem? (i := 12) (by decide +kernel)) rfl
theorem m_im_X4_takeRole : Cond.instanceMethod yX4_takeRole ∈ BG := bg3 (List.mem_of_getElem? (i := 14) (by decide +kernel)) rfl
theorem m_cd_X4_takeRole : Cond.code yX4_takeRole cX4_takeRole 2 (some .int) ∈ BG := bg3 (List.mem_of_getElem? (i := 15) rfl) rfl
theorem m_ml_X4_145 : Cond.methodLink RX4 145 yX0_addRole ∈ BG := bg3 (List.mem_of_getElem? (i := 16) (by decide +kernel)) rfl
theorem m_im_X0_addRole : Cond.instanceMethod yX0_addRole ∈ BG := bg3 (List.mem_of_getElem? (i := 17) (by decide +kernel)) rfl
theorem m_se_X0_addRole : Cond.selects RX0 yX0_addRole yX0_addRole ∈ BG := bg3 (List.mem_of_getElem? (i := 18) (by decide +kernel)) rfl
theorem m_cd_X0_addRole : Cond.code yX0_addRole cX0_addRole 3 (some .int) ∈ BG := bg3 (List.mem_of_getElem? (i := 19) rfl) rfl
theorem m_kl_X4_165 : Cond.constantLong RX4 165 (6385252) ∈ BG := bg3 (List.mem_of_getElem? (i := 20) (by decide +kernel)) rfl
theorem m_kl_X4_151 : Cond.constantLong RX4 151 (28530) ∈ BG := bg3 (List.mem_of_getElem? (i := 21) (by decide +kernel)) rfl
theorem m_ml_X4_104 : Cond.methodLink RX4 104 yX4_takeEnd ∈ BG := bg3 (List.mem_of_getElem? (i := 22) (by decide +kernel)) rfl
theorem m_im_X4_takeEnd : Cond.instanceMethod yX4_takeEnd ∈ BG := bg3 (List.mem_of_getElem? (i := 24) (by decide +kernel)) rfl
theorem m_cd_X4_takeEnd : Cond.code yX4_takeEnd cX4_takeEnd 1 (some .boolean) ∈ BG := bg3 (List.mem_of_getElem? (i := 25) rfl) rfl
theorem m_kl_X4_81 : Cond.constantLong RX4 81 (59) ∈ BG := bg3 (List.mem_of_getElem? (i := 26) (by decide +kernel)) rfl
theorem m_ml_X4_114 : Cond.methodLink RX4 114 yX0_addQuestion ∈ BG := bg3 (List.mem_of_getElem? (i := 27) (by decide +kernel)) rfl
theorem m_im_X0_addQuestion : Cond.instanceMethod yX0_addQuestion ∈ BG := bg3 (List.mem_of_getElem? (i := 28) (by decide +kernel)) rfl
theorem m_se_X0_addQuestion : Cond.selects RX0 yX0_addQuestion yX0_addQuestion ∈ BG := bg3 (List.mem_of_getElem? (i := 29) (by decide +kernel)) rfl
theorem m_cd_X0_addQuestion : Cond.code yX0_addQuestion cX0_addQuestion 2 none ∈ BG := bg3 (List.mem_of_getElem? (i := 30) rfl) rfl
theorem m_ml_X0_70 : Cond.methodLink RX0 70 yX0_addStatement ∈ BG := bg3 (List.mem_of_getElem? (i := 31) (by decide +kernel)) rfl
theorem m_im_X0_addStatement : Cond.instanceMethod yX0_addStatement ∈ BG := bg3 (List.mem_of_getElem? (i := 33) (by decide +kernel)) rfl
theorem m_cd_X0_addStatement : Cond.code yX0_addStatement cX0_addStatement 5 (some .int) ∈ BG := bg3 (List.mem_of_getElem? (i := 34) rfl) rfl
theorem m_kl_X4_57 : Cond.constantLong RX4 57 (504363246962) ∈ BG := bg3 (List.mem_of_getElem? (i := 35) (by decide +kernel)) rfl
theorem m_ml_X4_59 : Cond.methodLink RX4 59 yX4_takeOrder ∈ BG := bg3 (List.mem_of_getElem? (i := 36) (by decide +kernel)) rfl
theorem m_im_X4_takeOrder : Cond.instanceMethod yX4_takeOrder ∈ BG := bg3 (List.mem_of_getElem? (i := 38) (by decide +kernel)) rfl
theorem m_cd_X4_takeOrder : Cond.code yX4_takeOrder cX4_takeOrder 4 none ∈ BG := bg3 (List.mem_of_getElem? (i := 39) rfl) rfl
theorem m_ml_X4_120 : Cond.methodLink RX4 120 yX0_isSingle ∈ BG := bg3 (List.mem_of_getElem? (i := 40) (by decide +kernel)) rfl
theorem m_im_X0_isSingle : Cond.instanceMethod yX0_isSingle ∈ BG := bg3 (List.mem_of_getElem? (i := 41) (by decide +kernel)) rfl
theorem m_se_X0_isSingle : Cond.selects RX0 yX0_isSingle yX0_isSingle ∈ BG := bg3 (List.mem_of_getElem? (i := 42) (by decide +kernel)) rfl
theorem m_cd_X0_isSingle : Cond.code yX0_isSingle cX0_isSingle 2 (some .boolean) ∈ BG := bg3 (List.mem_of_getElem? (i := 43) rfl) rfl
theorem m_ml_X4_124 : Cond.methodLink RX4 124 yX0_isRoleUnder ∈ BG := bg3 (List.mem_of_getElem? (i := 44) (by decide +kernel)) rfl
theorem m_im_X0_isRoleUnder : Cond.instanceMethod yX0_isRoleUnder ∈ BG := bg3 (List.mem_of_getElem? (i := 45) (by decide +kernel)) rfl
theorem m_se_X0_isRoleUnder : Cond.selects RX0 yX0_isRoleUnder yX0_isRoleUnder ∈ BG := bg3 (List.mem_of_getElem? (i := 46) (by decide +kernel)) rfl
theorem m_cd_X0_isRoleUnder : Cond.code yX0_isRoleUnder cX0_isRoleUnder 3 (some .boolean) ∈ BG := bg3 (List.mem_of_getElem? (i := 47) rfl) rfl
theorem m_ml_X0_74 : Cond.methodLink RX0 74 yX0_rolesAbove ∈ BG := bg3 (List.mem_of_getElem? (i := 48) (by decide +kernel)) rfl
theorem m_im_X0_rolesAbove : Cond.instanceMethod yX0_rolesAbove ∈ BG := bg3 (List.mem_of_getElem? (i := 50) (by decide +kernel)) rfl
theorem m_cd_X0_rolesAbove : Cond.code yX0_rolesAbove cX0_rolesAbove 2 (some .int) ∈ BG := bg3 (List.mem_of_getElem? (i := 51) rfl) rfl
theorem m_ml_X4_128 : Cond.methodLink RX4 128 yX0_addOrder ∈ BG := bg3 (List.mem_of_getElem? (i := 52) (by decide +kernel)) rfl
theorem m_im_X0_addOrder : Cond.instanceMethod yX0_addOrder ∈ BG := bg3 (List.mem_of_getElem? (i := 53) (by decide +kernel)) rfl
theorem m_se_X0_addOrder : Cond.selects RX0 yX0_addOrder yX0_addOrder ∈ BG := bg3 (List.mem_of_getElem? (i := 54) (by decide +kernel)) rfl
theorem m_cd_X0_addOrder : Cond.code yX0_addOrder cX0_addOrder 5 none ∈ BG := bg3 (List.mem_of_getElem? (i := 55) rfl) rfl
theorem m_ml_X0_78 : Cond.methodLink RX0 78 yX0_isRoleUnder ∈ BG := bg3 (List.mem_of_getElem? (i := 56) (by decide +kernel)) rfl
theorem m_kl_X4_62 : Cond.constantLong RX4 62 (126896661032037) ∈ BG := bg3 (List.mem_of_getElem? (i := 57) (by decide +kernel)) rfl
theorem m_ml_X4_64 : Cond.methodLink RX4 64 yX4_takeSingle ∈ BG := bg3 (List.mem_of_getElem? (i := 58) (by decide +kernel)) rfl
theorem m_im_X4_takeSingle : Cond.instanceMethod yX4_takeSingle ∈ BG := bg3 (List.mem_of_getElem? (i := 60) (by decide +kernel)) rfl
theorem m_cd_X4_takeSingle : Cond.code yX4_takeSingle cX4_takeSingle 3 none ∈ BG := bg3 (List.mem_of_getElem? (i := 61) rfl) rfl
theorem m_ml_X4_132 : Cond.methodLink RX4 132 yX0_isOrdered ∈ BG := bg3 (List.mem_of_getElem? (i := 62) (by decide +kernel)) rfl
theorem m_im_X0_isOrdered : Cond.instanceMethod yX0_isOrdered ∈ BG := bg3 (List.mem_of_getElem? (i := 63) (by decide +kernel)) rfl
theorem m_se_X0_isOrdered : Cond.selects RX0 yX0_isOrdered yX0_isOrdered ∈ BG := bg3 (List.mem_of_getElem? (i := 64) (by decide +kernel)) rfl
theorem m_cd_X0_isOrdered : Cond.code yX0_isOrdered cX0_isOrdered 2 (some .boolean) ∈ BG := bg3 (List.mem_of_getElem? (i := 65) rfl) rfl
theorem m_ml_X4_135 : Cond.methodLink RX4 135 yX0_addSingle ∈ BG := bg3 (List.mem_of_getElem? (i := 66) (by decide +kernel)) rfl
theorem m_im_X0_addSingle : Cond.instanceMethod yX0_addSingle ∈ BG := bg3 (List.mem_of_getElem? (i := 67) (by decide +kernel)) rfl
theorem m_se_X0_addSingle : Cond.selects RX0 yX0_addSingle yX0_addSingle ∈ BG := bg3 (List.mem_of_getElem? (i := 68) (by decide +kernel)) rfl
theorem m_cd_X0_addSingle : Cond.code yX0_addSingle cX0_addSingle 2 none ∈ BG := bg3 (List.mem_of_getElem? (i := 69) rfl) rfl
theorem m_ml_X4_67 : Cond.methodLink RX4 67 yX4_takeRule ∈ BG := bg3 (List.mem_of_getElem? (i := 70) (by decide +kernel)) rfl
theorem m_im_X4_takeRule : Cond.instanceMethod yX4_takeRule ∈ BG := bg3 (List.mem_of_getElem? (i := 72) (by decide +kernel)) rfl
theorem m_cd_X4_takeRule : Cond.code yX4_takeRule cX4_takeRule 4 none ∈ BG := bg3 (List.mem_of_getElem? (i := 73) rfl) rfl
theorem m_kl_X4_100 : Cond.constantLong RX4 100 (60) ∈ BG := bg3 (List.mem_of_getElem? (i := 74) (by decide +kernel)) rfl
theorem m_kl_X4_102 : Cond.constantLong RX4 102 (61) ∈ BG := bg3 (List.mem_of_getElem? (i := 75) (by decide +kernel)) rfl
theorem m_ml_X4_107 : Cond.methodLink RX4 107 yX0_addRule ∈ BG := bg3 (List.mem_of_getElem? (i := 76) (by decide +kernel)) rfl
theorem m_im_X0_addRule : Cond.instanceMethod yX0_addRule ∈ BG := bg3 (List.mem_of_getElem? (i := 77) (by decide +kernel)) rfl
theorem m_se_X0_addRule : Cond.selects RX0 yX0_addRule yX0_addRule ∈ BG := bg3 (List.mem_of_getElem? (i := 78) (by decide +kernel)) rfl
theorem m_cd_X0_addRule : Cond.code yX0_addRule cX0_addRule 4 none ∈ BG := bg3 (List.mem_of_getElem? (i := 79) rfl) rfl
theorem m_ml_X7_74 : Cond.methodLink RX7 74 yX2_workOut ∈ BG := bg3 (List.mem_of_getElem? (i := 80) (by decide +kernel)) rfl
theorem m_im_X2_workOut : Cond.instanceMethod yX2_workOut ∈ BG := bg3 (List.mem_of_getElem? (i := 81) (by decide +kernel)) rfl
theorem m_se_X2_workOut : Cond.selects RX2 yX2_workOut yX2_workOut ∈ BG := bg3 (List.mem_of_getElem? (i := 82) (by decide +kernel)) rfl
theorem m_cd_X2_workOut : Cond.code yX2_workOut cX2_workOut 6 none ∈ BG := bg3 (List.mem_of_getElem? (i := 83) rfl) rfl
theorem m_ml_X2_61 : Cond.methodLink RX2 61 Lib.Math.min.name ∈ BG := bg3 (List.mem_of_getElem? (i := 84) (by decide +kernel)) rfl
theorem m_ml_X2_73 : Cond.methodLink RX2 73 yX2_truthWord ∈ BG := bg3 (List.mem_of_getElem? (i := 85) (by decide +kernel)) rfl
theorem m_im_X2_truthWord : Cond.instanceMethod yX2_truthWord ∈ BG := bg3 (List.mem_of_getElem? (i := 87) (by decide +kernel)) rfl
theorem m_cd_X2_truthWord : Cond.code yX2_truthWord cX2_truthWord 5 (some .long) ∈ BG := bg3 (List.mem_of_getElem? (i := 88) rfl) rfl
theorem m_ml_X2_117 : Cond.methodLink RX2 117 yX1_leftOf ∈ BG := bg3 (List.mem_of_getElem? (i := 89) (by decide +kernel)) rfl
theorem m_ml_X2_120 : Cond.methodLink RX2 120 yX1_rightOf ∈ BG := bg3 (List.mem_of_getElem? (i := 90) (by decide +kernel)) rfl
theorem m_im_X1_rightOf : Cond.instanceMethod yX1_rightOf ∈ BG := bg3 (List.mem_of_getElem? (i := 91) (by decide +kernel)) rfl
theorem m_se_X1_rightOf : Cond.selects RX1 yX1_rightOf yX1_rightOf ∈ BG := bg3 (List.mem_of_getElem? (i := 92) (by decide +kernel)) rfl
theorem m_cd_X1_rightOf : Cond.code yX1_rightOf cX1_rightOf 2 (some .int) ∈ BG := bg3 (List.mem_of_getElem? (i := 93) rfl) rfl
theorem m_ml_X2_123 : Cond.methodLink RX2 123 yX1_sortOf ∈ BG := bg3 (List.mem_of_getElem? (i := 94) (by decide +kernel)) rfl
theorem m_kl_X2_88 : Cond.constantLong RX2 88 (-1) ∈ BG := bg3 (List.mem_of_getElem? (i := 95) (by decide +kernel)) rfl
theorem m_ml_X2_81 : Cond.methodLink RX2 81 yX2_truthOf ∈ BG := bg3 (List.mem_of_getElem? (i := 96) (by decide +kernel)) rfl
theorem m_im_X2_truthOf : Cond.instanceMethod yX2_truthOf ∈ BG := bg3 (List.mem_of_getElem? (i := 98) (by decide +kernel)) rfl
theorem m_cd_X2_truthOf : Cond.code yX2_truthOf cX2_truthOf 3 (some .long) ∈ BG := bg3 (List.mem_of_getElem? (i := 99) rfl) rfl
theorem m_ml_X2_126 : Cond.methodLink RX2 126 yX1_atomOf ∈ BG := bg3 (List.mem_of_getElem? (i := 100) (by decide +kernel)) rfl
theorem m_im_X1_atomOf : Cond.instanceMethod yX1_atomOf ∈ BG := bg3 (List.mem_of_getElem? (i := 101) (by decide +kernel)) rfl
theorem m_se_X1_atomOf : Cond.selects RX1 yX1_atomOf yX1_atomOf ∈ BG := bg3 (List.mem_of_getElem? (i := 102) (by decide +kernel)) rfl
theorem m_cd_X1_atomOf : Cond.code yX1_atomOf cX1_atomOf 2 (some .int) ∈ BG := bg3 (List.mem_of_getElem? (i := 103) rfl) rfl
theorem m_ml_X2_129 : Cond.methodLink RX2 129 yX2_bitPattern ∈ BG := bg3 (List.mem_of_getElem? (i := 104) (by decide +kernel)) rfl
theorem m_st_X2_bitPattern : Cond.static yX2_bitPattern ∈ BG := bg3 (List.mem_of_getElem? (i := 105) (by decide +kernel)) rfl
theorem m_cd_X2_bitPattern : Cond.code yX2_bitPattern cX2_bitPattern 2 (some .long) ∈ BG := bg3 (List.mem_of_getElem? (i := 106) rfl) rfl
theorem m_kl_X2_132 : Cond.constantLong RX2 132 (-6148914691236517206) ∈ BG := bg3 (List.mem_of_getElem? (i := 107) (by decide +kernel)) rfl
theorem m_kl_X2_134 : Cond.constantLong RX2 134 (-3689348814741910324) ∈ BG := bg3 (List.mem_of_getElem? (i := 108) (by decide +kernel)) rfl
theorem m_kl_X2_136 : Cond.constantLong RX2 136 (-1085102592571150096) ∈ BG := bg3 (List.mem_of_getElem? (i := 109) (by decide +kernel)) rfl
theorem m_kl_X2_138 : Cond.constantLong RX2 138 (-71777214294589696) ∈ BG := bg3 (List.mem_of_getElem? (i := 110) (by decide +kernel)) rfl
theorem m_kl_X2_140 : Cond.constantLong RX2 140 (-281470681808896) ∈ BG := bg3 (List.mem_of_getElem? (i := 111) (by decide +kernel)) rfl
theorem m_kl_X2_142 : Cond.constantLong RX2 142 (-4294967296) ∈ BG := bg3 (List.mem_of_getElem? (i := 112) (by decide +kernel)) rfl
theorem m_ml_X2_77 : Cond.methodLink RX2 77 yX1_partOfAtom ∈ BG := bg3 (List.mem_of_getElem? (i := 113) (by decide +kernel)) rfl
theorem m_im_X1_partOfAtom : Cond.instanceMethod yX1_partOfAtom ∈ BG := bg3 (List.mem_of_getElem? (i := 114) (by decide +kernel)) rfl
theorem m_se_X1_partOfAtom : Cond.selects RX1 yX1_partOfAtom yX1_partOfAtom ∈ BG := bg3 (List.mem_of_getElem? (i := 115) (by decide +kernel)) rfl
theorem m_cd_X1_partOfAtom : Cond.code yX1_partOfAtom cX1_partOfAtom 2 (some .int) ∈ BG := bg3 (List.mem_of_getElem? (i := 116) rfl) rfl
theorem m_ml_X2_84 : Cond.methodLink RX2 84 yX1_isTurned ∈ BG := bg3 (List.mem_of_getElem? (i := 117) (by decide +kernel)) rfl
theorem m_im_X1_isTurned : Cond.instanceMethod yX1_isTurned ∈ BG := bg3 (List.mem_of_getElem? (i := 118) (by decide +kernel)) rfl
theorem m_se_X1_isTurned : Cond.selects RX1 yX1_isTurned yX1_isTurned ∈ BG := bg3 (List.mem_of_getElem? (i := 119) (by decide +kernel)) rfl
theorem m_cd_X1_isTurned : Cond.code yX1_isTurned cX1_isTurned 2 (some .boolean) ∈ BG := bg3 (List.mem_of_getElem? (i := 120) rfl) rfl
theorem m_ml_X2_90 : Cond.methodLink RX2 90 yX2_gatherAtoms ∈ BG := bg3 (List.mem_of_getElem? (i := 121) (by decide +kernel)) rfl
theorem m_im_X2_gatherAtoms : Cond.instanceMethod yX2_gatherAtoms ∈ BG := bg3 (List.mem_of_getElem? (i := 123) (by decide +kernel)) rfl
theorem m_cd_X2_gatherAtoms : Cond.code yX2_gatherAtoms cX2_gatherAtoms 4 none ∈ BG := bg3 (List.mem_of_getElem? (i := 124) rfl) rfl
theorem m_ml_X2_147 : Cond.methodLink RX2 147 yX1_roleOfAtom ∈ BG := bg3 (List.mem_of_getElem? (i := 125) (by decide +kernel)) rfl
theorem m_im_X1_roleOfAtom : Cond.instanceMethod yX1_roleOfAtom ∈ BG := bg3 (List.mem_of_getElem? (i := 126) (by decide +kernel)) rfl
theorem m_se_X1_roleOfAtom : Cond.selects RX1 yX1_roleOfAtom yX1_roleOfAtom ∈ BG := bg3 (List.mem_of_getElem? (i := 127) (by decide +kernel)) rfl
theorem m_cd_X1_roleOfAtom : Cond.code yX1_roleOfAtom cX1_roleOfAtom 2 (some .int) ∈ BG := bg3 (List.mem_of_getElem? (i := 128) rfl) rfl
theorem m_ml_X2_150 : Cond.methodLink RX2 150 yX0_isRoleUnder ∈ BG := bg3 (List.mem_of_getElem? (i := 129) (by decide +kernel)) rfl
theorem m_ml_X2_96 : Cond.methodLink RX2 96 yX2_takeFair ∈ BG := bg3 (List.mem_of_getElem? (i := 130) (by decide +kernel)) rfl
theorem m_im_X2_takeFair : Cond.instanceMethod yX2_takeFair ∈ BG := bg3 (List.mem_of_getElem? (i := 132) (by decide +kernel)) rfl
theorem m_cd_X2_takeFair : Cond.code yX2_takeFair cX2_takeFair 8 none ∈ BG := bg3 (List.mem_of_getElem? (i := 133) rfl) rfl
theorem m_ml_X2_154 : Cond.methodLink RX2 154 yX0_ruleStatement ∈ BG := bg3 (List.mem_of_getElem? (i := 134) (by decide +kernel)) rfl
theorem m_im_X0_ruleStatement : Cond.instanceMethod yX0_ruleStatement ∈ BG := bg3 (List.mem_of_getElem? (i := 135) (by decide +kernel)) rfl
theorem m_se_X0_ruleStatement : Cond.selects RX0 yX0_ruleStatement yX0_ruleStatement ∈ BG := bg3 (List.mem_of_getElem? (i := 136) (by decide +kernel)) rfl
theorem m_cd_X0_ruleStatement : Cond.code yX0_ruleStatement cX0_ruleStatement 2 (some .int) ∈ BG := bg3 (List.mem_of_getElem? (i := 137) rfl) rfl
theorem m_ml_X2_157 : Cond.methodLink RX2 157 yX2_broken ∈ BG := bg3 (List.mem_of_getElem? (i := 138) (by decide +kernel)) rfl
theorem m_im_X2_broken : Cond.instanceMethod yX2_broken ∈ BG := bg3 (List.mem_of_getElem? (i := 140) (by decide +kernel)) rfl
theorem m_cd_X2_broken : Cond.code yX2_broken cX2_broken 7 (some .long) ∈ BG := bg3 (List.mem_of_getElem? (i := 141) rfl) rfl
theorem m_ml_X2_160 : Cond.methodLink RX2 160 yX0_leftOf ∈ BG := bg3 (List.mem_of_getElem? (i := 142) (by decide +kernel)) rfl
theorem m_st_X0_leftOf : Cond.static yX0_leftOf ∈ BG := bg3 (List.mem_of_getElem? (i := 143) (by decide +kernel)) rfl
theorem m_cd_X0_leftOf : Cond.code yX0_leftOf cX0_leftOf 1 (some .int) ∈ BG := bg3 (List.mem_of_getElem? (i := 144) rfl) rfl
theorem m_ml_X2_161 : Cond.methodLink RX2 161 yX0_rightOf ∈ BG := bg3 (List.mem_of_getElem? (i := 145) (by decide +kernel)) rfl
theorem m_st_X0_rightOf : Cond.static yX0_rightOf ∈ BG := bg3 (List.mem_of_getElem? (i := 146) (by decide +kernel)) rfl
theorem m_cd_X0_rightOf : Cond.code yX0_rightOf cX0_rightOf 1 (some .int) ∈ BG := bg3 (List.mem_of_getElem? (i := 147) rfl) rfl
theorem m_ml_X2_162 : Cond.methodLink RX2 162 yX0_sortOf ∈ BG := bg3 (List.mem_of_getElem? (i := 148) (by decide +kernel)) rfl
theorem m_st_X0_sortOf : Cond.static yX0_sortOf ∈ BG := bg3 (List.mem_of_getElem? (i := 149) (by decide +kernel)) rfl
theorem m_cd_X0_sortOf : Cond.code yX0_sortOf cX0_sortOf 1 (some .int) ∈ BG := bg3 (List.mem_of_getElem? (i := 150) rfl) rfl
theorem m_ml_X2_100 : Cond.methodLink RX2 100 arraycopyName ∈ BG := bg3 (List.mem_of_getElem? (i := 151) (by decide +kernel)) rfl
theorem m_st_java_lang_System_arraycopy : Cond.static arraycopyName ∈ BG := bg3 (List.mem_of_getElem? (i := 152) (by decide +kernel)) rfl
theorem m_na_java_lang_System_arraycopy : Cond.native arraycopyName ∈ BG := bg3 (List.mem_of_getElem? (i := 153) (by decide +kernel)) rfl
theorem m_ml_X2_106 : Cond.methodLink RX2 106 yX2_has ∈ BG := bg3 (List.mem_of_getElem? (i := 154) (by decide +kernel)) rfl
theorem m_st_X2_has : Cond.static yX2_has ∈ BG := bg3 (List.mem_of_getElem? (i := 155) (by decide +kernel)) rfl
theorem m_cd_X2_has : Cond.code yX2_has cX2_has 3 (some .boolean) ∈ BG := bg3 (List.mem_of_getElem? (i := 156) rfl) rfl
theorem m_ml_X2_110 : Cond.methodLink RX2 110 yX2_settle ∈ BG := bg3 (List.mem_of_getElem? (i := 157) (by decide +kernel)) rfl
theorem m_im_X2_settle : Cond.instanceMethod yX2_settle ∈ BG := bg3 (List.mem_of_getElem? (i := 159) (by decide +kernel)) rfl
theorem m_cd_X2_settle : Cond.code yX2_settle cX2_settle 4 (some .int) ∈ BG := bg3 (List.mem_of_getElem? (i := 160) rfl) rfl
theorem m_ml_X2_163 : Cond.methodLink RX2 163 yX2_goRound ∈ BG := bg3 (List.mem_of_getElem? (i := 161) (by decide +kernel)) rfl
theorem m_im_X2_goRound : Cond.instanceMethod yX2_goRound ∈ BG := bg3 (List.mem_of_getElem? (i := 163) (by decide +kernel)) rfl
theorem m_cd_X2_goRound : Cond.code yX2_goRound cX2_goRound 6 (some .boolean) ∈ BG := bg3 (List.mem_of_getElem? (i := 164) rfl) rfl
theorem m_ml_X2_166 : Cond.methodLink RX2 166 yX2_isMet ∈ BG := bg3 (List.mem_of_getElem? (i := 165) (by decide +kernel)) rfl
theorem m_im_X2_isMet : Cond.instanceMethod yX2_isMet ∈ BG := bg3 (List.mem_of_getElem? (i := 167) (by decide +kernel)) rfl
theorem m_cd_X2_isMet : Cond.code yX2_isMet cX2_isMet 4 (some .boolean) ∈ BG := bg3 (List.mem_of_getElem? (i := 168) rfl) rfl
theorem m_ml_X2_173 : Cond.methodLink RX2 173 yX2_leastMeeting ∈ BG := bg3 (List.mem_of_getElem? (i := 169) (by decide +kernel)) rfl
theorem m_im_X2_leastMeeting : Cond.instanceMethod yX2_leastMeeting ∈ BG := bg3 (List.mem_of_getElem? (i := 170) (by decide +kernel)) rfl
theorem m_se_X2_leastMeeting : Cond.selects RX2 yX2_leastMeeting yX2_leastMeeting ∈ BG := bg3 (List.mem_of_getElem? (i := 171) (by decide +kernel)) rfl
theorem m_cd_X2_leastMeeting : Cond.code yX2_leastMeeting cX2_leastMeeting 11 (some .int) ∈ BG := bg3 (List.mem_of_getElem? (i := 172) rfl) rfl
theorem m_ml_X2_177 : Cond.methodLink RX2 177 yX0_isSingle ∈ BG := bg3 (List.mem_of_getElem? (i := 173) (by decide +kernel)) rfl
theorem m_ml_X2_180 : Cond.methodLink RX2 180 yX2_lowestBit ∈ BG := bg3 (List.mem_of_getElem? (i := 174) (by decide +kernel)) rfl
theorem m_st_X2_lowestBit : Cond.static yX2_lowestBit ∈ BG := bg3 (List.mem_of_getElem? (i := 175) (by decide +kernel)) rfl
theorem m_cd_X2_lowestBit : Cond.code yX2_lowestBit cX2_lowestBit 2 (some .int) ∈ BG := bg3 (List.mem_of_getElem? (i := 176) rfl) rfl
theorem m_ml_X2_191 : Cond.methodLink RX2 191 yJ13_bitCount_95d88 ∈ BG := bg3 (List.mem_of_getElem? (i := 177) (by decide +kernel)) rfl
theorem m_st_J13_bitCount_95d88 : Cond.static yJ13_bitCount_95d88 ∈ BG := bg3 (List.mem_of_getElem? (i := 178) (by decide +kernel)) rfl
theorem m_cd_J13_bitCount_95d88 : Cond.code yJ13_bitCount_95d88 cJ13_bitCount_95d88 2 (some .int) ∈ BG := bg3 (List.mem_of_getElem? (i := 179) rfl) rfl
theorem m_kl_J13_314 : Cond.constantLong RJ13 314 (6148914691236517205) ∈ BG := bg3 (List.mem_of_getElem? (i := 180) (by decide +kernel)) rfl
theorem m_kl_J13_316 : Cond.constantLong RJ13 316 (3689348814741910323) ∈ BG := bg3 (List.mem_of_getElem? (i := 181) (by decide +kernel)) rfl
theorem m_kl_J13_318 : Cond.constantLong RJ13 318 (1085102592571150095) ∈ BG := bg3 (List.mem_of_getElem? (i := 182) (by decide +kernel)) rfl
theorem m_ml_X2_169 : Cond.methodLink RX2 169 yX2_put ∈ BG := bg3 (List.mem_of_getElem? (i := 183) (by decide +kernel)) rfl
theorem m_st_X2_put : Cond.static yX2_put ∈ BG := bg3 (List.mem_of_getElem? (i := 184) (by decide +kernel)) rfl
theorem m_cd_X2_put : Cond.code yX2_put cX2_put 6 none ∈ BG := bg3 (List.mem_of_getElem? (i := 185) rfl) rfl
theorem m_ml_X7_77 : Cond.methodLink RX7 77 yX6_clear ∈ BG := bg3 (List.mem_of_getElem? (i := 186) (by decide +kernel)) rfl
theorem m_im_X6_clear : Cond.instanceMethod yX6_clear ∈ BG := bg3 (List.mem_of_getElem? (i := 187) (by decide +kernel)) rfl
theorem m_se_X6_clear : Cond.selects RX6 yX6_clear yX6_clear ∈ BG := bg3 (List.mem_of_getElem? (i := 188) (by decide +kernel)) rfl
theorem m_cd_X6_clear : Cond.code yX6_clear cX6_clear 2 none ∈ BG := bg3 (List.mem_of_getElem? (i := 189) rfl) rfl
theorem m_ml_L_28 : Cond.methodLink RL 28 yX7_place ∈ BG := bg3 (List.mem_of_getElem? (i := 190) (by decide +kernel)) rfl
theorem m_im_X7_place : Cond.instanceMethod yX7_place ∈ BG := bg3 (List.mem_of_getElem? (i := 191) (by decide +kernel)) rfl
theorem m_se_X7_place : Cond.selects RX7 yX7_place yX7_place ∈ BG := bg3 (List.mem_of_getElem? (i := 192) (by decide +kernel)) rfl
theorem m_cd_X7_place : Cond.code yX7_place cX7_place 1 (some .int) ∈ BG := bg3 (List.mem_of_getElem? (i := 193) rfl) rfl
theorem m_ml_L_32 : Cond.methodLink RL 32 yX7_count ∈ BG := bg3 (List.mem_of_getElem? (i := 194) (by decide +kernel)) rfl
theorem m_im_X7_count : Cond.instanceMethod yX7_count ∈ BG := bg3 (List.mem_of_getElem? (i := 195) (by decide +kernel)) rfl
theorem m_se_X7_count : Cond.selects RX7 yX7_count yX7_count ∈ BG := bg3 (List.mem_of_getElem? (i := 196) (by decide +kernel)) rfl
theorem m_cd_X7_count : Cond.code yX7_count cX7_count 2 (some .int) ∈ BG := bg3 (List.mem_of_getElem? (i := 197) rfl) rfl
theorem m_ml_X7_114 : Cond.methodLink RX7 114 yX2_sizeOf ∈ BG := bg3 (List.mem_of_getElem? (i := 198) (by decide +kernel)) rfl
theorem m_im_X2_sizeOf : Cond.instanceMethod yX2_sizeOf ∈ BG := bg3 (List.mem_of_getElem? (i := 199) (by decide +kernel)) rfl
theorem m_se_X2_sizeOf : Cond.selects RX2 yX2_sizeOf yX2_sizeOf ∈ BG := bg3 (List.mem_of_getElem? (i := 200) (by decide +kernel)) rfl
theorem m_cd_X2_sizeOf : Cond.code yX2_sizeOf cX2_sizeOf 8 (some .int) ∈ BG := bg3 (List.mem_of_getElem? (i := 201) rfl) rfl
theorem m_ml_L_36 : Cond.methodLink RL 36 yX7_atom ∈ BG := bg3 (List.mem_of_getElem? (i := 202) (by decide +kernel)) rfl
theorem m_im_X7_atom : Cond.instanceMethod yX7_atom ∈ BG := bg3 (List.mem_of_getElem? (i := 203) (by decide +kernel)) rfl
theorem m_se_X7_atom : Cond.selects RX7 yX7_atom yX7_atom ∈ BG := bg3 (List.mem_of_getElem? (i := 204) (by decide +kernel)) rfl
theorem m_cd_X7_atom : Cond.code yX7_atom cX7_atom 3 (some .int) ∈ BG := bg3 (List.mem_of_getElem? (i := 205) rfl) rfl
theorem m_ml_X7_130 : Cond.methodLink RX7 130 yX1_roleOfAtom ∈ BG := bg3 (List.mem_of_getElem? (i := 206) (by decide +kernel)) rfl
theorem m_ml_X7_134 : Cond.methodLink RX7 134 yX1_nameOfAtom ∈ BG := bg3 (List.mem_of_getElem? (i := 207) (by decide +kernel)) rfl
theorem m_im_X1_nameOfAtom : Cond.instanceMethod yX1_nameOfAtom ∈ BG := bg3 (List.mem_of_getElem? (i := 208) (by decide +kernel)) rfl
theorem m_se_X1_nameOfAtom : Cond.selects RX1 yX1_nameOfAtom yX1_nameOfAtom ∈ BG := bg3 (List.mem_of_getElem? (i := 209) (by decide +kernel)) rfl
theorem m_cd_X1_nameOfAtom : Cond.code yX1_nameOfAtom cX1_nameOfAtom 2 (some .int) ∈ BG := bg3 (List.mem_of_getElem? (i := 210) rfl) rfl
theorem m_ml_L_41 : Cond.methodLink RL 41 yX7_rank ∈ BG := bg3 (List.mem_of_getElem? (i := 211) (by decide +kernel)) rfl
theorem m_im_X7_rank : Cond.instanceMethod yX7_rank ∈ BG := bg3 (List.mem_of_getElem? (i := 212) (by decide +kernel)) rfl
theorem m_se_X7_rank : Cond.selects RX7 yX7_rank yX7_rank ∈ BG := bg3 (List.mem_of_getElem? (i := 213) (by decide +kernel)) rfl
theorem m_cd_X7_rank : Cond.code yX7_rank cX7_rank 2 (some .int) ∈ BG := bg3 (List.mem_of_getElem? (i := 214) rfl) rfl
theorem m_ml_X7_137 : Cond.methodLink RX7 137 yX2_isType ∈ BG := bg3 (List.mem_of_getElem? (i := 215) (by decide +kernel)) rfl
theorem m_im_X2_isType : Cond.instanceMethod yX2_isType ∈ BG := bg3 (List.mem_of_getElem? (i := 216) (by decide +kernel)) rfl
theorem m_se_X2_isType : Cond.selects RX2 yX2_isType yX2_isType ∈ BG := bg3 (List.mem_of_getElem? (i := 217) (by decide +kernel)) rfl
theorem m_cd_X2_isType : Cond.code yX2_isType cX2_isType 2 (some .boolean) ∈ BG := bg3 (List.mem_of_getElem? (i := 218) rfl) rfl
theorem m_ml_X7_141 : Cond.methodLink RX7 141 yX2_rankOf ∈ BG := bg3 (List.mem_of_getElem? (i := 219) (by decide +kernel)) rfl
theorem m_im_X2_rankOf : Cond.instanceMethod yX2_rankOf ∈ BG := bg3 (List.mem_of_getElem? (i := 220) (by decide +kernel)) rfl
theorem m_se_X2_rankOf : Cond.selects RX2 yX2_rankOf yX2_rankOf ∈ BG := bg3 (List.mem_of_getElem? (i := 221) (by decide +kernel)) rfl
theorem m_cd_X2_rankOf : Cond.code yX2_rankOf cX2_rankOf 2 (some .int) ∈ BG := bg3 (List.mem_of_getElem? (i := 222) rfl) rfl
theorem m_ml_L_45 : Cond.methodLink RL 45 yX7_goes ∈ BG := bg3 (List.mem_of_getElem? (i := 223) (by decide +kernel)) rfl
theorem m_im_X7_goes : Cond.instanceMethod yX7_goes ∈ BG := bg3 (List.mem_of_getElem? (i := 224) (by decide +kernel)) rfl
theorem m_se_X7_goes : Cond.selects RX7 yX7_goes yX7_goes ∈ BG := bg3 (List.mem_of_getElem? (i := 225) (by decide +kernel)) rfl
theorem m_cd_X7_goes : Cond.code yX7_goes cX7_goes 4 (some .int) ∈ BG := bg3 (List.mem_of_getElem? (i := 226) rfl) rfl
theorem m_ml_X7_144 : Cond.methodLink RX7 144 yX2_leads ∈ BG := bg3 (List.mem_of_getElem? (i := 227) (by decide +kernel)) rfl
theorem m_im_X2_leads : Cond.instanceMethod yX2_leads ∈ BG := bg3 (List.mem_of_getElem? (i := 228) (by decide +kernel)) rfl
theorem m_se_X2_leads : Cond.selects RX2 yX2_leads yX2_leads ∈ BG := bg3 (List.mem_of_getElem? (i := 229) (by decide +kernel)) rfl
theorem m_cd_X2_leads : Cond.code yX2_leads cX2_leads 6 (some .boolean) ∈ BG := bg3 (List.mem_of_getElem? (i := 230) rfl) rfl
theorem m_ml_X7_148 : Cond.methodLink RX7 148 yX7_oneIf ∈ BG := bg3 (List.mem_of_getElem? (i := 231) (by decide +kernel)) rfl
theorem m_st_X7_oneIf : Cond.static yX7_oneIf ∈ BG := bg3 (List.mem_of_getElem? (i := 232) (by decide +kernel)) rfl
theorem m_cd_X7_oneIf : Cond.code yX7_oneIf cX7_oneIf 1 (some .int) ∈ BG := bg3 (List.mem_of_getElem? (i := 233) rfl) rfl
theorem m_ml_L_50 : Cond.methodLink RL 50 yX7_at ∈ BG := bg3 (List.mem_of_getElem? (i := 234) (by decide +kernel)) rfl
theorem m_im_X7_at : Cond.instanceMethod yX7_at ∈ BG := bg3 (List.mem_of_getElem? (i := 235) (by decide +kernel)) rfl
theorem m_se_X7_at : Cond.selects RX7 yX7_at yX7_at ∈ BG := bg3 (List.mem_of_getElem? (i := 236) (by decide +kernel)) rfl
theorem m_cd_X7_at : Cond.code yX7_at cX7_at 3 (some .int) ∈ BG := bg3 (List.mem_of_getElem? (i := 237) rfl) rfl
theorem m_ml_X7_152 : Cond.methodLink RX7 152 yX7_isQuestion ∈ BG := bg3 (List.mem_of_getElem? (i := 238) (by decide +kernel)) rfl
theorem m_im_X7_isQuestion : Cond.instanceMethod yX7_isQuestion ∈ BG := bg4 (List.mem_of_getElem? (i := 0) (by decide +kernel)) rfl
theorem m_cd_X7_isQuestion : Cond.code yX7_isQuestion cX7_isQuestion 2 (some .boolean) ∈ BG := bg4 (List.mem_of_getElem? (i := 1) rfl) rfl
theorem m_ml_X7_155 : Cond.methodLink RX7 155 yX0_question ∈ BG := bg4 (List.mem_of_getElem? (i := 2) (by decide +kernel)) rfl
theorem m_im_X0_question : Cond.instanceMethod yX0_question ∈ BG := bg4 (List.mem_of_getElem? (i := 3) (by decide +kernel)) rfl
theorem m_se_X0_question : Cond.selects RX0 yX0_question yX0_question ∈ BG := bg4 (List.mem_of_getElem? (i := 4) (by decide +kernel)) rfl
theorem m_cd_X0_question : Cond.code yX0_question cX0_question 2 (some .int) ∈ BG := bg4 (List.mem_of_getElem? (i := 5) rfl) rfl
theorem m_ml_X7_158 : Cond.methodLink RX7 158 yX2_isAt ∈ BG := bg4 (List.mem_of_getElem? (i := 6) (by decide +kernel)) rfl
theorem m_im_X2_isAt : Cond.instanceMethod yX2_isAt ∈ BG := bg4 (List.mem_of_getElem? (i := 7) (by decide +kernel)) rfl
theorem m_se_X2_isAt : Cond.selects RX2 yX2_isAt yX2_isAt ∈ BG := bg4 (List.mem_of_getElem? (i := 8) (by decide +kernel)) rfl
theorem m_cd_X2_isAt : Cond.code yX2_isAt cX2_isAt 3 (some .boolean) ∈ BG := bg4 (List.mem_of_getElem? (i := 9) rfl) rfl
theorem m_ml_L_54 : Cond.methodLink RL 54 yX7_ask ∈ BG := bg4 (List.mem_of_getElem? (i := 10) (by decide +kernel)) rfl
theorem m_im_X7_ask : Cond.instanceMethod yX7_ask ∈ BG := bg4 (List.mem_of_getElem? (i := 11) (by decide +kernel)) rfl
theorem m_se_X7_ask : Cond.selects RX7 yX7_ask yX7_ask ∈ BG := bg4 (List.mem_of_getElem? (i := 12) (by decide +kernel)) rfl
theorem m_cd_X7_ask : Cond.code yX7_ask cX7_ask 2 (some .int) ∈ BG := bg4 (List.mem_of_getElem? (i := 13) rfl) rfl
theorem m_ml_X7_162 : Cond.methodLink RX7 162 yX2_leastWhere ∈ BG := bg4 (List.mem_of_getElem? (i := 14) (by decide +kernel)) rfl
theorem m_im_X2_leastWhere : Cond.instanceMethod yX2_leastWhere ∈ BG := bg4 (List.mem_of_getElem? (i := 15) (by decide +kernel)) rfl
theorem m_se_X2_leastWhere : Cond.selects RX2 yX2_leastWhere yX2_leastWhere ∈ BG := bg4 (List.mem_of_getElem? (i := 16) (by decide +kernel)) rfl
theorem m_cd_X2_leastWhere : Cond.code yX2_leastWhere cX2_leastWhere 6 (some .int) ∈ BG := bg4 (List.mem_of_getElem? (i := 17) rfl) rfl
theorem m_ml_L_58 : Cond.methodLink RL 58 yX7_isUnder ∈ BG := bg4 (List.mem_of_getElem? (i := 18) (by decide +kernel)) rfl
theorem m_im_X7_isUnder : Cond.instanceMethod yX7_isUnder ∈ BG := bg4 (List.mem_of_getElem? (i := 19) (by decide +kernel)) rfl
theorem m_se_X7_isUnder : Cond.selects RX7 yX7_isUnder yX7_isUnder ∈ BG := bg4 (List.mem_of_getElem? (i := 20) (by decide +kernel)) rfl
theorem m_cd_X7_isUnder : Cond.code yX7_isUnder cX7_isUnder 3 (some .int) ∈ BG := bg4 (List.mem_of_getElem? (i := 21) rfl) rfl
theorem m_ml_X7_166 : Cond.methodLink RX7 166 yX7_isName ∈ BG := bg4 (List.mem_of_getElem? (i := 22) (by decide +kernel)) rfl
theorem m_im_X7_isName : Cond.instanceMethod yX7_isName ∈ BG := bg4 (List.mem_of_getElem? (i := 24) (by decide +kernel)) rfl
theorem m_cd_X7_isName : Cond.code yX7_isName cX7_isName 2 (some .boolean) ∈ BG := bg4 (List.mem_of_getElem? (i := 25) rfl) rfl
theorem m_ml_X7_169 : Cond.methodLink RX7 169 yX7_standsUnder ∈ BG := bg4 (List.mem_of_getElem? (i := 26) (by decide +kernel)) rfl
theorem m_im_X7_standsUnder : Cond.instanceMethod yX7_standsUnder ∈ BG := bg4 (List.mem_of_getElem? (i := 28) (by decide +kernel)) rfl
theorem m_cd_X7_standsUnder : Cond.code yX7_standsUnder cX7_standsUnder 3 (some .boolean) ∈ BG := bg4 (List.mem_of_getElem? (i := 29) rfl) rfl
theorem m_ml_X7_216 : Cond.methodLink RX7 216 yX1_nodeOfName ∈ BG := bg4 (List.mem_of_getElem? (i := 30) (by decide +kernel)) rfl
theorem m_im_X1_nodeOfName : Cond.instanceMethod yX1_nodeOfName ∈ BG := bg4 (List.mem_of_getElem? (i := 31) (by decide +kernel)) rfl
theorem m_se_X1_nodeOfName : Cond.selects RX1 yX1_nodeOfName yX1_nodeOfName ∈ BG := bg4 (List.mem_of_getElem? (i := 32) (by decide +kernel)) rfl
theorem m_cd_X1_nodeOfName : Cond.code yX1_nodeOfName cX1_nodeOfName 2 (some .int) ∈ BG := bg4 (List.mem_of_getElem? (i := 33) rfl) rfl
theorem m_ml_X7_219 : Cond.methodLink RX7 219 yX2_implies ∈ BG := bg4 (List.mem_of_getElem? (i := 34) (by decide +kernel)) rfl
theorem m_im_X2_implies : Cond.instanceMethod yX2_implies ∈ BG := bg4 (List.mem_of_getElem? (i := 35) (by decide +kernel)) rfl
theorem m_se_X2_implies : Cond.selects RX2 yX2_implies yX2_implies ∈ BG := bg4 (List.mem_of_getElem? (i := 36) (by decide +kernel)) rfl
theorem m_cd_X2_implies : Cond.code yX2_implies cX2_implies 4 (some .boolean) ∈ BG := bg4 (List.mem_of_getElem? (i := 37) rfl) rfl
theorem m_ml_L_62 : Cond.methodLink RL 62 yX7_next ∈ BG := bg4 (List.mem_of_getElem? (i := 38) (by decide +kernel)) rfl
theorem m_im_X7_next : Cond.instanceMethod yX7_next ∈ BG := bg4 (List.mem_of_getElem? (i := 39) (by decide +kernel)) rfl
theorem m_se_X7_next : Cond.selects RX7 yX7_next yX7_next ∈ BG := bg4 (List.mem_of_getElem? (i := 40) (by decide +kernel)) rfl
theorem m_cd_X7_next : Cond.code yX7_next cX7_next 5 (some .int) ∈ BG := bg4 (List.mem_of_getElem? (i := 41) rfl) rfl
theorem m_ml_X7_172 : Cond.methodLink RX7 172 yX7_isNextAbove ∈ BG := bg4 (List.mem_of_getElem? (i := 42) (by decide +kernel)) rfl
theorem m_im_X7_isNextAbove : Cond.instanceMethod yX7_isNextAbove ∈ BG := bg4 (List.mem_of_getElem? (i := 44) (by decide +kernel)) rfl
theorem m_cd_X7_isNextAbove : Cond.code yX7_isNextAbove cX7_isNextAbove 4 (some .boolean) ∈ BG := bg4 (List.mem_of_getElem? (i := 45) rfl) rfl
theorem m_ml_X7_222 : Cond.methodLink RX7 222 yX7_isStrictlyUnder ∈ BG := bg4 (List.mem_of_getElem? (i := 46) (by decide +kernel)) rfl
theorem m_im_X7_isStrictlyUnder : Cond.instanceMethod yX7_isStrictlyUnder ∈ BG := bg4 (List.mem_of_getElem? (i := 48) (by decide +kernel)) rfl
theorem m_cd_X7_isStrictlyUnder : Cond.code yX7_isStrictlyUnder cX7_isStrictlyUnder 3 (some .boolean) ∈ BG := bg4 (List.mem_of_getElem? (i := 49) rfl) rfl
theorem m_ml_L_66 : Cond.methodLink RL 66 yX7_world ∈ BG := bg4 (List.mem_of_getElem? (i := 50) (by decide +kernel)) rfl
theorem m_im_X7_world : Cond.instanceMethod yX7_world ∈ BG := bg4 (List.mem_of_getElem? (i := 51) (by decide +kernel)) rfl
theorem m_se_X7_world : Cond.selects RX7 yX7_world yX7_world ∈ BG := bg4 (List.mem_of_getElem? (i := 52) (by decide +kernel)) rfl
theorem m_cd_X7_world : Cond.code yX7_world cX7_world 2 (some .int) ∈ BG := bg4 (List.mem_of_getElem? (i := 53) rfl) rfl
theorem m_ml_X7_175 : Cond.methodLink RX7 175 yX6_build ∈ BG := bg4 (List.mem_of_getElem? (i := 54) (by decide +kernel)) rfl
theorem m_im_X6_build : Cond.instanceMethod yX6_build ∈ BG := bg4 (List.mem_of_getElem? (i := 55) (by decide +kernel)) rfl
theorem m_se_X6_build : Cond.selects RX6 yX6_build yX6_build ∈ BG := bg4 (List.mem_of_getElem? (i := 56) (by decide +kernel)) rfl
theorem m_cd_X6_build : Cond.code yX6_build cX6_build 5 none ∈ BG := bg4 (List.mem_of_getElem? (i := 57) rfl) rfl
theorem m_ml_X6_29 : Cond.methodLink RX6 29 yX6_clear ∈ BG := bg4 (List.mem_of_getElem? (i := 58) (by decide +kernel)) rfl
theorem m_ml_X6_38 : Cond.methodLink RX6 38 yX2_leastWhere ∈ BG := bg4 (List.mem_of_getElem? (i := 59) (by decide +kernel)) rfl
theorem m_ml_X6_42 : Cond.methodLink RX6 42 yX6_thingFor ∈ BG := bg4 (List.mem_of_getElem? (i := 60) (by decide +kernel)) rfl
theorem m_im_X6_thingFor : Cond.instanceMethod yX6_thingFor ∈ BG := bg4 (List.mem_of_getElem? (i := 62) (by decide +kernel)) rfl
theorem m_cd_X6_thingFor : Cond.code yX6_thingFor cX6_thingFor 2 (some .int) ∈ BG := bg4 (List.mem_of_getElem? (i := 63) rfl) rfl
theorem m_ml_X6_46 : Cond.methodLink RX6 46 yX6_addEdges ∈ BG := bg4 (List.mem_of_getElem? (i := 64) (by decide +kernel)) rfl
theorem m_im_X6_addEdges : Cond.instanceMethod yX6_addEdges ∈ BG := bg4 (List.mem_of_getElem? (i := 66) (by decide +kernel)) rfl
theorem m_cd_X6_addEdges : Cond.code yX6_addEdges cX6_addEdges 7 none ∈ BG := bg4 (List.mem_of_getElem? (i := 67) rfl) rfl
theorem m_ml_X6_50 : Cond.methodLink RX6 50 yX2_isServed ∈ BG := bg4 (List.mem_of_getElem? (i := 68) (by decide +kernel)) rfl
theorem m_im_X2_isServed : Cond.instanceMethod yX2_isServed ∈ BG := bg4 (List.mem_of_getElem? (i := 69) (by decide +kernel)) rfl
theorem m_se_X2_isServed : Cond.selects RX2 yX2_isServed yX2_isServed ∈ BG := bg4 (List.mem_of_getElem? (i := 70) (by decide +kernel)) rfl
theorem m_cd_X2_isServed : Cond.code yX2_isServed cX2_isServed 4 (some .boolean) ∈ BG := bg4 (List.mem_of_getElem? (i := 71) rfl) rfl
theorem m_ml_X6_54 : Cond.methodLink RX6 54 yX2_leastMeeting ∈ BG := bg4 (List.mem_of_getElem? (i := 72) (by decide +kernel)) rfl
theorem m_ml_X6_62 : Cond.methodLink RX6 62 yX1_roleOfAtom ∈ BG := bg4 (List.mem_of_getElem? (i := 73) (by decide +kernel)) rfl
theorem m_ml_L_70 : Cond.methodLink RL 70 yX7_thing ∈ BG := bg4 (List.mem_of_getElem? (i := 74) (by decide +kernel)) rfl
theorem m_im_X7_thing : Cond.instanceMethod yX7_thing ∈ BG := bg4 (List.mem_of_getElem? (i := 75) (by decide +kernel)) rfl
theorem m_se_X7_thing : Cond.selects RX7 yX7_thing yX7_thing ∈ BG := bg4 (List.mem_of_getElem? (i := 76) (by decide +kernel)) rfl
theorem m_cd_X7_thing : Cond.code yX7_thing cX7_thing 2 (some .int) ∈ BG := bg4 (List.mem_of_getElem? (i := 77) rfl) rfl
theorem m_ml_L_74 : Cond.methodLink RL 74 yX7_edge ∈ BG := bg4 (List.mem_of_getElem? (i := 78) (by decide +kernel)) rfl
theorem m_im_X7_edge : Cond.instanceMethod yX7_edge ∈ BG := bg4 (List.mem_of_getElem? (i := 79) (by decide +kernel)) rfl
theorem m_se_X7_edge : Cond.selects RX7 yX7_edge yX7_edge ∈ BG := bg4 (List.mem_of_getElem? (i := 80) (by decide +kernel)) rfl
theorem m_cd_X7_edge : Cond.code yX7_edge cX7_edge 3 (some .int) ∈ BG := bg4 (List.mem_of_getElem? (i := 81) rfl) rfl
theorem m_ml_X7_183 : Cond.methodLink RX7 183 yX6_from ∈ BG := bg4 (List.mem_of_getElem? (i := 82) (by decide +kernel)) rfl
theorem m_im_X6_from : Cond.instanceMethod yX6_from ∈ BG := bg4 (List.mem_of_getElem? (i := 83) (by decide +kernel)) rfl
theorem m_se_X6_from : Cond.selects RX6 yX6_from yX6_from ∈ BG := bg4 (List.mem_of_getElem? (i := 84) (by decide +kernel)) rfl
theorem m_cd_X6_from : Cond.code yX6_from cX6_from 2 (some .int) ∈ BG := bg4 (List.mem_of_getElem? (i := 85) rfl) rfl
theorem m_ml_X6_67 : Cond.methodLink RX6 67 yX6_edgeAt ∈ BG := bg4 (List.mem_of_getElem? (i := 86) (by decide +kernel)) rfl
theorem m_im_X6_edgeAt : Cond.instanceMethod yX6_edgeAt ∈ BG := bg4 (List.mem_of_getElem? (i := 88) (by decide +kernel)) rfl
theorem m_cd_X6_edgeAt : Cond.code yX6_edgeAt cX6_edgeAt 2 (some .int) ∈ BG := bg4 (List.mem_of_getElem? (i := 89) rfl) rfl
theorem m_ml_X7_186 : Cond.methodLink RX7 186 yX6_to ∈ BG := bg4 (List.mem_of_getElem? (i := 90) (by decide +kernel)) rfl
theorem m_im_X6_to : Cond.instanceMethod yX6_to ∈ BG := bg4 (List.mem_of_getElem? (i := 91) (by decide +kernel)) rfl
theorem m_se_X6_to : Cond.selects RX6 yX6_to yX6_to ∈ BG := bg4 (List.mem_of_getElem? (i := 92) (by decide +kernel)) rfl
theorem m_cd_X6_to : Cond.code yX6_to cX6_to 2 (some .int) ∈ BG := bg4 (List.mem_of_getElem? (i := 93) rfl) rfl
theorem m_ml_X7_189 : Cond.methodLink RX7 189 yX6_role ∈ BG := bg4 (List.mem_of_getElem? (i := 94) (by decide +kernel)) rfl
theorem m_im_X6_role : Cond.instanceMethod yX6_role ∈ BG := bg4 (List.mem_of_getElem? (i := 95) (by decide +kernel)) rfl
theorem m_se_X6_role : Cond.selects RX6 yX6_role yX6_role ∈ BG := bg4 (List.mem_of_getElem? (i := 96) (by decide +kernel)) rfl
theorem m_cd_X6_role : Cond.code yX6_role cX6_role 2 (some .int) ∈ BG := bg4 (List.mem_of_getElem? (i := 97) rfl) rfl
theorem m_ml_L_78 : Cond.methodLink RL 78 yX7_bones ∈ BG := bg4 (List.mem_of_getElem? (i := 98) (by decide +kernel)) rfl
theorem m_im_X7_bones : Cond.instanceMethod yX7_bones ∈ BG := bg4 (List.mem_of_getElem? (i := 99) (by decide +kernel)) rfl
theorem m_se_X7_bones : Cond.selects RX7 yX7_bones yX7_bones ∈ BG := bg4 (List.mem_of_getElem? (i := 100) (by decide +kernel)) rfl
theorem m_cd_X7_bones : Cond.code yX7_bones cX7_bones 2 (some .int) ∈ BG := bg4 (List.mem_of_getElem? (i := 101) rfl) rfl
theorem m_ml_X7_192 : Cond.methodLink RX7 192 yX2_rulesThatForbid ∈ BG := bg4 (List.mem_of_getElem? (i := 102) (by decide +kernel)) rfl
theorem m_im_X2_rulesThatForbid : Cond.instanceMethod yX2_rulesThatForbid ∈ BG := bg4 (List.mem_of_getElem? (i := 103) (by decide +kernel)) rfl
theorem m_se_X2_rulesThatForbid : Cond.selects RX2 yX2_rulesThatForbid yX2_rulesThatForbid ∈ BG := bg4 (List.mem_of_getElem? (i := 104) (by decide +kernel)) rfl
theorem m_cd_X2_rulesThatForbid : Cond.code yX2_rulesThatForbid cX2_rulesThatForbid 5 (some .int) ∈ BG := bg4 (List.mem_of_getElem? (i := 105) rfl) rfl
theorem m_ml_X2_184 : Cond.methodLink RX2 184 yX2_leastWhere ∈ BG := bg4 (List.mem_of_getElem? (i := 106) (by decide +kernel)) rfl
theorem m_ml_L_82 : Cond.methodLink RL 82 yX7_same ∈ BG := bg4 (List.mem_of_getElem? (i := 107) (by decide +kernel)) rfl
theorem m_im_X7_same : Cond.instanceMethod yX7_same ∈ BG := bg4 (List.mem_of_getElem? (i := 108) (by decide +kernel)) rfl
theorem m_se_X7_same : Cond.selects RX7 yX7_same yX7_same ∈ BG := bg4 (List.mem_of_getElem? (i := 109) (by decide +kernel)) rfl
theorem m_cd_X7_same : Cond.code yX7_same cX7_same 3 (some .int) ∈ BG := bg4 (List.mem_of_getElem? (i := 110) rfl) rfl
theorem m_ml_X7_195 : Cond.methodLink RX7 195 yX2_agree ∈ BG := bg4 (List.mem_of_getElem? (i := 111) (by decide +kernel)) rfl
theorem m_im_X2_agree : Cond.instanceMethod yX2_agree ∈ BG := bg4 (List.mem_of_getElem? (i := 112) (by decide +kernel)) rfl
theorem m_se_X2_agree : Cond.selects RX2 yX2_agree yX2_agree ∈ BG := bg4 (List.mem_of_getElem? (i := 113) (by decide +kernel)) rfl
theorem m_cd_X2_agree : Cond.code yX2_agree cX2_agree 3 (some .boolean) ∈ BG := bg4 (List.mem_of_getElem? (i := 114) rfl) rfl
theorem m_ml_X2_188 : Cond.methodLink RX2 188 yX2_implies ∈ BG := bg4 (List.mem_of_getElem? (i := 115) (by decide +kernel)) rfl
theorem m_ml_L_86 : Cond.methodLink RL 86 yX7_print ∈ BG := bg4 (List.mem_of_getElem? (i := 116) (by decide +kernel)) rfl
theorem m_im_X7_print : Cond.instanceMethod yX7_print ∈ BG := bg4 (List.mem_of_getElem? (i := 117) (by decide +kernel)) rfl
theorem m_se_X7_print : Cond.selects RX7 yX7_print yX7_print ∈ BG := bg4 (List.mem_of_getElem? (i := 118) (by decide +kernel)) rfl
theorem m_cd_X7_print : Cond.code yX7_print cX7_print 1 (some .int) ∈ BG := bg4 (List.mem_of_getElem? (i := 119) rfl) rfl
theorem m_ml_X7_198 : Cond.methodLink RX7 198 yX3_printBook ∈ BG := bg4 (List.mem_of_getElem? (i := 120) (by decide +kernel)) rfl
theorem m_im_X3_printBook : Cond.instanceMethod yX3_printBook ∈ BG := bg4 (List.mem_of_getElem? (i := 121) (by decide +kernel)) rfl
theorem m_se_X3_printBook : Cond.selects RX3 yX3_printBook yX3_printBook ∈ BG := bg4 (List.mem_of_getElem? (i := 122) (by decide +kernel)) rfl
theorem m_cd_X3_printBook : Cond.code yX3_printBook cX3_printBook 3 none ∈ BG := bg4 (List.mem_of_getElem? (i := 123) rfl) rfl
theorem m_ml_X3_32 : Cond.methodLink RX3 32 yX0_statement ∈ BG := bg4 (List.mem_of_getElem? (i := 124) (by decide +kernel)) rfl
theorem m_im_X0_statement : Cond.instanceMethod yX0_statement ∈ BG := bg4 (List.mem_of_getElem? (i := 125) (by decide +kernel)) rfl
theorem m_se_X0_statement : Cond.selects RX0 yX0_statement yX0_statement ∈ BG := bg4 (List.mem_of_getElem? (i := 126) (by decide +kernel)) rfl
theorem m_cd_X0_statement : Cond.code yX0_statement cX0_statement 2 (some .int) ∈ BG := bg4 (List.mem_of_getElem? (i := 127) rfl) rfl
theorem m_ml_X3_36 : Cond.methodLink RX3 36 yX3_printStatement ∈ BG := bg4 (List.mem_of_getElem? (i := 128) (by decide +kernel)) rfl
theorem m_im_X3_printStatement : Cond.instanceMethod yX3_printStatement ∈ BG := bg4 (List.mem_of_getElem? (i := 130) (by decide +kernel)) rfl
theorem m_cd_X3_printStatement : Cond.code yX3_printStatement cX3_printStatement 5 none ∈ BG := bg4 (List.mem_of_getElem? (i := 131) rfl) rfl
theorem m_ml_X3_48 : Cond.methodLink RX3 48 yX0_leftOf ∈ BG := bg4 (List.mem_of_getElem? (i := 132) (by decide +kernel)) rfl
theorem m_ml_X3_51 : Cond.methodLink RX3 51 yX0_rightOf ∈ BG := bg4 (List.mem_of_getElem? (i := 133) (by decide +kernel)) rfl
theorem m_ml_X3_54 : Cond.methodLink RX3 54 yX0_sortOf ∈ BG := bg4 (List.mem_of_getElem? (i := 134) (by decide +kernel)) rfl
theorem m_ml_X3_57 : Cond.methodLink RX3 57 yX3_printConcept ∈ BG := bg4 (List.mem_of_getElem? (i := 135) (by decide +kernel)) rfl
theorem m_im_X3_printConcept : Cond.instanceMethod yX3_printConcept ∈ BG := bg4 (List.mem_of_getElem? (i := 137) (by decide +kernel)) rfl
theorem m_cd_X3_printConcept : Cond.code yX3_printConcept cX3_printConcept 4 none ∈ BG := bg4 (List.mem_of_getElem? (i := 138) rfl) rfl
theorem m_ml_X3_82 : Cond.methodLink RX3 82 yX3_await ∈ BG := bg4 (List.mem_of_getElem? (i := 139) (by decide +kernel)) rfl
theorem m_im_X3_await : Cond.instanceMethod yX3_await ∈ BG := bg4 (List.mem_of_getElem? (i := 141) (by decide +kernel)) rfl
theorem m_cd_X3_await : Cond.code yX3_await cX3_await 2 none ∈ BG := bg4 (List.mem_of_getElem? (i := 142) rfl) rfl
theorem m_kl_X3_85 : Cond.constantLong RX3 85 (40) ∈ BG := bg4 (List.mem_of_getElem? (i := 143) (by decide +kernel)) rfl
theorem m_ml_X3_42 : Cond.methodLink RX3 42 yX3_putWord ∈ BG := bg4 (List.mem_of_getElem? (i := 144) (by decide +kernel)) rfl
theorem m_im_X3_putWord : Cond.instanceMethod yX3_putWord ∈ BG := bg4 (List.mem_of_getElem? (i := 146) (by decide +kernel)) rfl
theorem m_cd_X3_putWord : Cond.code yX3_putWord cX3_putWord 6 none ∈ BG := bg4 (List.mem_of_getElem? (i := 147) rfl) rfl
theorem m_kl_X3_125 : Cond.constantLong RX3 125 (255) ∈ BG := bg4 (List.mem_of_getElem? (i := 148) (by decide +kernel)) rfl
theorem m_kl_X3_87 : Cond.constantLong RX3 87 (41) ∈ BG := bg4 (List.mem_of_getElem? (i := 149) (by decide +kernel)) rfl
theorem m_kl_X3_89 : Cond.constantLong RX3 89 (6385252) ∈ BG := bg4 (List.mem_of_getElem? (i := 150) (by decide +kernel)) rfl
theorem m_ml_X3_91 : Cond.methodLink RX3 91 yX3_putJoint ∈ BG := bg4 (List.mem_of_getElem? (i := 151) (by decide +kernel)) rfl
theorem m_im_X3_putJoint : Cond.instanceMethod yX3_putJoint ∈ BG := bg4 (List.mem_of_getElem? (i := 153) (by decide +kernel)) rfl
theorem m_cd_X3_putJoint : Cond.code yX3_putJoint cX3_putJoint 3 none ∈ BG := bg4 (List.mem_of_getElem? (i := 154) rfl) rfl
theorem m_kl_X3_60 : Cond.constantLong RX3 60 (32) ∈ BG := bg4 (List.mem_of_getElem? (i := 155) (by decide +kernel)) rfl
theorem m_ml_X3_66 : Cond.methodLink RX3 66 yX3_putBehind ∈ BG := bg4 (List.mem_of_getElem? (i := 156) (by decide +kernel)) rfl
theorem m_im_X3_putBehind : Cond.instanceMethod yX3_putBehind ∈ BG := bg4 (List.mem_of_getElem? (i := 158) (by decide +kernel)) rfl
theorem m_cd_X3_putBehind : Cond.code yX3_putBehind cX3_putBehind 3 none ∈ BG := bg4 (List.mem_of_getElem? (i := 159) rfl) rfl
theorem m_kl_X3_94 : Cond.constantLong RX3 94 (28530) ∈ BG := bg4 (List.mem_of_getElem? (i := 160) (by decide +kernel)) rfl
theorem m_ml_X3_96 : Cond.methodLink RX3 96 yX3_printNode ∈ BG := bg4 (List.mem_of_getElem? (i := 161) (by decide +kernel)) rfl
theorem m_im_X3_printNode : Cond.instanceMethod yX3_printNode ∈ BG := bg4 (List.mem_of_getElem? (i := 163) (by decide +kernel)) rfl
theorem m_cd_X3_printNode : Cond.code yX3_printNode cX3_printNode 6 none ∈ BG := bg4 (List.mem_of_getElem? (i := 164) rfl) rfl
theorem m_ml_X3_103 : Cond.methodLink RX3 103 yX1_sortOf ∈ BG := bg4 (List.mem_of_getElem? (i := 165) (by decide +kernel)) rfl
theorem m_ml_X3_106 : Cond.methodLink RX3 106 yX1_leftOf ∈ BG := bg4 (List.mem_of_getElem? (i := 166) (by decide +kernel)) rfl
theorem m_ml_X3_107 : Cond.methodLink RX3 107 yX1_rightOf ∈ BG := bg4 (List.mem_of_getElem? (i := 167) (by decide +kernel)) rfl
theorem m_ml_X3_108 : Cond.methodLink RX3 108 yX0_nameWord ∈ BG := bg4 (List.mem_of_getElem? (i := 168) (by decide +kernel)) rfl
theorem m_im_X0_nameWord : Cond.instanceMethod yX0_nameWord ∈ BG := bg4 (List.mem_of_getElem? (i := 169) (by decide +kernel)) rfl
theorem m_se_X0_nameWord : Cond.selects RX0 yX0_nameWord yX0_nameWord ∈ BG := bg4 (List.mem_of_getElem? (i := 170) (by decide +kernel)) rfl
theorem m_cd_X0_nameWord : Cond.code yX0_nameWord cX0_nameWord 2 (some .long) ∈ BG := bg4 (List.mem_of_getElem? (i := 171) rfl) rfl
theorem m_kl_X3_111 : Cond.constantLong RX3 111 (7630704) ∈ BG := bg4 (List.mem_of_getElem? (i := 172) (by decide +kernel)) rfl
theorem m_kl_X3_113 : Cond.constantLong RX3 113 (108230834679661) ∈ BG := bg4 (List.mem_of_getElem? (i := 173) (by decide +kernel)) rfl
theorem m_ml_X3_115 : Cond.methodLink RX3 115 yX3_awaitPart ∈ BG := bg4 (List.mem_of_getElem? (i := 174) (by decide +kernel)) rfl
theorem m_im_X3_awaitPart : Cond.instanceMethod yX3_awaitPart ∈ BG := bg4 (List.mem_of_getElem? (i := 176) (by decide +kernel)) rfl
theorem m_cd_X3_awaitPart : Cond.code yX3_awaitPart cX3_awaitPart 3 none ∈ BG := bg4 (List.mem_of_getElem? (i := 177) rfl) rfl
theorem m_kl_X3_119 : Cond.constantLong RX3 119 (7237492) ∈ BG := bg4 (List.mem_of_getElem? (i := 178) (by decide +kernel)) rfl
theorem m_kl_X3_121 : Cond.constantLong RX3 121 (1936682341) ∈ BG := bg4 (List.mem_of_getElem? (i := 179) (by decide +kernel)) rfl
theorem m_kl_X3_123 : Cond.constantLong RX3 123 (435778056825) ∈ BG := bg4 (List.mem_of_getElem? (i := 180) (by decide +kernel)) rfl
theorem m_ml_X3_73 : Cond.methodLink RX3 73 yX0_roleWord ∈ BG := bg4 (List.mem_of_getElem? (i := 181) (by decide +kernel)) rfl
theorem m_im_X0_roleWord : Cond.instanceMethod yX0_roleWord ∈ BG := bg4 (List.mem_of_getElem? (i := 182) (by decide +kernel)) rfl
theorem m_se_X0_roleWord : Cond.selects RX0 yX0_roleWord yX0_roleWord ∈ BG := bg4 (List.mem_of_getElem? (i := 183) (by decide +kernel)) rfl
theorem m_cd_X0_roleWord : Cond.code yX0_roleWord cX0_roleWord 2 (some .long) ∈ BG := bg4 (List.mem_of_getElem? (i := 184) rfl) rfl
theorem m_kl_X3_62 : Cond.constantLong RX3 62 (60) ∈ BG := bg4 (List.mem_of_getElem? (i := 185) (by decide +kernel)) rfl
theorem m_kl_X3_64 : Cond.constantLong RX3 64 (61) ∈ BG := bg4 (List.mem_of_getElem? (i := 186) (by decide +kernel)) rfl
theorem m_kl_X3_69 : Cond.constantLong RX3 69 (6386539) ∈ BG := bg4 (List.mem_of_getElem? (i := 187) (by decide +kernel)) rfl
theorem m_kl_X3_71 : Cond.constantLong RX3 71 (504363246962) ∈ BG := bg4 (List.mem_of_getElem? (i := 188) (by decide +kernel)) rfl
theorem m_kl_X3_77 : Cond.constantLong RX3 77 (126896661032037) ∈ BG := bg4 (List.mem_of_getElem? (i := 189) (by decide +kernel)) rfl
theorem m_kl_X3_40 : Cond.constantLong RX3 40 (59) ∈ BG := bg4 (List.mem_of_getElem? (i := 190) (by decide +kernel)) rfl
theorem m_kl_X3_46 : Cond.constantLong RX3 46 (10) ∈ BG := bg4 (List.mem_of_getElem? (i := 191) (by decide +kernel)) rfl
theorem m_ml_L_90 : Cond.methodLink RL 90 yX7_out ∈ BG := bg4 (List.mem_of_getElem? (i := 192) (by decide +kernel)) rfl
theorem m_im_X7_out : Cond.instanceMethod yX7_out ∈ BG := bg4 (List.mem_of_getElem? (i := 193) (by decide +kernel)) rfl
theorem m_se_X7_out : Cond.selects RX7 yX7_out yX7_out ∈ BG := bg4 (List.mem_of_getElem? (i := 194) (by decide +kernel)) rfl
theorem m_cd_X7_out : Cond.code yX7_out cX7_out 2 (some .int) ∈ BG := bg4 (List.mem_of_getElem? (i := 195) rfl) rfl
theorem m_ml_L_94 : Cond.methodLink RL 94 yX7_back ∈ BG := bg4 (List.mem_of_getElem? (i := 196) (by decide +kernel)) rfl
theorem m_im_X7_back : Cond.instanceMethod yX7_back ∈ BG := bg4 (List.mem_of_getElem? (i := 197) (by decide +kernel)) rfl
theorem m_se_X7_back : Cond.selects RX7 yX7_back yX7_back ∈ BG := bg4 (List.mem_of_getElem? (i := 198) (by decide +kernel)) rfl
theorem m_cd_X7_back : Cond.code yX7_back cX7_back 1 (some .int) ∈ BG := bg4 (List.mem_of_getElem? (i := 199) rfl) rfl
theorem m_ml_X7_204 : Cond.methodLink RX7 204 Lib.Math.min.name ∈ BG := bg4 (List.mem_of_getElem? (i := 200) (by decide +kernel)) rfl
theorem m_ml_X7_210 : Cond.methodLink RX7 210 arraycopyName ∈ BG := bg4 (List.mem_of_getElem? (i := 201) (by decide +kernel)) rfl
theorem m_cl_L_10 : Cond.classLink RL 10 RX8 ∈ BG := bg4 (List.mem_of_getElem? (i := 202) (by decide +kernel)) rfl
theorem m_mk_X8 : Cond.instantiable RX8 78 ∈ BG := bg4 (List.mem_of_getElem? (i := 203) (by decide +kernel)) rfl
theorem m_ml_L_12 : Cond.methodLink RL 12 yX8_init ∈ BG := bg4 (List.mem_of_getElem? (i := 204) (by decide +kernel)) rfl
theorem m_im_X8_init : Cond.instanceMethod yX8_init ∈ BG := bg4 (List.mem_of_getElem? (i := 205) (by decide +kernel)) rfl
theorem m_cd_X8_init : Cond.code yX8_init cX8_init 1 none ∈ BG := bg4 (List.mem_of_getElem? (i := 206) rfl) rfl
theorem m_ml_X8_1 : Cond.methodLink RX8 1 objectInit ∈ BG := bg4 (List.mem_of_getElem? (i := 207) (by decide +kernel)) rfl
theorem m_ki_X8_101 : Cond.constant RX8 101 (102400) ∈ BG := bg4 (List.mem_of_getElem? (i := 208) (by decide +kernel)) rfl
theorem m_fl_X8_7 : Cond.fieldLink RX8 7 "TypeCourtModel" "tape" "[B" ∈ BG := bg4 (List.mem_of_getElem? (i := 209) (by decide +kernel)) rfl
theorem m_fl_X8_147 : Cond.fieldLink RX8 147 "TypeCourtModel" "taped" "I" ∈ BG := bg4 (List.mem_of_getElem? (i := 210) (by decide +kernel)) rfl
theorem m_fl_X8_166 : Cond.fieldLink RX8 166 "TypeCourtModel" "at" "I" ∈ BG := bg4 (List.mem_of_getElem? (i := 211) (by decide +kernel)) rfl
theorem m_fl_X8_178 : Cond.fieldLink RX8 178 "TypeCourtModel" "token" "I" ∈ BG := bg4 (List.mem_of_getElem? (i := 212) (by decide +kernel)) rfl
theorem m_fl_X8_169 : Cond.fieldLink RX8 169 "TypeCourtModel" "tokenAt" "I" ∈ BG := bg4 (List.mem_of_getElem? (i := 213) (by decide +kernel)) rfl
theorem m_fl_X8_172 : Cond.fieldLink RX8 172 "TypeCourtModel" "tokenSize" "I" ∈ BG := bg4 (List.mem_of_getElem? (i := 214) (by decide +kernel)) rfl
theorem m_fl_X8_175 : Cond.fieldLink RX8 175 "TypeCourtModel" "sign" "I" ∈ BG := bg4 (List.mem_of_getElem? (i := 215) (by decide +kernel)) rfl
theorem m_fl_X8_13 : Cond.fieldLink RX8 13 "TypeCourtModel" "words" "[C" ∈ BG := bg4 (List.mem_of_getElem? (i := 216) (by decide +kernel)) rfl
theorem m_fl_X8_17 : Cond.fieldLink RX8 17 "TypeCourtModel" "kind" "[I" ∈ BG := bg4 (List.mem_of_getElem? (i := 217) (by decide +kernel)) rfl
theorem m_fl_X8_21 : Cond.fieldLink RX8 21 "TypeCourtModel" "one" "[I" ∈ BG := bg4 (List.mem_of_getElem? (i := 218) (by decide +kernel)) rfl
theorem m_fl_X8_24 : Cond.fieldLink RX8 24 "TypeCourtModel" "two" "[I" ∈ BG := bg4 (List.mem_of_getElem? (i := 219) (by decide +kernel)) rfl
theorem m_fl_X8_27 : Cond.fieldLink RX8 27 "TypeCourtModel" "atomOf" "[I" ∈ BG := bg4 (List.mem_of_getElem? (i := 220) (by decide +kernel)) rfl
theorem m_fl_X8_30 : Cond.fieldLink RX8 30 "TypeCourtModel" "byteOf" "[I" ∈ BG := bg4 (List.mem_of_getElem? (i := 221) (by decide +kernel)) rfl
theorem m_fl_X8_33 : Cond.fieldLink RX8 33 "TypeCourtModel" "order" "[I" ∈ BG := bg4 (List.mem_of_getElem? (i := 222) (by decide +kernel)) rfl
theorem m_fl_X8_332 : Cond.fieldLink RX8 332 "TypeCourtModel" "nodes" "I" ∈ BG := bg4 (List.mem_of_getElem? (i := 223) (by decide +kernel)) rfl
theorem m_fl_X8_36 : Cond.fieldLink RX8 36 "TypeCourtModel" "said" "[I" ∈ BG := bg4 (List.mem_of_getElem? (i := 224) (by decide +kernel)) rfl
theorem m_fl_X8_39 : Cond.fieldLink RX8 39 "TypeCourtModel" "saidA" "[I" ∈ BG := bg4 (List.mem_of_getElem? (i := 225) (by decide +kernel)) rfl
theorem m_fl_X8_42 : Cond.fieldLink RX8 42 "TypeCourtModel" "saidB" "[I" ∈ BG := bg4 (List.mem_of_getElem? (i := 226) (by decide +kernel)) rfl
theorem m_fl_X8_338 : Cond.fieldLink RX8 338 "TypeCourtModel" "sayings" "I" ∈ BG := bg4 (List.mem_of_getElem? (i := 227) (by decide +kernel)) rfl
theorem m_fl_X8_45 : Cond.fieldLink RX8 45 "TypeCourtModel" "rule" "[I" ∈ BG := bg4 (List.mem_of_getElem? (i := 228) (by decide +kernel)) rfl
theorem m_fl_X8_341 : Cond.fieldLink RX8 341 "TypeCourtModel" "rules" "I" ∈ BG := bg4 (List.mem_of_getElem? (i := 229) (by decide +kernel)) rfl
theorem m_fl_X8_48 : Cond.fieldLink RX8 48 "TypeCourtModel" "question" "[I" ∈ BG := bg4 (List.mem_of_getElem? (i := 230) (by decide +kernel)) rfl
theorem m_fl_X8_344 : Cond.fieldLink RX8 344 "TypeCourtModel" "questions" "I" ∈ BG := bg4 (List.mem_of_getElem? (i := 231) (by decide +kernel)) rfl
theorem m_fl_X8_51 : Cond.fieldLink RX8 51 "TypeCourtModel" "nameLetters" "[B" ∈ BG := bg4 (List.mem_of_getElem? (i := 232) (by decide +kernel)) rfl
theorem m_fl_X8_54 : Cond.fieldLink RX8 54 "TypeCourtModel" "nameSize" "[I" ∈ BG := bg4 (List.mem_of_getElem? (i := 233) (by decide +kernel)) rfl
theorem m_fl_X8_347 : Cond.fieldLink RX8 347 "TypeCourtModel" "names" "I" ∈ BG := bg4 (List.mem_of_getElem? (i := 234) (by decide +kernel)) rfl
theorem m_fl_X8_57 : Cond.fieldLink RX8 57 "TypeCourtModel" "roleLetters" "[B" ∈ BG := bg4 (List.mem_of_getElem? (i := 235) (by decide +kernel)) rfl
theorem m_fl_X8_60 : Cond.fieldLink RX8 60 "TypeCourtModel" "roleSize" "[I" ∈ BG := bg4 (List.mem_of_getElem? (i := 236) (by decide +kernel)) rfl
theorem m_fl_X8_350 : Cond.fieldLink RX8 350 "TypeCourtModel" "roles" "I" ∈ BG := bg4 (List.mem_of_getElem? (i := 237) (by decide +kernel)) rfl
theorem m_fl_X8_63 : Cond.fieldLink RX8 63 "TypeCourtModel" "isSingle" "[Z" ∈ BG := bg4 (List.mem_of_getElem? (i := 238) (by decide +kernel)) rfl
theorem m_fl_X8_67 : Cond.fieldLink RX8 67 "TypeCourtModel" "isUnder" "[Z" ∈ BG := bg4 (List.mem_of_getElem? (i := 239) (by decide +kernel)) rfl
theorem m_fl_X8_70 : Cond.fieldLink RX8 70 "TypeCourtModel" "hasUnder" "[Z" ∈ BG := bg5 (List.mem_of_getElem? (i := 0) (by decide +kernel)) rfl
theorem m_fl_X8_73 : Cond.fieldLink RX8 73 "TypeCourtModel" "atomRole" "[I" ∈ BG := bg5 (List.mem_of_getElem? (i := 1) (by decide +kernel)) rfl
theorem m_fl_X8_76 : Cond.fieldLink RX8 76 "TypeCourtModel" "atomName" "[I" ∈ BG := bg5 (List.mem_of_getElem? (i := 2) (by decide +kernel)) rfl
theorem m_fl_X8_79 : Cond.fieldLink RX8 79 "TypeCourtModel" "atomNode" "[I" ∈ BG := bg5 (List.mem_of_getElem? (i := 3) (by decide +kernel)) rfl
theorem m_fl_X8_82 : Cond.fieldLink RX8 82 "TypeCourtModel" "atomLess" "[Z" ∈ BG := bg5 (List.mem_of_getElem? (i := 4) (by decide +kernel)) rfl
theorem m_fl_X8_353 : Cond.fieldLink RX8 353 "TypeCourtModel" "atoms" "I" ∈ BG := bg5 (List.mem_of_getElem? (i := 5) (by decide +kernel)) rfl
theorem m_fl_X8_356 : Cond.fieldLink RX8 356 "TypeCourtModel" "hasBook" "Z" ∈ BG := bg5 (List.mem_of_getElem? (i := 6) (by decide +kernel)) rfl
theorem m_fl_X8_211 : Cond.fieldLink RX8 211 "TypeCourtModel" "newNodes" "I" ∈ BG := bg5 (List.mem_of_getElem? (i := 7) (by decide +kernel)) rfl
theorem m_fl_X8_245 : Cond.fieldLink RX8 245 "TypeCourtModel" "newOrder" "I" ∈ BG := bg5 (List.mem_of_getElem? (i := 8) (by decide +kernel)) rfl
theorem m_fl_X8_295 : Cond.fieldLink RX8 295 "TypeCourtModel" "newSayings" "I" ∈ BG := bg5 (List.mem_of_getElem? (i := 9) (by decide +kernel)) rfl
theorem m_fl_X8_311 : Cond.fieldLink RX8 311 "TypeCourtModel" "newRules" "I" ∈ BG := bg5 (List.mem_of_getElem? (i := 10) (by decide +kernel)) rfl
theorem m_fl_X8_305 : Cond.fieldLink RX8 305 "TypeCourtModel" "newQuestions" "I" ∈ BG := bg5 (List.mem_of_getElem? (i := 11) (by decide +kernel)) rfl
theorem m_fl_X8_214 : Cond.fieldLink RX8 214 "TypeCourtModel" "newNames" "I" ∈ BG := bg5 (List.mem_of_getElem? (i := 12) (by decide +kernel)) rfl
theorem m_fl_X8_221 : Cond.fieldLink RX8 221 "TypeCourtModel" "newRoles" "I" ∈ BG := bg5 (List.mem_of_getElem? (i := 13) (by decide +kernel)) rfl
theorem m_fl_X8_234 : Cond.fieldLink RX8 234 "TypeCourtModel" "newAtoms" "I" ∈ BG := bg5 (List.mem_of_getElem? (i := 14) (by decide +kernel)) rfl
theorem m_fl_X8_188 : Cond.fieldLink RX8 188 "TypeCourtModel" "fault" "I" ∈ BG := bg5 (List.mem_of_getElem? (i := 15) (by decide +kernel)) rfl
theorem m_fl_X8_191 : Cond.fieldLink RX8 191 "TypeCourtModel" "faultAt" "I" ∈ BG := bg5 (List.mem_of_getElem? (i := 16) (by decide +kernel)) rfl
theorem m_fl_X8_85 : Cond.fieldLink RX8 85 "TypeCourtModel" "placed" "I" ∈ BG := bg5 (List.mem_of_getElem? (i := 17) (by decide +kernel)) rfl
theorem m_fl_X8_254 : Cond.fieldLink RX8 254 "TypeCourtModel" "deep" "I" ∈ BG := bg5 (List.mem_of_getElem? (i := 18) (by decide +kernel)) rfl
theorem m_fl_X8_89 : Cond.fieldLink RX8 89 "TypeCourtModel" "pairA" "[I" ∈ BG := bg5 (List.mem_of_getElem? (i := 19) (by decide +kernel)) rfl
theorem m_fl_X8_92 : Cond.fieldLink RX8 92 "TypeCourtModel" "pairB" "[I" ∈ BG := bg5 (List.mem_of_getElem? (i := 20) (by decide +kernel)) rfl
theorem m_fl_X8_95 : Cond.fieldLink RX8 95 "TypeCourtModel" "waits" "[I" ∈ BG := bg5 (List.mem_of_getElem? (i := 21) (by decide +kernel)) rfl
theorem m_fl_X8_98 : Cond.fieldLink RX8 98 "TypeCourtModel" "waitNode" "[I" ∈ BG := bg5 (List.mem_of_getElem? (i := 22) (by decide +kernel)) rfl
theorem m_fl_X8_248 : Cond.fieldLink RX8 248 "TypeCourtModel" "waiting" "I" ∈ BG := bg5 (List.mem_of_getElem? (i := 23) (by decide +kernel)) rfl
theorem m_fl_X8_251 : Cond.fieldLink RX8 251 "TypeCourtModel" "operand" "I" ∈ BG := bg5 (List.mem_of_getElem? (i := 24) (by decide +kernel)) rfl
theorem m_fl_X8_263 : Cond.fieldLink RX8 263 "TypeCourtModel" "wants" "Z" ∈ BG := bg5 (List.mem_of_getElem? (i := 25) (by decide +kernel)) rfl
theorem m_fl_X8_102 : Cond.fieldLink RX8 102 "TypeCourtModel" "is" "[Z" ∈ BG := bg5 (List.mem_of_getElem? (i := 26) (by decide +kernel)) rfl
theorem m_fl_X8_105 : Cond.fieldLink RX8 105 "TypeCourtModel" "atX" "[I" ∈ BG := bg5 (List.mem_of_getElem? (i := 27) (by decide +kernel)) rfl
theorem m_fl_X8_108 : Cond.fieldLink RX8 108 "TypeCourtModel" "roleAtoms" "[I" ∈ BG := bg5 (List.mem_of_getElem? (i := 28) (by decide +kernel)) rfl
theorem m_fl_X8_111 : Cond.fieldLink RX8 111 "TypeCourtModel" "ownAtoms" "[I" ∈ BG := bg5 (List.mem_of_getElem? (i := 29) (by decide +kernel)) rfl
theorem m_fl_X8_114 : Cond.fieldLink RX8 114 "TypeCourtModel" "rankOf" "[I" ∈ BG := bg5 (List.mem_of_getElem? (i := 30) (by decide +kernel)) rfl
theorem m_fl_X8_117 : Cond.fieldLink RX8 117 "TypeCourtModel" "stands" "[Z" ∈ BG := bg5 (List.mem_of_getElem? (i := 31) (by decide +kernel)) rfl
theorem m_fl_X8_120 : Cond.fieldLink RX8 120 "TypeCourtModel" "stood" "[Z" ∈ BG := bg5 (List.mem_of_getElem? (i := 32) (by decide +kernel)) rfl
theorem m_fl_X8_389 : Cond.fieldLink RX8 389 "TypeCourtModel" "fairMany" "I" ∈ BG := bg5 (List.mem_of_getElem? (i := 33) (by decide +kernel)) rfl
theorem m_fl_X8_392 : Cond.fieldLink RX8 392 "TypeCourtModel" "roundMany" "I" ∈ BG := bg5 (List.mem_of_getElem? (i := 34) (by decide +kernel)) rfl
theorem m_fl_X8_359 : Cond.fieldLink RX8 359 "TypeCourtModel" "things" "I" ∈ BG := bg5 (List.mem_of_getElem? (i := 35) (by decide +kernel)) rfl
theorem m_fl_X8_123 : Cond.fieldLink RX8 123 "TypeCourtModel" "thing" "[I" ∈ BG := bg5 (List.mem_of_getElem? (i := 36) (by decide +kernel)) rfl
theorem m_fl_X8_362 : Cond.fieldLink RX8 362 "TypeCourtModel" "edges" "I" ∈ BG := bg5 (List.mem_of_getElem? (i := 37) (by decide +kernel)) rfl
theorem m_fl_X8_126 : Cond.fieldLink RX8 126 "TypeCourtModel" "edgeFrom" "[I" ∈ BG := bg5 (List.mem_of_getElem? (i := 38) (by decide +kernel)) rfl
theorem m_fl_X8_129 : Cond.fieldLink RX8 129 "TypeCourtModel" "edgeTo" "[I" ∈ BG := bg5 (List.mem_of_getElem? (i := 39) (by decide +kernel)) rfl
theorem m_fl_X8_132 : Cond.fieldLink RX8 132 "TypeCourtModel" "edgeRole" "[I" ∈ BG := bg5 (List.mem_of_getElem? (i := 40) (by decide +kernel)) rfl
theorem m_fl_X8_135 : Cond.fieldLink RX8 135 "TypeCourtModel" "out" "[B" ∈ BG := bg5 (List.mem_of_getElem? (i := 41) (by decide +kernel)) rfl
theorem m_fl_X8_402 : Cond.fieldLink RX8 402 "TypeCourtModel" "outMany" "I" ∈ BG := bg5 (List.mem_of_getElem? (i := 42) (by decide +kernel)) rfl
theorem m_fl_X8_138 : Cond.fieldLink RX8 138 "TypeCourtModel" "put" "[I" ∈ BG := bg5 (List.mem_of_getElem? (i := 43) (by decide +kernel)) rfl
theorem m_fl_X8_141 : Cond.fieldLink RX8 141 "TypeCourtModel" "putOf" "[I" ∈ BG := bg5 (List.mem_of_getElem? (i := 44) (by decide +kernel)) rfl
theorem m_fl_X8_144 : Cond.fieldLink RX8 144 "TypeCourtModel" "putLeast" "[I" ∈ BG := bg5 (List.mem_of_getElem? (i := 45) (by decide +kernel)) rfl
theorem m_fl_X8_438 : Cond.fieldLink RX8 438 "TypeCourtModel" "puts" "I" ∈ BG := bg5 (List.mem_of_getElem? (i := 46) (by decide +kernel)) rfl
theorem m_ly_X8_0 : u_lay RX8 TX8 0 ∈ BG := bg5 (List.mem_of_getElem? (i := 47) rfl) rfl
theorem m_ly_X8_1 : u_lay RX8 TX8 1 ∈ BG := bg5 (List.mem_of_getElem? (i := 49) rfl) rfl
theorem m_ly_X8_2 : u_lay RX8 TX8 2 ∈ BG := bg5 (List.mem_of_getElem? (i := 51) rfl) rfl
theorem m_ly_X8_3 : u_lay RX8 TX8 3 ∈ BG := bg5 (List.mem_of_getElem? (i := 53) rfl) rfl
theorem m_ly_X8_4 : u_lay RX8 TX8 4 ∈ BG := bg5 (List.mem_of_getElem? (i := 55) rfl) rfl
theorem m_ly_X8_5 : u_lay RX8 TX8 5 ∈ BG := bg5 (List.mem_of_getElem? (i := 57) rfl) rfl
theorem m_ly_X8_6 : u_lay RX8 TX8 6 ∈ BG := bg5 (List.mem_of_getElem? (i := 59) rfl) rfl
theorem m_ly_X8_7 : u_lay RX8 TX8 7 ∈ BG := bg5 (List.mem_of_getElem? (i := 61) rfl) rfl
theorem m_ly_X8_8 : u_lay RX8 TX8 8 ∈ BG := bg5 (List.mem_of_getElem? (i := 63) rfl) rfl
theorem m_ly_X8_9 : u_lay RX8 TX8 9 ∈ BG := bg5 (List.mem_of_getElem? (i := 65) rfl) rfl
theorem m_ly_X8_10 : u_lay RX8 TX8 10 ∈ BG := bg5 (List.mem_of_getElem? (i := 67) rfl) rfl
theorem m_ly_X8_11 : u_lay RX8 TX8 11 ∈ BG := bg5 (List.mem_of_getElem? (i := 69) rfl) rfl
theorem m_ly_X8_12 : u_lay RX8 TX8 12 ∈ BG := bg5 (List.mem_of_getElem? (i := 71) rfl) rfl
theorem m_ly_X8_13 : u_lay RX8 TX8 13 ∈ BG := bg5 (List.mem_of_getElem? (i := 73) rfl) rfl
theorem m_ly_X8_14 : u_lay RX8 TX8 14 ∈ BG := bg5 (List.mem_of_getElem? (i := 75) rfl) rfl
theorem m_ly_X8_15 : u_lay RX8 TX8 15 ∈ BG := bg5 (List.mem_of_getElem? (i := 77) rfl) rfl
theorem m_ly_X8_16 : u_lay RX8 TX8 16 ∈ BG := bg5 (List.mem_of_getElem? (i := 79) rfl) rfl
theorem m_ly_X8_17 : u_lay RX8 TX8 17 ∈ BG := bg5 (List.mem_of_getElem? (i := 81) rfl) rfl
theorem m_ly_X8_18 : u_lay RX8 TX8 18 ∈ BG := bg5 (List.mem_of_getElem? (i := 83) rfl) rfl
theorem m_ly_X8_19 : u_lay RX8 TX8 19 ∈ BG := bg5 (List.mem_of_getElem? (i := 85) rfl) rfl
theorem m_ly_X8_20 : u_lay RX8 TX8 20 ∈ BG := bg5 (List.mem_of_getElem? (i := 87) rfl) rfl
theorem m_ly_X8_21 : u_lay RX8 TX8 21 ∈ BG := bg5 (List.mem_of_getElem? (i := 89) rfl) rfl
theorem m_ly_X8_22 : u_lay RX8 TX8 22 ∈ BG := bg5 (List.mem_of_getElem? (i := 91) rfl) rfl
theorem m_ly_X8_23 : u_lay RX8 TX8 23 ∈ BG := bg5 (List.mem_of_getElem? (i := 93) rfl) rfl
theorem m_ly_X8_24 : u_lay RX8 TX8 24 ∈ BG := bg5 (List.mem_of_getElem? (i := 95) rfl) rfl
theorem m_ly_X8_25 : u_lay RX8 TX8 25 ∈ BG := bg5 (List.mem_of_getElem? (i := 97) rfl) rfl
theorem m_ly_X8_26 : u_lay RX8 TX8 26 ∈ BG := bg5 (List.mem_of_getElem? (i := 99) rfl) rfl
theorem m_ly_X8_27 : u_lay RX8 TX8 27 ∈ BG := bg5 (List.mem_of_getElem? (i := 101) rfl) rfl
theorem m_ly_X8_28 : u_lay RX8 TX8 28 ∈ BG := bg5 (List.mem_of_getElem? (i := 103) rfl) rfl
theorem m_ly_X8_29 : u_lay RX8 TX8 29 ∈ BG := bg5 (List.mem_of_getElem? (i := 105) rfl) rfl
theorem m_ly_X8_30 : u_lay RX8 TX8 30 ∈ BG := bg5 (List.mem_of_getElem? (i := 107) rfl) rfl
theorem m_ly_X8_31 : u_lay RX8 TX8 31 ∈ BG := bg5 (List.mem_of_getElem? (i := 109) rfl) rfl
theorem m_ly_X8_32 : u_lay RX8 TX8 32 ∈ BG := bg5 (List.mem_of_getElem? (i := 111) rfl) rfl
theorem m_ly_X8_33 : u_lay RX8 TX8 33 ∈ BG := bg5 (List.mem_of_getElem? (i := 113) rfl) rfl
theorem m_ly_X8_34 : u_lay RX8 TX8 34 ∈ BG := bg5 (List.mem_of_getElem? (i := 115) rfl) rfl
theorem m_ly_X8_35 : u_lay RX8 TX8 35 ∈ BG := bg5 (List.mem_of_getElem? (i := 117) rfl) rfl
theorem m_ly_X8_36 : u_lay RX8 TX8 36 ∈ BG := bg5 (List.mem_of_getElem? (i := 119) rfl) rfl
theorem m_ly_X8_37 : u_lay RX8 TX8 37 ∈ BG := bg5 (List.mem_of_getElem? (i := 121) rfl) rfl
theorem m_ly_X8_38 : u_lay RX8 TX8 38 ∈ BG := bg5 (List.mem_of_getElem? (i := 123) rfl) rfl
theorem m_ly_X8_39 : u_lay RX8 TX8 39 ∈ BG := bg5 (List.mem_of_getElem? (i := 125) rfl) rfl
theorem m_ly_X8_40 : u_lay RX8 TX8 40 ∈ BG := bg5 (List.mem_of_getElem? (i := 127) rfl) rfl
theorem m_ly_X8_41 : u_lay RX8 TX8 41 ∈ BG := bg5 (List.mem_of_getElem? (i := 129) rfl) rfl
theorem m_ly_X8_42 : u_lay RX8 TX8 42 ∈ BG := bg5 (List.mem_of_getElem? (i := 131) rfl) rfl
theorem m_ly_X8_43 : u_lay RX8 TX8 43 ∈ BG := bg5 (List.mem_of_getElem? (i := 133) rfl) rfl
theorem m_ly_X8_44 : u_lay RX8 TX8 44 ∈ BG := bg5 (List.mem_of_getElem? (i := 135) rfl) rfl
theorem m_ly_X8_45 : u_lay RX8 TX8 45 ∈ BG := bg5 (List.mem_of_getElem? (i := 137) rfl) rfl
theorem m_ly_X8_46 : u_lay RX8 TX8 46 ∈ BG := bg5 (List.mem_of_getElem? (i := 139) rfl) rfl
theorem m_ly_X8_47 : u_lay RX8 TX8 47 ∈ BG := bg5 (List.mem_of_getElem? (i := 141) rfl) rfl
theorem m_ly_X8_48 : u_lay RX8 TX8 48 ∈ BG := bg5 (List.mem_of_getElem? (i := 143) rfl) rfl
theorem m_ly_X8_49 : u_lay RX8 TX8 49 ∈ BG := bg5 (List.mem_of_getElem? (i := 145) rfl) rfl
theorem m_ly_X8_50 : u_lay RX8 TX8 50 ∈ BG := bg5 (List.mem_of_getElem? (i := 147) rfl) rfl
theorem m_ly_X8_51 : u_lay RX8 TX8 51 ∈ BG := bg5 (List.mem_of_getElem? (i := 149) rfl) rfl
theorem m_ly_X8_52 : u_lay RX8 TX8 52 ∈ BG := bg5 (List.mem_of_getElem? (i := 151) rfl) rfl
theorem m_ly_X8_53 : u_lay RX8 TX8 53 ∈ BG := bg5 (List.mem_of_getElem? (i := 153) rfl) rfl
theorem m_ly_X8_54 : u_lay RX8 TX8 54 ∈ BG := bg5 (List.mem_of_getElem? (i := 155) rfl) rfl
theorem m_ly_X8_55 : u_lay RX8 TX8 55 ∈ BG := bg5 (List.mem_of_getElem? (i := 157) rfl) rfl
theorem m_ly_X8_56 : u_lay RX8 TX8 56 ∈ BG := bg5 (List.mem_of_getElem? (i := 159) rfl) rfl
theorem m_ly_X8_57 : u_lay RX8 TX8 57 ∈ BG := bg5 (List.mem_of_getElem? (i := 161) rfl) rfl
theorem m_ly_X8_58 : u_lay RX8 TX8 58 ∈ BG := bg5 (List.mem_of_getElem? (i := 163) rfl) rfl
theorem m_ly_X8_59 : u_lay RX8 TX8 59 ∈ BG := bg5 (List.mem_of_getElem? (i := 165) rfl) rfl
theorem m_ly_X8_60 : u_lay RX8 TX8 60 ∈ BG := bg5 (List.mem_of_getElem? (i := 167) rfl) rfl
theorem m_ly_X8_61 : u_lay RX8 TX8 61 ∈ BG := bg5 (List.mem_of_getElem? (i := 169) rfl) rfl
theorem m_ly_X8_62 : u_lay RX8 TX8 62 ∈ BG := bg5 (List.mem_of_getElem? (i := 171) rfl) rfl
theorem m_ly_X8_63 : u_lay RX8 TX8 63 ∈ BG := bg5 (List.mem_of_getElem? (i := 173) rfl) rfl
theorem m_ly_X8_64 : u_lay RX8 TX8 64 ∈ BG := bg5 (List.mem_of_getElem? (i := 175) rfl) rfl
theorem m_ly_X8_65 : u_lay RX8 TX8 65 ∈ BG := bg5 (List.mem_of_getElem? (i := 177) rfl) rfl
theorem m_ly_X8_66 : u_lay RX8 TX8 66 ∈ BG := bg5 (List.mem_of_getElem? (i := 179) rfl) rfl
theorem m_ly_X8_67 : u_lay RX8 TX8 67 ∈ BG := bg5 (List.mem_of_getElem? (i := 181) rfl) rfl
theorem m_ly_X8_68 : u_lay RX8 TX8 68 ∈ BG := bg5 (List.mem_of_getElem? (i := 183) rfl) rfl
theorem m_ly_X8_69 : u_lay RX8 TX8 69 ∈ BG := bg5 (List.mem_of_getElem? (i := 185) rfl) rfl
theorem m_ly_X8_70 : u_lay RX8 TX8 70 ∈ BG := bg5 (List.mem_of_getElem? (i := 187) rfl) rfl
theorem m_ly_X8_71 : u_lay RX8 TX8 71 ∈ BG := bg5 (List.mem_of_getElem? (i := 189) rfl) rfl
theorem m_ly_X8_72 : u_lay RX8 TX8 72 ∈ BG := bg5 (List.mem_of_getElem? (i := 191) rfl) rfl
theorem m_ly_X8_73 : u_lay RX8 TX8 73 ∈ BG := bg5 (List.mem_of_getElem? (i := 193) rfl) rfl
theorem m_ly_X8_74 : u_lay RX8 TX8 74 ∈ BG := bg5 (List.mem_of_getElem? (i := 195) rfl) rfl
theorem m_ly_X8_75 : u_lay RX8 TX8 75 ∈ BG := bg5 (List.mem_of_getElem? (i := 197) rfl) rfl
theorem m_ly_X8_76 : u_lay RX8 TX8 76 ∈ BG := bg5 (List.mem_of_getElem? (i := 199) rfl) rfl
theorem m_ly_X8_77 : u_lay RX8 TX8 77 ∈ BG := bg5 (List.mem_of_getElem? (i := 201) rfl) rfl
theorem m_ac_char : Cond.arrayClass .char ∈ BG := bg5 (List.mem_of_getElem? (i := 204) (by decide +kernel)) rfl
theorem m_ac_boolean : Cond.arrayClass .boolean ∈ BG := bg5 (List.mem_of_getElem? (i := 205) (by decide +kernel)) rfl
theorem m_ml_L_17 : Cond.methodLink RL 17 yX8_feed ∈ BG := bg5 (List.mem_of_getElem? (i := 206) (by decide +kernel)) rfl
theorem m_im_X8_feed : Cond.instanceMethod yX8_feed ∈ BG := bg5 (List.mem_of_getElem? (i := 207) (by decide +kernel)) rfl
theorem m_se_X8_feed : Cond.selects RX8 yX8_feed yX8_feed ∈ BG := bg5 (List.mem_of_getElem? (i := 208) (by decide +kernel)) rfl
theorem m_cd_X8_feed : Cond.code yX8_feed cX8_feed 6 (some .int) ∈ BG := bg5 (List.mem_of_getElem? (i := 209) rfl) rfl
theorem m_ml_X8_150 : Cond.methodLink RX8 150 yX8_four ∈ BG := bg5 (List.mem_of_getElem? (i := 210) (by decide +kernel)) rfl
theorem m_im_X8_four : Cond.instanceMethod yX8_four ∈ BG := bg5 (List.mem_of_getElem? (i := 212) (by decide +kernel)) rfl
theorem m_cd_X8_four : Cond.code yX8_four cX8_four 3 none ∈ BG := bg5 (List.mem_of_getElem? (i := 213) rfl) rfl
theorem m_ml_L_22 : Cond.methodLink RL 22 yX8_cut ∈ BG := bg5 (List.mem_of_getElem? (i := 214) (by decide +kernel)) rfl
theorem m_im_X8_cut : Cond.instanceMethod yX8_cut ∈ BG := bg5 (List.mem_of_getElem? (i := 215) (by decide +kernel)) rfl
theorem m_se_X8_cut : Cond.selects RX8 yX8_cut yX8_cut ∈ BG := bg5 (List.mem_of_getElem? (i := 216) (by decide +kernel)) rfl
theorem m_cd_X8_cut : Cond.code yX8_cut cX8_cut 3 (some .int) ∈ BG := bg5 (List.mem_of_getElem? (i := 217) rfl) rfl
theorem m_ml_X8_154 : Cond.methodLink RX8 154 yX8_in ∈ BG := bg5 (List.mem_of_getElem? (i := 218) (by decide +kernel)) rfl
theorem m_st_X8_in : Cond.static yX8_in ∈ BG := bg5 (List.mem_of_getElem? (i := 219) (by decide +kernel)) rfl
theorem m_cd_X8_in : Cond.code yX8_in cX8_in 6 (some .boolean) ∈ BG := bg5 (List.mem_of_getElem? (i := 220) rfl) rfl
theorem m_ml_L_27 : Cond.methodLink RL 27 yX8_read ∈ BG := bg5 (List.mem_of_getElem? (i := 221) (by decide +kernel)) rfl
theorem m_im_X8_read : Cond.instanceMethod yX8_read ∈ BG := bg5 (List.mem_of_getElem? (i := 222) (by decide +kernel)) rfl
theorem m_se_X8_read : Cond.selects RX8 yX8_read yX8_read ∈ BG := bg5 (List.mem_of_getElem? (i := 223) (by decide +kernel)) rfl
theorem m_cd_X8_read : Cond.code yX8_read cX8_read 2 (some .int) ∈ BG := bg5 (List.mem_of_getElem? (i := 224) rfl) rfl
theorem m_ml_X8_205 : Cond.methodLink RX8 205 yX8_next ∈ BG := bg5 (List.mem_of_getElem? (i := 225) (by decide +kernel)) rfl
theorem m_im_X8_next : Cond.instanceMethod yX8_next ∈ BG := bg5 (List.mem_of_getElem? (i := 227) (by decide +kernel)) rfl
theorem m_cd_X8_next : Cond.code yX8_next cX8_next 2 none ∈ BG := bg5 (List.mem_of_getElem? (i := 228) rfl) rfl
theorem m_ml_X8_181 : Cond.methodLink RX8 181 yX8_isLetter ∈ BG := bg5 (List.mem_of_getElem? (i := 229) (by decide +kernel)) rfl
theorem m_st_X8_isLetter : Cond.static yX8_isLetter ∈ BG := bg5 (List.mem_of_getElem? (i := 230) (by decide +kernel)) rfl
theorem m_cd_X8_isLetter : Cond.code yX8_isLetter cX8_isLetter 1 (some .boolean) ∈ BG := bg5 (List.mem_of_getElem? (i := 231) rfl) rfl
theorem m_kl_X8_158 : Cond.constantLong RX8 158 (97) ∈ BG := bg5 (List.mem_of_getElem? (i := 232) (by decide +kernel)) rfl
theorem m_kl_X8_160 : Cond.constantLong RX8 160 (122) ∈ BG := bg5 (List.mem_of_getElem? (i := 233) (by decide +kernel)) rfl
theorem m_ml_X8_185 : Cond.methodLink RX8 185 yX8_isFigure ∈ BG := bg5 (List.mem_of_getElem? (i := 234) (by decide +kernel)) rfl
theorem m_st_X8_isFigure : Cond.static yX8_isFigure ∈ BG := bg5 (List.mem_of_getElem? (i := 235) (by decide +kernel)) rfl
theorem m_cd_X8_isFigure : Cond.code yX8_isFigure cX8_isFigure 1 (some .boolean) ∈ BG := bg5 (List.mem_of_getElem? (i := 236) rfl) rfl
theorem m_kl_X8_162 : Cond.constantLong RX8 162 (48) ∈ BG := bg5 (List.mem_of_getElem? (i := 237) (by decide +kernel)) rfl
theorem m_kl_X8_164 : Cond.constantLong RX8 164 (57) ∈ BG := bg5 (List.mem_of_getElem? (i := 238) (by decide +kernel)) rfl
theorem m_ml_X8_198 : Cond.methodLink RX8 198 yX8_fine ∈ BG := bg5 (List.mem_of_getElem? (i := 239) (by decide +kernel)) rfl
theorem m_im_X8_fine : Cond.instanceMethod yX8_fine ∈ BG := bg6 (List.mem_of_getElem? (i := 1) (by decide +kernel)) rfl
theorem m_cd_X8_fine : Cond.code yX8_fine cX8_fine 1 (some .boolean) ∈ BG := bg6 (List.mem_of_getElem? (i := 2) rfl) rfl
theorem m_ml_X8_224 : Cond.methodLink RX8 224 yX8_kept ∈ BG := bg6 (List.mem_of_getElem? (i := 3) (by decide +kernel)) rfl
theorem m_im_X8_kept : Cond.instanceMethod yX8_kept ∈ BG := bg6 (List.mem_of_getElem? (i := 5) (by decide +kernel)) rfl
theorem m_cd_X8_kept : Cond.code yX8_kept cX8_kept 6 (some .int) ∈ BG := bg6 (List.mem_of_getElem? (i := 6) rfl) rfl
theorem m_ml_X8_314 : Cond.methodLink RX8 314 yX8_readAsk ∈ BG := bg6 (List.mem_of_getElem? (i := 7) (by decide +kernel)) rfl
theorem m_im_X8_readAsk : Cond.instanceMethod yX8_readAsk ∈ BG := bg6 (List.mem_of_getElem? (i := 9) (by decide +kernel)) rfl
theorem m_cd_X8_readAsk : Cond.code yX8_readAsk cX8_readAsk 2 none ∈ BG := bg6 (List.mem_of_getElem? (i := 10) rfl) rfl
theorem m_ml_X8_194 : Cond.methodLink RX8 194 yX8_wrong ∈ BG := bg6 (List.mem_of_getElem? (i := 11) (by decide +kernel)) rfl
theorem m_im_X8_wrong : Cond.instanceMethod yX8_wrong ∈ BG := bg6 (List.mem_of_getElem? (i := 13) (by decide +kernel)) rfl
theorem m_cd_X8_wrong : Cond.code yX8_wrong cX8_wrong 3 none ∈ BG := bg6 (List.mem_of_getElem? (i := 14) rfl) rfl
theorem m_ml_X8_308 : Cond.methodLink RX8 308 yX8_readConcept ∈ BG := bg6 (List.mem_of_getElem? (i := 15) (by decide +kernel)) rfl
theorem m_im_X8_readConcept : Cond.instanceMethod yX8_readConcept ∈ BG := bg6 (List.mem_of_getElem? (i := 17) (by decide +kernel)) rfl
theorem m_cd_X8_readConcept : Cond.code yX8_readConcept cX8_readConcept 2 (some .int) ∈ BG := bg6 (List.mem_of_getElem? (i := 18) rfl) rfl
theorem m_ml_X8_270 : Cond.methodLink RX8 270 yX8_wait ∈ BG := bg6 (List.mem_of_getElem? (i := 19) (by decide +kernel)) rfl
theorem m_im_X8_wait : Cond.instanceMethod yX8_wait ∈ BG := bg6 (List.mem_of_getElem? (i := 21) (by decide +kernel)) rfl
theorem m_cd_X8_wait : Cond.code yX8_wait cX8_wait 3 none ∈ BG := bg6 (List.mem_of_getElem? (i := 22) rfl) rfl
theorem m_ml_X8_289 : Cond.methodLink RX8 289 yX8_readOne ∈ BG := bg6 (List.mem_of_getElem? (i := 23) (by decide +kernel)) rfl
theorem m_im_X8_readOne : Cond.instanceMethod yX8_readOne ∈ BG := bg6 (List.mem_of_getElem? (i := 25) (by decide +kernel)) rfl
theorem m_cd_X8_readOne : Cond.code yX8_readOne cX8_readOne 3 none ∈ BG := bg6 (List.mem_of_getElem? (i := 26) rfl) rfl
theorem m_ml_X8_202 : Cond.methodLink RX8 202 yX8_isSignHere ∈ BG := bg6 (List.mem_of_getElem? (i := 27) (by decide +kernel)) rfl
theorem m_im_X8_isSignHere : Cond.instanceMethod yX8_isSignHere ∈ BG := bg6 (List.mem_of_getElem? (i := 29) (by decide +kernel)) rfl
theorem m_cd_X8_isSignHere : Cond.code yX8_isSignHere cX8_isSignHere 2 (some .boolean) ∈ BG := bg6 (List.mem_of_getElem? (i := 30) rfl) rfl
theorem m_ml_X8_267 : Cond.methodLink RX8 267 yX8_goesDeeper ∈ BG := bg6 (List.mem_of_getElem? (i := 31) (by decide +kernel)) rfl
theorem m_im_X8_goesDeeper : Cond.instanceMethod yX8_goesDeeper ∈ BG := bg6 (List.mem_of_getElem? (i := 33) (by decide +kernel)) rfl
theorem m_cd_X8_goesDeeper : Cond.code yX8_goesDeeper cX8_goesDeeper 1 (some .boolean) ∈ BG := bg6 (List.mem_of_getElem? (i := 34) rfl) rfl
theorem m_ml_X8_208 : Cond.methodLink RX8 208 yX8_misplaced ∈ BG := bg6 (List.mem_of_getElem? (i := 35) (by decide +kernel)) rfl
theorem m_im_X8_misplaced : Cond.instanceMethod yX8_misplaced ∈ BG := bg6 (List.mem_of_getElem? (i := 37) (by decide +kernel)) rfl
theorem m_cd_X8_misplaced : Cond.code yX8_misplaced cX8_misplaced 1 none ∈ BG := bg6 (List.mem_of_getElem? (i := 38) rfl) rfl
theorem m_ml_X8_273 : Cond.methodLink RX8 273 yX8_newNode ∈ BG := bg6 (List.mem_of_getElem? (i := 39) (by decide +kernel)) rfl
theorem m_im_X8_newNode : Cond.instanceMethod yX8_newNode ∈ BG := bg6 (List.mem_of_getElem? (i := 41) (by decide +kernel)) rfl
theorem m_cd_X8_newNode : Cond.code yX8_newNode cX8_newNode 3 (some .int) ∈ BG := bg6 (List.mem_of_getElem? (i := 42) rfl) rfl
theorem m_ml_X8_277 : Cond.methodLink RX8 277 yX8_readRole ∈ BG := bg6 (List.mem_of_getElem? (i := 43) (by decide +kernel)) rfl
theorem m_im_X8_readRole : Cond.instanceMethod yX8_readRole ∈ BG := bg6 (List.mem_of_getElem? (i := 45) (by decide +kernel)) rfl
theorem m_cd_X8_readRole : Cond.code yX8_readRole cX8_readRole 3 (some .int) ∈ BG := bg6 (List.mem_of_getElem? (i := 46) rfl) rfl
theorem m_ml_X8_228 : Cond.methodLink RX8 228 yX8_roleHere ∈ BG := bg6 (List.mem_of_getElem? (i := 47) (by decide +kernel)) rfl
theorem m_im_X8_roleHere : Cond.instanceMethod yX8_roleHere ∈ BG := bg6 (List.mem_of_getElem? (i := 49) (by decide +kernel)) rfl
theorem m_cd_X8_roleHere : Cond.code yX8_roleHere cX8_roleHere 2 (some .int) ∈ BG := bg6 (List.mem_of_getElem? (i := 50) rfl) rfl
theorem m_ml_X8_217 : Cond.methodLink RX8 217 yX8_isHere ∈ BG := bg6 (List.mem_of_getElem? (i := 51) (by decide +kernel)) rfl
theorem m_im_X8_isHere : Cond.instanceMethod yX8_isHere ∈ BG := bg6 (List.mem_of_getElem? (i := 53) (by decide +kernel)) rfl
theorem m_cd_X8_isHere : Cond.code yX8_isHere cX8_isHere 6 (some .boolean) ∈ BG := bg6 (List.mem_of_getElem? (i := 54) rfl) rfl
theorem m_ml_X8_231 : Cond.methodLink RX8 231 yX8_nameHere ∈ BG := bg6 (List.mem_of_getElem? (i := 55) (by decide +kernel)) rfl
theorem m_im_X8_nameHere : Cond.instanceMethod yX8_nameHere ∈ BG := bg6 (List.mem_of_getElem? (i := 57) (by decide +kernel)) rfl
theorem m_cd_X8_nameHere : Cond.code yX8_nameHere cX8_nameHere 2 (some .int) ∈ BG := bg6 (List.mem_of_getElem? (i := 58) rfl) rfl
theorem m_ml_X8_280 : Cond.methodLink RX8 280 yX8_readName ∈ BG := bg6 (List.mem_of_getElem? (i := 59) (by decide +kernel)) rfl
theorem m_im_X8_readName : Cond.instanceMethod yX8_readName ∈ BG := bg6 (List.mem_of_getElem? (i := 61) (by decide +kernel)) rfl
theorem m_cd_X8_readName : Cond.code yX8_readName cX8_readName 4 none ∈ BG := bg6 (List.mem_of_getElem? (i := 62) rfl) rfl
theorem m_ml_X8_237 : Cond.methodLink RX8 237 yX8_newAtom ∈ BG := bg6 (List.mem_of_getElem? (i := 63) (by decide +kernel)) rfl
theorem m_im_X8_newAtom : Cond.instanceMethod yX8_newAtom ∈ BG := bg6 (List.mem_of_getElem? (i := 65) (by decide +kernel)) rfl
theorem m_cd_X8_newAtom : Cond.code yX8_newAtom cX8_newAtom 6 none ∈ BG := bg6 (List.mem_of_getElem? (i := 66) rfl) rfl
theorem m_ml_X8_257 : Cond.methodLink RX8 257 yX8_ended ∈ BG := bg6 (List.mem_of_getElem? (i := 67) (by decide +kernel)) rfl
theorem m_im_X8_ended : Cond.instanceMethod yX8_ended ∈ BG := bg6 (List.mem_of_getElem? (i := 69) (by decide +kernel)) rfl
theorem m_cd_X8_ended : Cond.code yX8_ended cX8_ended 2 none ∈ BG := bg6 (List.mem_of_getElem? (i := 70) rfl) rfl
theorem m_ml_X8_283 : Cond.methodLink RX8 283 yX8_stand ∈ BG := bg6 (List.mem_of_getElem? (i := 71) (by decide +kernel)) rfl
theorem m_im_X8_stand : Cond.instanceMethod yX8_stand ∈ BG := bg6 (List.mem_of_getElem? (i := 73) (by decide +kernel)) rfl
theorem m_cd_X8_stand : Cond.code yX8_stand cX8_stand 3 none ∈ BG := bg6 (List.mem_of_getElem? (i := 74) rfl) rfl
theorem m_ml_X8_260 : Cond.methodLink RX8 260 yX8_findAtom ∈ BG := bg6 (List.mem_of_getElem? (i := 75) (by decide +kernel)) rfl
theorem m_im_X8_findAtom : Cond.instanceMethod yX8_findAtom ∈ BG := bg6 (List.mem_of_getElem? (i := 77) (by decide +kernel)) rfl
theorem m_cd_X8_findAtom : Cond.code yX8_findAtom cX8_findAtom 5 none ∈ BG := bg6 (List.mem_of_getElem? (i := 78) rfl) rfl
theorem m_ml_X8_241 : Cond.methodLink RX8 241 yX8_areLike ∈ BG := bg6 (List.mem_of_getElem? (i := 79) (by decide +kernel)) rfl
theorem m_im_X8_areLike : Cond.instanceMethod yX8_areLike ∈ BG := bg6 (List.mem_of_getElem? (i := 81) (by decide +kernel)) rfl
theorem m_cd_X8_areLike : Cond.code yX8_areLike cX8_areLike 8 (some .boolean) ∈ BG := bg6 (List.mem_of_getElem? (i := 82) rfl) rfl
theorem m_ml_X8_292 : Cond.methodLink RX8 292 yX8_readBehind ∈ BG := bg6 (List.mem_of_getElem? (i := 83) (by decide +kernel)) rfl
theorem m_im_X8_readBehind : Cond.instanceMethod yX8_readBehind ∈ BG := bg6 (List.mem_of_getElem? (i := 85) (by decide +kernel)) rfl
theorem m_cd_X8_readBehind : Cond.code yX8_readBehind cX8_readBehind 3 (some .boolean) ∈ BG := bg6 (List.mem_of_getElem? (i := 86) rfl) rfl
theorem m_ml_X8_286 : Cond.methodLink RX8 286 yX8_close ∈ BG := bg6 (List.mem_of_getElem? (i := 87) (by decide +kernel)) rfl
theorem m_im_X8_close : Cond.instanceMethod yX8_close ∈ BG := bg6 (List.mem_of_getElem? (i := 89) (by decide +kernel)) rfl
theorem m_cd_X8_close : Cond.code yX8_close cX8_close 3 none ∈ BG := bg6 (List.mem_of_getElem? (i := 90) rfl) rfl
theorem m_ml_X8_301 : Cond.methodLink RX8 301 yX8_say ∈ BG := bg6 (List.mem_of_getElem? (i := 91) (by decide +kernel)) rfl
theorem m_im_X8_say : Cond.instanceMethod yX8_say ∈ BG := bg6 (List.mem_of_getElem? (i := 93) (by decide +kernel)) rfl
theorem m_cd_X8_say : Cond.code yX8_say cX8_say 5 none ∈ BG := bg6 (List.mem_of_getElem? (i := 94) rfl) rfl
theorem m_ml_X8_317 : Cond.methodLink RX8 317 yX8_readUnder ∈ BG := bg6 (List.mem_of_getElem? (i := 95) (by decide +kernel)) rfl
theorem m_im_X8_readUnder : Cond.instanceMethod yX8_readUnder ∈ BG := bg6 (List.mem_of_getElem? (i := 97) (by decide +kernel)) rfl
theorem m_cd_X8_readUnder : Cond.code yX8_readUnder cX8_readUnder 3 none ∈ BG := bg6 (List.mem_of_getElem? (i := 98) rfl) rfl
theorem m_ml_X8_298 : Cond.methodLink RX8 298 yX8_reaches ∈ BG := bg6 (List.mem_of_getElem? (i := 99) (by decide +kernel)) rfl
theorem m_im_X8_reaches : Cond.instanceMethod yX8_reaches ∈ BG := bg6 (List.mem_of_getElem? (i := 101) (by decide +kernel)) rfl
theorem m_cd_X8_reaches : Cond.code yX8_reaches cX8_reaches 5 (some .boolean) ∈ BG := bg6 (List.mem_of_getElem? (i := 102) rfl) rfl
theorem m_ml_X8_320 : Cond.methodLink RX8 320 yX8_readSingle ∈ BG := bg6 (List.mem_of_getElem? (i := 103) (by decide +kernel)) rfl
theorem m_im_X8_readSingle : Cond.instanceMethod yX8_readSingle ∈ BG := bg6 (List.mem_of_getElem? (i := 105) (by decide +kernel)) rfl
theorem m_cd_X8_readSingle : Cond.code yX8_readSingle cX8_readSingle 2 none ∈ BG := bg6 (List.mem_of_getElem? (i := 106) rfl) rfl
theorem m_ml_X8_323 : Cond.methodLink RX8 323 yX8_readRule ∈ BG := bg6 (List.mem_of_getElem? (i := 107) (by decide +kernel)) rfl
theorem m_im_X8_readRule : Cond.instanceMethod yX8_readRule ∈ BG := bg6 (List.mem_of_getElem? (i := 109) (by decide +kernel)) rfl
theorem m_cd_X8_readRule : Cond.code yX8_readRule cX8_readRule 5 none ∈ BG := bg6 (List.mem_of_getElem? (i := 110) rfl) rfl
theorem m_ml_X8_326 : Cond.methodLink RX8 326 yX8_take ∈ BG := bg6 (List.mem_of_getElem? (i := 111) (by decide +kernel)) rfl
theorem m_im_X8_take : Cond.instanceMethod yX8_take ∈ BG := bg6 (List.mem_of_getElem? (i := 113) (by decide +kernel)) rfl
theorem m_cd_X8_take : Cond.code yX8_take cX8_take 2 none ∈ BG := bg6 (List.mem_of_getElem? (i := 114) rfl) rfl
theorem m_ml_X8_329 : Cond.methodLink RX8 329 yX8_become ∈ BG := bg6 (List.mem_of_getElem? (i := 115) (by decide +kernel)) rfl
theorem m_im_X8_become : Cond.instanceMethod yX8_become ∈ BG := bg6 (List.mem_of_getElem? (i := 117) (by decide +kernel)) rfl
theorem m_cd_X8_become : Cond.code yX8_become cX8_become 3 none ∈ BG := bg6 (List.mem_of_getElem? (i := 118) rfl) rfl
theorem m_ml_X8_335 : Cond.methodLink RX8 335 yX8_moved ∈ BG := bg6 (List.mem_of_getElem? (i := 119) (by decide +kernel)) rfl
theorem m_st_X8_moved : Cond.static yX8_moved ∈ BG := bg6 (List.mem_of_getElem? (i := 120) (by decide +kernel)) rfl
theorem m_cd_X8_moved : Cond.code yX8_moved cX8_moved 1 (some .int) ∈ BG := bg6 (List.mem_of_getElem? (i := 121) rfl) rfl
theorem m_ml_X8_365 : Cond.methodLink RX8 365 yX8_workOut ∈ BG := bg6 (List.mem_of_getElem? (i := 122) (by decide +kernel)) rfl
theorem m_im_X8_workOut : Cond.instanceMethod yX8_workOut ∈ BG := bg6 (List.mem_of_getElem? (i := 124) (by decide +kernel)) rfl
theorem m_cd_X8_workOut : Cond.code yX8_workOut cX8_workOut 1 none ∈ BG := bg6 (List.mem_of_getElem? (i := 125) rfl) rfl
theorem m_ml_X8_395 : Cond.methodLink RX8 395 yX8_findTruths ∈ BG := bg6 (List.mem_of_getElem? (i := 126) (by decide +kernel)) rfl
theorem m_im_X8_findTruths : Cond.instanceMethod yX8_findTruths ∈ BG := bg6 (List.mem_of_getElem? (i := 128) (by decide +kernel)) rfl
theorem m_cd_X8_findTruths : Cond.code yX8_findTruths cX8_findTruths 5 none ∈ BG := bg6 (List.mem_of_getElem? (i := 129) rfl) rfl
theorem m_ml_X8_368 : Cond.methodLink RX8 368 yX8_types ∈ BG := bg6 (List.mem_of_getElem? (i := 130) (by decide +kernel)) rfl
theorem m_im_X8_types : Cond.instanceMethod yX8_types ∈ BG := bg6 (List.mem_of_getElem? (i := 132) (by decide +kernel)) rfl
theorem m_cd_X8_types : Cond.code yX8_types cX8_types 1 (some .int) ∈ BG := bg6 (List.mem_of_getElem? (i := 133) rfl) rfl
theorem m_ml_X8_371 : Cond.methodLink RX8 371 yX8_isBelow ∈ BG := bg6 (List.mem_of_getElem? (i := 134) (by decide +kernel)) rfl
theorem m_im_X8_isBelow : Cond.instanceMethod yX8_isBelow ∈ BG := bg6 (List.mem_of_getElem? (i := 136) (by decide +kernel)) rfl
theorem m_cd_X8_isBelow : Cond.code yX8_isBelow cX8_isBelow 5 (some .boolean) ∈ BG := bg6 (List.mem_of_getElem? (i := 137) rfl) rfl
theorem m_ml_X8_398 : Cond.methodLink RX8 398 yX8_sift ∈ BG := bg6 (List.mem_of_getElem? (i := 138) (by decide +kernel)) rfl
theorem m_im_X8_sift : Cond.instanceMethod yX8_sift ∈ BG := bg6 (List.mem_of_getElem? (i := 140) (by decide +kernel)) rfl
theorem m_cd_X8_sift : Cond.code yX8_sift cX8_sift 7 none ∈ BG := bg6 (List.mem_of_getElem? (i := 141) rfl) rfl
theorem m_ml_X8_382 : Cond.methodLink RX8 382 yX8_isFair ∈ BG := bg6 (List.mem_of_getElem? (i := 142) (by decide +kernel)) rfl
theorem m_im_X8_isFair : Cond.instanceMethod yX8_isFair ∈ BG := bg6 (List.mem_of_getElem? (i := 144) (by decide +kernel)) rfl
theorem m_cd_X8_isFair : Cond.code yX8_isFair cX8_isFair 8 (some .boolean) ∈ BG := bg6 (List.mem_of_getElem? (i := 145) rfl) rfl
theorem m_ml_X8_385 : Cond.methodLink RX8 385 yX8_isMet ∈ BG := bg6 (List.mem_of_getElem? (i := 146) (by decide +kernel)) rfl
theorem m_im_X8_isMet : Cond.instanceMethod yX8_isMet ∈ BG := bg6 (List.mem_of_getElem? (i := 148) (by decide +kernel)) rfl
theorem m_cd_X8_isMet : Cond.code yX8_isMet cX8_isMet 7 (some .boolean) ∈ BG := bg6 (List.mem_of_getElem? (i := 149) rfl) rfl
theorem m_ml_X8_378 : Cond.methodLink RX8 378 yX8_leastTo ∈ BG := bg6 (List.mem_of_getElem? (i := 150) (by decide +kernel)) rfl
theorem m_im_X8_leastTo : Cond.instanceMethod yX8_leastTo ∈ BG := bg6 (List.mem_of_getElem? (i := 152) (by decide +kernel)) rfl
theorem m_cd_X8_leastTo : Cond.code yX8_leastTo cX8_leastTo 6 (some .int) ∈ BG := bg6 (List.mem_of_getElem? (i := 153) rfl) rfl
theorem m_ml_X8_374 : Cond.methodLink RX8 374 yX8_goesTo ∈ BG := bg6 (List.mem_of_getElem? (i := 154) (by decide +kernel)) rfl
theorem m_im_X8_goesTo : Cond.instanceMethod yX8_goesTo ∈ BG := bg6 (List.mem_of_getElem? (i := 156) (by decide +kernel)) rfl
theorem m_cd_X8_goesTo : Cond.code yX8_goesTo cX8_goesTo 4 (some .boolean) ∈ BG := bg6 (List.mem_of_getElem? (i := 157) rfl) rfl
theorem m_ml_L_31 : Cond.methodLink RL 31 yX8_place ∈ BG := bg6 (List.mem_of_getElem? (i := 158) (by decide +kernel)) rfl
theorem m_im_X8_place : Cond.instanceMethod yX8_place ∈ BG := bg6 (List.mem_of_getElem? (i := 159) (by decide +kernel)) rfl
theorem m_se_X8_place : Cond.selects RX8 yX8_place yX8_place ∈ BG := bg6 (List.mem_of_getElem? (i := 160) (by decide +kernel)) rfl
theorem m_cd_X8_place : Cond.code yX8_place cX8_place 1 (some .int) ∈ BG := bg6 (List.mem_of_getElem? (i := 161) rfl) rfl
theorem m_ml_L_35 : Cond.methodLink RL 35 yX8_count ∈ BG := bg6 (List.mem_of_getElem? (i := 162) (by decide +kernel)) rfl
theorem m_im_X8_count : Cond.instanceMethod yX8_count ∈ BG := bg6 (List.mem_of_getElem? (i := 163) (by decide +kernel)) rfl
theorem m_se_X8_count : Cond.selects RX8 yX8_count yX8_count ∈ BG := bg6 (List.mem_of_getElem? (i := 164) (by decide +kernel)) rfl
theorem m_cd_X8_count : Cond.code yX8_count cX8_count 2 (some .int) ∈ BG := bg6 (List.mem_of_getElem? (i := 165) rfl) rfl
theorem m_ml_X8_405 : Cond.methodLink RX8 405 yX8_standing ∈ BG := bg6 (List.mem_of_getElem? (i := 166) (by decide +kernel)) rfl
theorem m_im_X8_standing : Cond.instanceMethod yX8_standing ∈ BG := bg6 (List.mem_of_getElem? (i := 168) (by decide +kernel)) rfl
theorem m_cd_X8_standing : Cond.code yX8_standing cX8_standing 3 (some .int) ∈ BG := bg6 (List.mem_of_getElem? (i := 169) rfl) rfl
theorem m_ml_L_40 : Cond.methodLink RL 40 yX8_atom ∈ BG := bg6 (List.mem_of_getElem? (i := 170) (by decide +kernel)) rfl
theorem m_im_X8_atom : Cond.instanceMethod yX8_atom ∈ BG := bg6 (List.mem_of_getElem? (i := 171) (by decide +kernel)) rfl
theorem m_se_X8_atom : Cond.selects RX8 yX8_atom yX8_atom ∈ BG := bg6 (List.mem_of_getElem? (i := 172) (by decide +kernel)) rfl
theorem m_cd_X8_atom : Cond.code yX8_atom cX8_atom 3 (some .int) ∈ BG := bg6 (List.mem_of_getElem? (i := 173) rfl) rfl
theorem m_ml_L_44 : Cond.methodLink RL 44 yX8_rank ∈ BG := bg6 (List.mem_of_getElem? (i := 174) (by decide +kernel)) rfl
theorem m_im_X8_rank : Cond.instanceMethod yX8_rank ∈ BG := bg6 (List.mem_of_getElem? (i := 175) (by decide +kernel)) rfl
theorem m_se_X8_rank : Cond.selects RX8 yX8_rank yX8_rank ∈ BG := bg6 (List.mem_of_getElem? (i := 176) (by decide +kernel)) rfl
theorem m_cd_X8_rank : Cond.code yX8_rank cX8_rank 2 (some .int) ∈ BG := bg6 (List.mem_of_getElem? (i := 177) rfl) rfl
theorem m_ml_X8_408 : Cond.methodLink RX8 408 yX8_noType ∈ BG := bg6 (List.mem_of_getElem? (i := 178) (by decide +kernel)) rfl
theorem m_im_X8_noType : Cond.instanceMethod yX8_noType ∈ BG := bg6 (List.mem_of_getElem? (i := 180) (by decide +kernel)) rfl
theorem m_cd_X8_noType : Cond.code yX8_noType cX8_noType 2 (some .boolean) ∈ BG := bg6 (List.mem_of_getElem? (i := 181) rfl) rfl
theorem m_ml_L_49 : Cond.methodLink RL 49 yX8_goes ∈ BG := bg6 (List.mem_of_getElem? (i := 182) (by decide +kernel)) rfl
theorem m_im_X8_goes : Cond.instanceMethod yX8_goes ∈ BG := bg6 (List.mem_of_getElem? (i := 183) (by decide +kernel)) rfl
theorem m_se_X8_goes : Cond.selects RX8 yX8_goes yX8_goes ∈ BG := bg6 (List.mem_of_getElem? (i := 184) (by decide +kernel)) rfl
theorem m_cd_X8_goes : Cond.code yX8_goes cX8_goes 4 (some .int) ∈ BG := bg6 (List.mem_of_getElem? (i := 185) rfl) rfl
theorem m_ml_L_53 : Cond.methodLink RL 53 yX8_at ∈ BG := bg6 (List.mem_of_getElem? (i := 186) (by decide +kernel)) rfl
theorem m_im_X8_at : Cond.instanceMethod yX8_at ∈ BG := bg6 (List.mem_of_getElem? (i := 187) (by decide +kernel)) rfl
theorem m_se_X8_at : Cond.selects RX8 yX8_at yX8_at ∈ BG := bg6 (List.mem_of_getElem? (i := 188) (by decide +kernel)) rfl
theorem m_cd_X8_at : Cond.code yX8_at cX8_at 3 (some .int) ∈ BG := bg6 (List.mem_of_getElem? (i := 189) rfl) rfl
theorem m_ml_X8_411 : Cond.methodLink RX8 411 yX8_noQuestion ∈ BG := bg6 (List.mem_of_getElem? (i := 190) (by decide +kernel)) rfl
theorem m_im_X8_noQuestion : Cond.instanceMethod yX8_noQuestion ∈ BG := bg6 (List.mem_of_getElem? (i := 192) (by decide +kernel)) rfl
theorem m_cd_X8_noQuestion : Cond.code yX8_noQuestion cX8_noQuestion 2 (some .boolean) ∈ BG := bg6 (List.mem_of_getElem? (i := 193) rfl) rfl
theorem m_ml_X8_414 : Cond.methodLink RX8 414 yX8_isAt ∈ BG := bg6 (List.mem_of_getElem? (i := 194) (by decide +kernel)) rfl
theorem m_im_X8_isAt : Cond.instanceMethod yX8_isAt ∈ BG := bg6 (List.mem_of_getElem? (i := 196) (by decide +kernel)) rfl
theorem m_cd_X8_isAt : Cond.code yX8_isAt cX8_isAt 3 (some .boolean) ∈ BG := bg6 (List.mem_of_getElem? (i := 197) rfl) rfl
theorem m_ml_L_57 : Cond.methodLink RL 57 yX8_ask ∈ BG := bg6 (List.mem_of_getElem? (i := 198) (by decide +kernel)) rfl
theorem m_im_X8_ask : Cond.instanceMethod yX8_ask ∈ BG := bg6 (List.mem_of_getElem? (i := 199) (by decide +kernel)) rfl
theorem m_se_X8_ask : Cond.selects RX8 yX8_ask yX8_ask ∈ BG := bg6 (List.mem_of_getElem? (i := 200) (by decide +kernel)) rfl
theorem m_cd_X8_ask : Cond.code yX8_ask cX8_ask 2 (some .int) ∈ BG := bg6 (List.mem_of_getElem? (i := 201) rfl) rfl
theorem m_ml_X8_417 : Cond.methodLink RX8 417 yX8_leastOf ∈ BG := bg6 (List.mem_of_getElem? (i := 202) (by decide +kernel)) rfl
theorem m_im_X8_leastOf : Cond.instanceMethod yX8_leastOf ∈ BG := bg6 (List.mem_of_getElem? (i := 204) (by decide +kernel)) rfl
theorem m_cd_X8_leastOf : Cond.code yX8_leastOf cX8_leastOf 3 (some .int) ∈ BG := bg6 (List.mem_of_getElem? (i := 205) rfl) rfl
theorem m_ml_L_61 : Cond.methodLink RL 61 yX8_isUnder ∈ BG := bg6 (List.mem_of_getElem? (i := 206) (by decide +kernel)) rfl
theorem m_im_X8_isUnder : Cond.instanceMethod yX8_isUnder ∈ BG := bg6 (List.mem_of_getElem? (i := 207) (by decide +kernel)) rfl
theorem m_se_X8_isUnder : Cond.selects RX8 yX8_isUnder yX8_isUnder ∈ BG := bg6 (List.mem_of_getElem? (i := 208) (by decide +kernel)) rfl
theorem m_cd_X8_isUnder : Cond.code yX8_isUnder cX8_isUnder 3 (some .int) ∈ BG := bg6 (List.mem_of_getElem? (i := 209) rfl) rfl
theorem m_ml_X8_423 : Cond.methodLink RX8 423 yX8_noName ∈ BG := bg6 (List.mem_of_getElem? (i := 210) (by decide +kernel)) rfl
theorem m_im_X8_noName : Cond.instanceMethod yX8_noName ∈ BG := bg6 (List.mem_of_getElem? (i := 212) (by decide +kernel)) rfl
theorem m_cd_X8_noName : Cond.code yX8_noName cX8_noName 2 (some .boolean) ∈ BG := bg6 (List.mem_of_getElem? (i := 213) rfl) rfl
theorem m_ml_X8_426 : Cond.methodLink RX8 426 yX8_lies ∈ BG := bg6 (List.mem_of_getElem? (i := 214) (by decide +kernel)) rfl
theorem m_im_X8_lies : Cond.instanceMethod yX8_lies ∈ BG := bg6 (List.mem_of_getElem? (i := 216) (by decide +kernel)) rfl
theorem m_cd_X8_lies : Cond.code yX8_lies cX8_lies 7 (some .boolean) ∈ BG := bg6 (List.mem_of_getElem? (i := 217) rfl) rfl
theorem m_ml_X8_420 : Cond.methodLink RX8 420 yX8_atomOfName ∈ BG := bg6 (List.mem_of_getElem? (i := 218) (by decide +kernel)) rfl
theorem m_im_X8_atomOfName : Cond.instanceMethod yX8_atomOfName ∈ BG := bg6 (List.mem_of_getElem? (i := 220) (by decide +kernel)) rfl
theorem m_cd_X8_atomOfName : Cond.code yX8_atomOfName cX8_atomOfName 3 (some .int) ∈ BG := bg6 (List.mem_of_getElem? (i := 221) rfl) rfl
theorem m_ml_L_65 : Cond.methodLink RL 65 yX8_next_ ∈ BG := bg6 (List.mem_of_getElem? (i := 222) (by decide +kernel)) rfl
theorem m_im_X8_next_ : Cond.instanceMethod yX8_next_ ∈ BG := bg6 (List.mem_of_getElem? (i := 223) (by decide +kernel)) rfl
theorem m_se_X8_next_ : Cond.selects RX8 yX8_next_ yX8_next_ ∈ BG := bg6 (List.mem_of_getElem? (i := 224) (by decide +kernel)) rfl
theorem m_cd_X8_next_ : Cond.code yX8_next_ cX8_next_ 7 (some .int) ∈ BG := bg6 (List.mem_of_getElem? (i := 225) rfl) rfl
theorem m_ml_X8_429 : Cond.methodLink RX8 429 yX8_isAbove ∈ BG := bg6 (List.mem_of_getElem? (i := 226) (by decide +kernel)) rfl
theorem m_im_X8_isAbove : Cond.instanceMethod yX8_isAbove ∈ BG := bg6 (List.mem_of_getElem? (i := 228) (by decide +kernel)) rfl
theorem m_cd_X8_isAbove : Cond.code yX8_isAbove cX8_isAbove 3 (some .boolean) ∈ BG := bg6 (List.mem_of_getElem? (i := 229) rfl) rfl
theorem m_ml_L_69 : Cond.methodLink RL 69 yX8_world ∈ BG := bg6 (List.mem_of_getElem? (i := 230) (by decide +kernel)) rfl
theorem m_im_X8_world : Cond.instanceMethod yX8_world ∈ BG := bg6 (List.mem_of_getElem? (i := 231) (by decide +kernel)) rfl
theorem m_se_X8_world : Cond.selects RX8 yX8_world yX8_world ∈ BG := bg6 (List.mem_of_getElem? (i := 232) (by decide +kernel)) rfl
theorem m_cd_X8_world : Cond.code yX8_world cX8_world 7 (some .int) ∈ BG := bg6 (List.mem_of_getElem? (i := 233) rfl) rfl
theorem m_ml_X8_435 : Cond.methodLink RX8 435 yX8_addEdge ∈ BG := bg6 (List.mem_of_getElem? (i := 234) (by decide +kernel)) rfl
theorem m_im_X8_addEdge : Cond.instanceMethod yX8_addEdge ∈ BG := bg6 (List.mem_of_getElem? (i := 236) (by decide +kernel)) rfl
theorem m_cd_X8_addEdge : Cond.code yX8_addEdge cX8_addEdge 5 none ∈ BG := bg6 (List.mem_of_getElem? (i := 237) rfl) rfl
theorem m_ml_X8_432 : Cond.methodLink RX8 432 yX8_thingOf ∈ BG := bg6 (List.mem_of_getElem? (i := 238) (by decide +kernel)) rfl
theorem m_im_X8_thingOf : Cond.instanceMethod yX8_thingOf ∈ BG := bg7 (List.mem_of_getElem? (i := 0) (by decide +kernel)) rfl
theorem m_cd_X8_thingOf : Cond.code yX8_thingOf cX8_thingOf 3 (some .int) ∈ BG := bg7 (List.mem_of_getElem? (i := 1) rfl) rfl
theorem m_ml_L_73 : Cond.methodLink RL 73 yX8_thing ∈ BG := bg7 (List.mem_of_getElem? (i := 2) (by decide +kernel)) rfl
theorem m_im_X8_thing : Cond.instanceMethod yX8_thing ∈ BG := bg7 (List.mem_of_getElem? (i := 3) (by decide +kernel)) rfl
theorem m_se_X8_thing : Cond.selects RX8 yX8_thing yX8_thing ∈ BG := bg7 (List.mem_of_getElem? (i := 4) (by decide +kernel)) rfl
theorem m_cd_X8_thing : Cond.code yX8_thing cX8_thing 2 (some .int) ∈ BG := bg7 (List.mem_of_getElem? (i := 5) rfl) rfl
theorem m_ml_L_77 : Cond.methodLink RL 77 yX8_edge ∈ BG := bg7 (List.mem_of_getElem? (i := 6) (by decide +kernel)) rfl
theorem m_im_X8_edge : Cond.instanceMethod yX8_edge ∈ BG := bg7 (List.mem_of_getElem? (i := 7) (by decide +kernel)) rfl
theorem m_se_X8_edge : Cond.selects RX8 yX8_edge yX8_edge ∈ BG := bg7 (List.mem_of_getElem? (i := 8) (by decide +kernel)) rfl
theorem m_cd_X8_edge : Cond.code yX8_edge cX8_edge 3 (some .int) ∈ BG := bg7 (List.mem_of_getElem? (i := 9) rfl) rfl
theorem m_ml_L_81 : Cond.methodLink RL 81 yX8_bones ∈ BG := bg7 (List.mem_of_getElem? (i := 10) (by decide +kernel)) rfl
theorem m_im_X8_bones : Cond.instanceMethod yX8_bones ∈ BG := bg7 (List.mem_of_getElem? (i := 11) (by decide +kernel)) rfl
theorem m_se_X8_bones : Cond.selects RX8 yX8_bones yX8_bones ∈ BG := bg7 (List.mem_of_getElem? (i := 12) (by decide +kernel)) rfl
theorem m_cd_X8_bones : Cond.code yX8_bones cX8_bones 4 (some .int) ∈ BG := bg7 (List.mem_of_getElem? (i := 13) rfl) rfl
theorem m_ml_L_85 : Cond.methodLink RL 85 yX8_same ∈ BG := bg7 (List.mem_of_getElem? (i := 14) (by decide +kernel)) rfl
theorem m_im_X8_same : Cond.instanceMethod yX8_same ∈ BG := bg7 (List.mem_of_getElem? (i := 15) (by decide +kernel)) rfl
theorem m_se_X8_same : Cond.selects RX8 yX8_same yX8_same ∈ BG := bg7 (List.mem_of_getElem? (i := 16) (by decide +kernel)) rfl
theorem m_cd_X8_same : Cond.code yX8_same cX8_same 5 (some .int) ∈ BG := bg7 (List.mem_of_getElem? (i := 17) rfl) rfl
theorem m_ml_L_89 : Cond.methodLink RL 89 yX8_print ∈ BG := bg7 (List.mem_of_getElem? (i := 18) (by decide +kernel)) rfl
theorem m_im_X8_print : Cond.instanceMethod yX8_print ∈ BG := bg7 (List.mem_of_getElem? (i := 19) (by decide +kernel)) rfl
theorem m_se_X8_print : Cond.selects RX8 yX8_print yX8_print ∈ BG := bg7 (List.mem_of_getElem? (i := 20) (by decide +kernel)) rfl
theorem m_cd_X8_print : Cond.code yX8_print cX8_print 2 (some .int) ∈ BG := bg7 (List.mem_of_getElem? (i := 21) rfl) rfl
theorem m_ml_X8_458 : Cond.methodLink RX8 458 yX8_putConcept ∈ BG := bg7 (List.mem_of_getElem? (i := 22) (by decide +kernel)) rfl
theorem m_im_X8_putConcept : Cond.instanceMethod yX8_putConcept ∈ BG := bg7 (List.mem_of_getElem? (i := 24) (by decide +kernel)) rfl
theorem m_cd_X8_putConcept : Cond.code yX8_putConcept cX8_putConcept 2 none ∈ BG := bg7 (List.mem_of_getElem? (i := 25) rfl) rfl
theorem m_ml_X8_443 : Cond.methodLink RX8 443 yX8_later ∈ BG := bg7 (List.mem_of_getElem? (i := 26) (by decide +kernel)) rfl
theorem m_im_X8_later : Cond.instanceMethod yX8_later ∈ BG := bg7 (List.mem_of_getElem? (i := 28) (by decide +kernel)) rfl
theorem m_cd_X8_later : Cond.code yX8_later cX8_later 4 none ∈ BG := bg7 (List.mem_of_getElem? (i := 29) rfl) rfl
theorem m_ml_X8_455 : Cond.methodLink RX8 455 yX8_putOne ∈ BG := bg7 (List.mem_of_getElem? (i := 30) (by decide +kernel)) rfl
theorem m_im_X8_putOne : Cond.instanceMethod yX8_putOne ∈ BG := bg7 (List.mem_of_getElem? (i := 32) (by decide +kernel)) rfl
theorem m_cd_X8_putOne : Cond.code yX8_putOne cX8_putOne 5 none ∈ BG := bg7 (List.mem_of_getElem? (i := 33) rfl) rfl
theorem m_ml_X8_441 : Cond.methodLink RX8 441 yX8_put ∈ BG := bg7 (List.mem_of_getElem? (i := 34) (by decide +kernel)) rfl
theorem m_im_X8_put : Cond.instanceMethod yX8_put ∈ BG := bg7 (List.mem_of_getElem? (i := 36) (by decide +kernel)) rfl
theorem m_cd_X8_put : Cond.code yX8_put cX8_put 2 none ∈ BG := bg7 (List.mem_of_getElem? (i := 37) rfl) rfl
theorem m_ml_X8_446 : Cond.methodLink RX8 446 yX8_putName ∈ BG := bg7 (List.mem_of_getElem? (i := 38) (by decide +kernel)) rfl
theorem m_im_X8_putName : Cond.instanceMethod yX8_putName ∈ BG := bg7 (List.mem_of_getElem? (i := 40) (by decide +kernel)) rfl
theorem m_cd_X8_putName : Cond.code yX8_putName cX8_putName 3 none ∈ BG := bg7 (List.mem_of_getElem? (i := 41) rfl) rfl
theorem m_ml_X8_449 : Cond.methodLink RX8 449 yX8_putWord ∈ BG := bg7 (List.mem_of_getElem? (i := 42) (by decide +kernel)) rfl
theorem m_im_X8_putWord : Cond.instanceMethod yX8_putWord ∈ BG := bg7 (List.mem_of_getElem? (i := 44) (by decide +kernel)) rfl
theorem m_cd_X8_putWord : Cond.code yX8_putWord cX8_putWord 4 none ∈ BG := bg7 (List.mem_of_getElem? (i := 45) rfl) rfl
theorem m_ml_X8_452 : Cond.methodLink RX8 452 yX8_putRole ∈ BG := bg7 (List.mem_of_getElem? (i := 46) (by decide +kernel)) rfl
theorem m_im_X8_putRole : Cond.instanceMethod yX8_putRole ∈ BG := bg7 (List.mem_of_getElem? (i := 48) (by decide +kernel)) rfl
theorem m_cd_X8_putRole : Cond.code yX8_putRole cX8_putRole 3 none ∈ BG := bg7 (List.mem_of_getElem? (i := 49) rfl) rfl
theorem m_ml_L_93 : Cond.methodLink RL 93 yX8_out ∈ BG := bg7 (List.mem_of_getElem? (i := 50) (by decide +kernel)) rfl
theorem m_im_X8_out : Cond.instanceMethod yX8_out ∈ BG := bg7 (List.mem_of_getElem? (i := 51) (by decide +kernel)) rfl
theorem m_se_X8_out : Cond.selects RX8 yX8_out yX8_out ∈ BG := bg7 (List.mem_of_getElem? (i := 52) (by decide +kernel)) rfl
theorem m_cd_X8_out : Cond.code yX8_out cX8_out 2 (some .int) ∈ BG := bg7 (List.mem_of_getElem? (i := 53) rfl) rfl
theorem m_ml_L_97 : Cond.methodLink RL 97 yX8_back ∈ BG := bg7 (List.mem_of_getElem? (i := 54) (by decide +kernel)) rfl
theorem m_im_X8_back : Cond.instanceMethod yX8_back ∈ BG := bg7 (List.mem_of_getElem? (i := 55) (by decide +kernel)) rfl
theorem m_se_X8_back : Cond.selects RX8 yX8_back yX8_back ∈ BG := bg7 (List.mem_of_getElem? (i := 56) (by decide +kernel)) rfl
theorem m_cd_X8_back : Cond.code yX8_back cX8_back 3 (some .int) ∈ BG := bg7 (List.mem_of_getElem? (i := 57) rfl) rfl
theorem m_se_X7_feedOne : Cond.selects RX7 yX7_feedOne yX7_feedOne ∈ BG := bgp1 (q := (yX7_feedOne, 9)) (List.mem_of_getElem? (i := 0) rfl) rfl
theorem m_se_X5_skipBlanks : Cond.selects RX5 yX5_skipBlanks yX5_skipBlanks ∈ BG := bgp1 (q := (yX5_skipBlanks, 6)) (List.mem_of_getElem? (i := 1) rfl) rfl
theorem m_se_X5_takeRow : Cond.selects RX5 yX5_takeRow yX5_takeRow ∈ BG := bgp1 (q := (yX5_takeRow, 6)) (List.mem_of_getElem? (i := 2) rfl) rfl
theorem m_se_X5_takeSign : Cond.selects RX5 yX5_takeSign yX5_takeSign ∈ BG := bgp1 (q := (yX5_takeSign, 6)) (List.mem_of_getElem? (i := 3) rfl) rfl
theorem m_se_X4_takeQuestion : Cond.selects RX4 yX4_takeQuestion yX4_takeQuestion ∈ BG := bgp1 (q := (yX4_takeQuestion, 5)) (List.mem_of_getElem? (i := 4) rfl) rfl
theorem m_se_X4_failHere : Cond.selects RX4 yX4_failHere yX4_failHere ∈ BG := bgp1 (q := (yX4_failHere, 5)) (List.mem_of_getElem? (i := 5) rfl) rfl
theorem m_se_X4_fail : Cond.selects RX4 yX4_fail yX4_fail ∈ BG := bgp1 (q := (yX4_fail, 5)) (List.mem_of_getElem? (i := 6) rfl) rfl
theorem m_se_X4_takeConcept : Cond.selects RX4 yX4_takeConcept yX4_takeConcept ∈ BG := bgp1 (q := (yX4_takeConcept, 5)) (List.mem_of_getElem? (i := 7) rfl) rfl
theorem m_se_X4_takeAll : Cond.selects RX4 yX4_takeAll yX4_takeAll ∈ BG := bgp1 (q := (yX4_takeAll, 5)) (List.mem_of_getElem? (i := 8) rfl) rfl
theorem m_se_X4_takeOne : Cond.selects RX4 yX4_takeOne yX4_takeOne ∈ BG := bgp1 (q := (yX4_takeOne, 5)) (List.mem_of_getElem? (i := 9) rfl) rfl
theorem m_se_X4_misplaced : Cond.selects RX4 yX4_misplaced yX4_misplaced ∈ BG := bgp1 (q := (yX4_misplaced, 5)) (List.mem_of_getElem? (i := 10) rfl) rfl
theorem m_se_X4_countConcept : Cond.selects RX4 yX4_countConcept yX4_countConcept ∈ BG := bgp1 (q := (yX4_countConcept, 5)) (List.mem_of_getElem? (i := 11) rfl) rfl
theorem m_se_X4_takeName : Cond.selects RX4 yX4_takeName yX4_takeName ∈ BG := bgp1 (q := (yX4_takeName, 5)) (List.mem_of_getElem? (i := 12) rfl) rfl
theorem m_se_X1_find : Cond.selects RX1 yX1_find yX1_find ∈ BG := bgp1 (q := (yX1_find, 10)) (List.mem_of_getElem? (i := 13) rfl) rfl
theorem m_se_X1_atomFor : Cond.selects RX1 yX1_atomFor yX1_atomFor ∈ BG := bgp1 (q := (yX1_atomFor, 10)) (List.mem_of_getElem? (i := 14) rfl) rfl
theorem m_se_X1_atomOfRole : Cond.selects RX1 yX1_atomOfRole yX1_atomOfRole ∈ BG := bgp1 (q := (yX1_atomOfRole, 10)) (List.mem_of_getElem? (i := 15) rfl) rfl
theorem m_se_X4_takeBracketed : Cond.selects RX4 yX4_takeBracketed yX4_takeBracketed ∈ BG := bgp2 (q := (yX4_takeBracketed, 5)) (List.mem_of_getElem? (i := 0) rfl) rfl
theorem m_se_X4_takeQuantified : Cond.selects RX4 yX4_takeQuantified yX4_takeQuantified ∈ BG := bgp2 (q := (yX4_takeQuantified, 5)) (List.mem_of_getElem? (i := 1) rfl) rfl
theorem m_se_X4_takeRole : Cond.selects RX4 yX4_takeRole yX4_takeRole ∈ BG := bgp2 (q := (yX4_takeRole, 5)) (List.mem_of_getElem? (i := 2) rfl) rfl
theorem m_se_X4_takeEnd : Cond.selects RX4 yX4_takeEnd yX4_takeEnd ∈ BG := bgp2 (q := (yX4_takeEnd, 5)) (List.mem_of_getElem? (i := 3) rfl) rfl
theorem m_se_X0_addStatement : Cond.selects RX0 yX0_addStatement yX0_addStatement ∈ BG := bgp2 (q := (yX0_addStatement, 15)) (List.mem_of_getElem? (i := 4) rfl) rfl
theorem m_se_X4_takeOrder : Cond.selects RX4 yX4_takeOrder yX4_takeOrder ∈ BG := bgp2 (q := (yX4_takeOrder, 5)) (List.mem_of_getElem? (i := 5) rfl) rfl
theorem m_se_X0_rolesAbove : Cond.selects RX0 yX0_rolesAbove yX0_rolesAbove ∈ BG := bgp2 (q := (yX0_rolesAbove, 15)) (List.mem_of_getElem? (i := 6) rfl) rfl
theorem m_se_X4_takeSingle : Cond.selects RX4 yX4_takeSingle yX4_takeSingle ∈ BG := bgp2 (q := (yX4_takeSingle, 5)) (List.mem_of_getElem? (i := 7) rfl) rfl
theorem m_se_X4_takeRule : Cond.selects RX4 yX4_takeRule yX4_takeRule ∈ BG := bgp2 (q := (yX4_takeRule, 5)) (List.mem_of_getElem? (i := 8) rfl) rfl
theorem m_se_X2_truthWord : Cond.selects RX2 yX2_truthWord yX2_truthWord ∈ BG := bgp2 (q := (yX2_truthWord, 15)) (List.mem_of_getElem? (i := 9) rfl) rfl
theorem m_se_X2_truthOf : Cond.selects RX2 yX2_truthOf yX2_truthOf ∈ BG := bgp2 (q := (yX2_truthOf, 15)) (List.mem_of_getElem? (i := 10) rfl) rfl
theorem m_se_X2_gatherAtoms : Cond.selects RX2 yX2_gatherAtoms yX2_gatherAtoms ∈ BG := bgp2 (q := (yX2_gatherAtoms, 15)) (List.mem_of_getElem? (i := 11) rfl) rfl
theorem m_se_X2_takeFair : Cond.selects RX2 yX2_takeFair yX2_takeFair ∈ BG := bgp2 (q := (yX2_takeFair, 15)) (List.mem_of_getElem? (i := 12) rfl) rfl
theorem m_se_X2_broken : Cond.selects RX2 yX2_broken yX2_broken ∈ BG := bgp2 (q := (yX2_broken, 15)) (List.mem_of_getElem? (i := 13) rfl) rfl
theorem m_se_X2_settle : Cond.selects RX2 yX2_settle yX2_settle ∈ BG := bgp2 (q := (yX2_settle, 15)) (List.mem_of_getElem? (i := 14) rfl) rfl
theorem m_se_X2_goRound : Cond.selects RX2 yX2_goRound yX2_goRound ∈ BG := bgp2 (q := (yX2_goRound, 15)) (List.mem_of_getElem? (i := 15) rfl) rfl
theorem m_se_X2_isMet : Cond.selects RX2 yX2_isMet yX2_isMet ∈ BG := bgp3 (q := (yX2_isMet, 15)) (List.mem_of_getElem? (i := 0) rfl) rfl
theorem m_se_X7_isQuestion : Cond.selects RX7 yX7_isQuestion yX7_isQuestion ∈ BG := bgp3 (q := (yX7_isQuestion, 9)) (List.mem_of_getElem? (i := 1) rfl) rfl
theorem m_se_X7_isName : Cond.selects RX7 yX7_isName yX7_isName ∈ BG := bgp3 (q := (yX7_isName, 9)) (List.mem_of_getElem? (i := 2) rfl) rfl
theorem m_se_X7_standsUnder : Cond.selects RX7 yX7_standsUnder yX7_standsUnder ∈ BG := bgp3 (q := (yX7_standsUnder, 9)) (List.mem_of_getElem? (i := 3) rfl) rfl
theorem m_se_X7_isNextAbove : Cond.selects RX7 yX7_isNextAbove yX7_isNextAbove ∈ BG := bgp3 (q := (yX7_isNextAbove, 9)) (List.mem_of_getElem? (i := 4) rfl) rfl
theorem m_se_X7_isStrictlyUnder : Cond.selects RX7 yX7_isStrictlyUnder yX7_isStrictlyUnder ∈ BG := bgp3 (q := (yX7_isStrictlyUnder, 9)) (List.mem_of_getElem? (i := 5) rfl) rfl
theorem m_se_X6_thingFor : Cond.selects RX6 yX6_thingFor yX6_thingFor ∈ BG := bgp3 (q := (yX6_thingFor, 5)) (List.mem_of_getElem? (i := 6) rfl) rfl
theorem m_se_X6_addEdges : Cond.selects RX6 yX6_addEdges yX6_addEdges ∈ BG := bgp3 (q := (yX6_addEdges, 5)) (List.mem_of_getElem? (i := 7) rfl) rfl
theorem m_se_X6_edgeAt : Cond.selects RX6 yX6_edgeAt yX6_edgeAt ∈ BG := bgp3 (q := (yX6_edgeAt, 5)) (List.mem_of_getElem? (i := 8) rfl) rfl
theorem m_se_X3_printStatement : Cond.selects RX3 yX3_printStatement yX3_printStatement ∈ BG := bgp3 (q := (yX3_printStatement, 5)) (List.mem_of_getElem? (i := 9) rfl) rfl
theorem m_se_X3_printConcept : Cond.selects RX3 yX3_printConcept yX3_printConcept ∈ BG := bgp3 (q := (yX3_printConcept, 5)) (List.mem_of_getElem? (i := 10) rfl) rfl
theorem m_se_X3_await : Cond.selects RX3 yX3_await yX3_await ∈ BG := bgp3 (q := (yX3_await, 5)) (List.mem_of_getElem? (i := 11) rfl) rfl
theorem m_se_X3_putWord : Cond.selects RX3 yX3_putWord yX3_putWord ∈ BG := bgp3 (q := (yX3_putWord, 5)) (List.mem_of_getElem? (i := 12) rfl) rfl
theorem m_se_X3_putJoint : Cond.selects RX3 yX3_putJoint yX3_putJoint ∈ BG := bgp3 (q := (yX3_putJoint, 5)) (List.mem_of_getElem? (i := 13) rfl) rfl
theorem m_se_X3_putBehind : Cond.selects RX3 yX3_putBehind yX3_putBehind ∈ BG := bgp3 (q := (yX3_putBehind, 5)) (List.mem_of_getElem? (i := 14) rfl) rfl
theorem m_se_X3_printNode : Cond.selects RX3 yX3_printNode yX3_printNode ∈ BG := bgp3 (q := (yX3_printNode, 5)) (List.mem_of_getElem? (i := 15) rfl) rfl
theorem m_se_X3_awaitPart : Cond.selects RX3 yX3_awaitPart yX3_awaitPart ∈ BG := bgp4 (q := (yX3_awaitPart, 5)) (List.mem_of_getElem? (i := 0) rfl) rfl
theorem m_se_X8_four : Cond.selects RX8 yX8_four yX8_four ∈ BG := bgp4 (q := (yX8_four, 78)) (List.mem_of_getElem? (i := 1) rfl) rfl
theorem m_se_X8_next : Cond.selects RX8 yX8_next yX8_next ∈ BG := bgp4 (q := (yX8_next, 78)) (List.mem_of_getElem? (i := 2) rfl) rfl
theorem m_se_X8_fine : Cond.selects RX8 yX8_fine yX8_fine ∈ BG := bgp4 (q := (yX8_fine, 78)) (List.mem_of_getElem? (i := 3) rfl) rfl
theorem m_se_X8_kept : Cond.selects RX8 yX8_kept yX8_kept ∈ BG := bgp4 (q := (yX8_kept, 78)) (List.mem_of_getElem? (i := 4) rfl) rfl
theorem m_se_X8_readAsk : Cond.selects RX8 yX8_readAsk yX8_readAsk ∈ BG := bgp4 (q := (yX8_readAsk, 78)) (List.mem_of_getElem? (i := 5) rfl) rfl
theorem m_se_X8_wrong : Cond.selects RX8 yX8_wrong yX8_wrong ∈ BG := bgp4 (q := (yX8_wrong, 78)) (List.mem_of_getElem? (i := 6) rfl) rfl
theorem m_se_X8_readConcept : Cond.selects RX8 yX8_readConcept yX8_readConcept ∈ BG := bgp4 (q := (yX8_readConcept, 78)) (List.mem_of_getElem? (i := 7) rfl) rfl
theorem m_se_X8_wait : Cond.selects RX8 yX8_wait yX8_wait ∈ BG := bgp4 (q := (yX8_wait, 78)) (List.mem_of_getElem? (i := 8) rfl) rfl
theorem m_se_X8_readOne : Cond.selects RX8 yX8_readOne yX8_readOne ∈ BG := bgp4 (q := (yX8_readOne, 78)) (List.mem_of_getElem? (i := 9) rfl) rfl
theorem m_se_X8_isSignHere : Cond.selects RX8 yX8_isSignHere yX8_isSignHere ∈ BG := bgp4 (q := (yX8_isSignHere, 78)) (List.mem_of_getElem? (i := 10) rfl) rfl
theorem m_se_X8_goesDeeper : Cond.selects RX8 yX8_goesDeeper yX8_goesDeeper ∈ BG := bgp4 (q := (yX8_goesDeeper, 78)) (List.mem_of_getElem? (i := 11) rfl) rfl
theorem m_se_X8_misplaced : Cond.selects RX8 yX8_misplaced yX8_misplaced ∈ BG := bgp4 (q := (yX8_misplaced, 78)) (List.mem_of_getElem? (i := 12) rfl) rfl
theorem m_se_X8_newNode : Cond.selects RX8 yX8_newNode yX8_newNode ∈ BG := bgp4 (q := (yX8_newNode, 78)) (List.mem_of_getElem? (i := 13) rfl) rfl
theorem m_se_X8_readRole : Cond.selects RX8 yX8_readRole yX8_readRole ∈ BG := bgp4 (q := (yX8_readRole, 78)) (List.mem_of_getElem? (i := 14) rfl) rfl
theorem m_se_X8_roleHere : Cond.selects RX8 yX8_roleHere yX8_roleHere ∈ BG := bgp4 (q := (yX8_roleHere, 78)) (List.mem_of_getElem? (i := 15) rfl) rfl
theorem m_se_X8_isHere : Cond.selects RX8 yX8_isHere yX8_isHere ∈ BG := bgp5 (q := (yX8_isHere, 78)) (List.mem_of_getElem? (i := 0) rfl) rfl
theorem m_se_X8_nameHere : Cond.selects RX8 yX8_nameHere yX8_nameHere ∈ BG := bgp5 (q := (yX8_nameHere, 78)) (List.mem_of_getElem? (i := 1) rfl) rfl
theorem m_se_X8_readName : Cond.selects RX8 yX8_readName yX8_readName ∈ BG := bgp5 (q := (yX8_readName, 78)) (List.mem_of_getElem? (i := 2) rfl) rfl
theorem m_se_X8_newAtom : Cond.selects RX8 yX8_newAtom yX8_newAtom ∈ BG := bgp5 (q := (yX8_newAtom, 78)) (List.mem_of_getElem? (i := 3) rfl) rfl
theorem m_se_X8_ended : Cond.selects RX8 yX8_ended yX8_ended ∈ BG := bgp5 (q := (yX8_ended, 78)) (List.mem_of_getElem? (i := 4) rfl) rfl
theorem m_se_X8_stand : Cond.selects RX8 yX8_stand yX8_stand ∈ BG := bgp5 (q := (yX8_stand, 78)) (List.mem_of_getElem? (i := 5) rfl) rfl
theorem m_se_X8_findAtom : Cond.selects RX8 yX8_findAtom yX8_findAtom ∈ BG := bgp5 (q := (yX8_findAtom, 78)) (List.mem_of_getElem? (i := 6) rfl) rfl
theorem m_se_X8_areLike : Cond.selects RX8 yX8_areLike yX8_areLike ∈ BG := bgp5 (q := (yX8_areLike, 78)) (List.mem_of_getElem? (i := 7) rfl) rfl
theorem m_se_X8_readBehind : Cond.selects RX8 yX8_readBehind yX8_readBehind ∈ BG := bgp5 (q := (yX8_readBehind, 78)) (List.mem_of_getElem? (i := 8) rfl) rfl
theorem m_se_X8_close : Cond.selects RX8 yX8_close yX8_close ∈ BG := bgp5 (q := (yX8_close, 78)) (List.mem_of_getElem? (i := 9) rfl) rfl
theorem m_se_X8_say : Cond.selects RX8 yX8_say yX8_say ∈ BG := bgp5 (q := (yX8_say, 78)) (List.mem_of_getElem? (i := 10) rfl) rfl
theorem m_se_X8_readUnder : Cond.selects RX8 yX8_readUnder yX8_readUnder ∈ BG := bgp5 (q := (yX8_readUnder, 78)) (List.mem_of_getElem? (i := 11) rfl) rfl
theorem m_se_X8_reaches : Cond.selects RX8 yX8_reaches yX8_reaches ∈ BG := bgp5 (q := (yX8_reaches, 78)) (List.mem_of_getElem? (i := 12) rfl) rfl
theorem m_se_X8_readSingle : Cond.selects RX8 yX8_readSingle yX8_readSingle ∈ BG := bgp5 (q := (yX8_readSingle, 78)) (List.mem_of_getElem? (i := 13) rfl) rfl
theorem m_se_X8_readRule : Cond.selects RX8 yX8_readRule yX8_readRule ∈ BG := bgp5 (q := (yX8_readRule, 78)) (List.mem_of_getElem? (i := 14) rfl) rfl
theorem m_se_X8_take : Cond.selects RX8 yX8_take yX8_take ∈ BG := bgp5 (q := (yX8_take, 78)) (List.mem_of_getElem? (i := 15) rfl) rfl
theorem m_se_X8_become : Cond.selects RX8 yX8_become yX8_become ∈ BG := bgp6 (q := (yX8_become, 78)) (List.mem_of_getElem? (i := 0) rfl) rfl
theorem m_se_X8_workOut : Cond.selects RX8 yX8_workOut yX8_workOut ∈ BG := bgp6 (q := (yX8_workOut, 78)) (List.mem_of_getElem? (i := 1) rfl) rfl
theorem m_se_X8_findTruths : Cond.selects RX8 yX8_findTruths yX8_findTruths ∈ BG := bgp6 (q := (yX8_findTruths, 78)) (List.mem_of_getElem? (i := 2) rfl) rfl
theorem m_se_X8_types : Cond.selects RX8 yX8_types yX8_types ∈ BG := bgp6 (q := (yX8_types, 78)) (List.mem_of_getElem? (i := 3) rfl) rfl
theorem m_se_X8_isBelow : Cond.selects RX8 yX8_isBelow yX8_isBelow ∈ BG := bgp6 (q := (yX8_isBelow, 78)) (List.mem_of_getElem? (i := 4) rfl) rfl
theorem m_se_X8_sift : Cond.selects RX8 yX8_sift yX8_sift ∈ BG := bgp6 (q := (yX8_sift, 78)) (List.mem_of_getElem? (i := 5) rfl) rfl
theorem m_se_X8_isFair : Cond.selects RX8 yX8_isFair yX8_isFair ∈ BG := bgp6 (q := (yX8_isFair, 78)) (List.mem_of_getElem? (i := 6) rfl) rfl
theorem m_se_X8_isMet : Cond.selects RX8 yX8_isMet yX8_isMet ∈ BG := bgp6 (q := (yX8_isMet, 78)) (List.mem_of_getElem? (i := 7) rfl) rfl
theorem m_se_X8_leastTo : Cond.selects RX8 yX8_leastTo yX8_leastTo ∈ BG := bgp6 (q := (yX8_leastTo, 78)) (List.mem_of_getElem? (i := 8) rfl) rfl
theorem m_se_X8_goesTo : Cond.selects RX8 yX8_goesTo yX8_goesTo ∈ BG := bgp6 (q := (yX8_goesTo, 78)) (List.mem_of_getElem? (i := 9) rfl) rfl
theorem m_se_X8_standing : Cond.selects RX8 yX8_standing yX8_standing ∈ BG := bgp6 (q := (yX8_standing, 78)) (List.mem_of_getElem? (i := 10) rfl) rfl
theorem m_se_X8_noType : Cond.selects RX8 yX8_noType yX8_noType ∈ BG := bgp6 (q := (yX8_noType, 78)) (List.mem_of_getElem? (i := 11) rfl) rfl
theorem m_se_X8_noQuestion : Cond.selects RX8 yX8_noQuestion yX8_noQuestion ∈ BG := bgp6 (q := (yX8_noQuestion, 78)) (List.mem_of_getElem? (i := 12) rfl) rfl
theorem m_se_X8_isAt : Cond.selects RX8 yX8_isAt yX8_isAt ∈ BG := bgp6 (q := (yX8_isAt, 78)) (List.mem_of_getElem? (i := 13) rfl) rfl
theorem m_se_X8_leastOf : Cond.selects RX8 yX8_leastOf yX8_leastOf ∈ BG := bgp6 (q := (yX8_leastOf, 78)) (List.mem_of_getElem? (i := 14) rfl) rfl
theorem m_se_X8_noName : Cond.selects RX8 yX8_noName yX8_noName ∈ BG := bgp6 (q := (yX8_noName, 78)) (List.mem_of_getElem? (i := 15) rfl) rfl
theorem m_se_X8_lies : Cond.selects RX8 yX8_lies yX8_lies ∈ BG := bgp7 (q := (yX8_lies, 78)) (List.mem_of_getElem? (i := 0) rfl) rfl
theorem m_se_X8_atomOfName : Cond.selects RX8 yX8_atomOfName yX8_atomOfName ∈ BG := bgp7 (q := (yX8_atomOfName, 78)) (List.mem_of_getElem? (i := 1) rfl) rfl
theorem m_se_X8_isAbove : Cond.selects RX8 yX8_isAbove yX8_isAbove ∈ BG := bgp7 (q := (yX8_isAbove, 78)) (List.mem_of_getElem? (i := 2) rfl) rfl
theorem m_se_X8_addEdge : Cond.selects RX8 yX8_addEdge yX8_addEdge ∈ BG := bgp7 (q := (yX8_addEdge, 78)) (List.mem_of_getElem? (i := 3) rfl) rfl
theorem m_se_X8_thingOf : Cond.selects RX8 yX8_thingOf yX8_thingOf ∈ BG := bgp7 (q := (yX8_thingOf, 78)) (List.mem_of_getElem? (i := 4) rfl) rfl
theorem m_se_X8_putConcept : Cond.selects RX8 yX8_putConcept yX8_putConcept ∈ BG := bgp7 (q := (yX8_putConcept, 78)) (List.mem_of_getElem? (i := 5) rfl) rfl
theorem m_se_X8_later : Cond.selects RX8 yX8_later yX8_later ∈ BG := bgp7 (q := (yX8_later, 78)) (List.mem_of_getElem? (i := 6) rfl) rfl
theorem m_se_X8_putOne : Cond.selects RX8 yX8_putOne yX8_putOne ∈ BG := bgp7 (q := (yX8_putOne, 78)) (List.mem_of_getElem? (i := 7) rfl) rfl
theorem m_se_X8_put : Cond.selects RX8 yX8_put yX8_put ∈ BG := bgp7 (q := (yX8_put, 78)) (List.mem_of_getElem? (i := 8) rfl) rfl
theorem m_se_X8_putName : Cond.selects RX8 yX8_putName yX8_putName ∈ BG := bgp7 (q := (yX8_putName, 78)) (List.mem_of_getElem? (i := 9) rfl) rfl
theorem m_se_X8_putWord : Cond.selects RX8 yX8_putWord yX8_putWord ∈ BG := bgp7 (q := (yX8_putWord, 78)) (List.mem_of_getElem? (i := 10) rfl) rfl
theorem m_se_X8_putRole : Cond.selects RX8 yX8_putRole yX8_putRole ∈ BG := bgp7 (q := (yX8_putRole, 78)) (List.mem_of_getElem? (i := 11) rfl) rfl
theorem i_X0 : ∀ w ∈ u_ws RX0 TX0 15, w ∈ BG := (List.forall_mem_cons.mpr ⟨m_ly_X0_0, (List.forall_mem_cons.mpr ⟨m_ly_X0_1, (List.forall_mem_cons.mpr ⟨m_ly_X0_2, (List.forall_mem_cons.mpr ⟨m_ly_X0_3, (List.forall_mem_cons.mpr ⟨m_ly_X0_4, (List.forall_mem_cons.mpr ⟨m_ly_X0_5, (List.forall_mem_cons.mpr ⟨m_ly_X0_6, (List.forall_mem_cons.mpr ⟨m_ly_X0_7, (List.forall_mem_cons.mpr ⟨m_ly_X0_8, (List.forall_mem_cons.mpr ⟨m_ly_X0_9, (List.forall_mem_cons.mpr ⟨m_ly_X0_10, (List.forall_mem_cons.mpr ⟨m_ly_X0_11, (List.forall_mem_cons.mpr ⟨m_ly_X0_12, (List.forall_mem_cons.mpr ⟨m_ly_X0_13, (List.forall_mem_cons.mpr ⟨m_ly_X0_14, (fun _ h => absurd h List.not_mem_nil)⟩)⟩)⟩)⟩)⟩)⟩)⟩)⟩)⟩)⟩)⟩)⟩)⟩)⟩)⟩)
theorem i_X1 : ∀ w ∈ u_ws RX1 TX1 10, w ∈ BG := (List.forall_mem_cons.mpr ⟨m_ly_X1_0, (List.forall_mem_cons.mpr ⟨m_ly_X1_1, (List.forall_mem_cons.mpr ⟨m_ly_X1_2, (List.forall_mem_cons.mpr ⟨m_ly_X1_3, (List.forall_mem_cons.mpr ⟨m_ly_X1_4, (List.forall_mem_cons.mpr ⟨m_ly_X1_5, (List.forall_mem_cons.mpr ⟨m_ly_X1_6, (List.forall_mem_cons.mpr ⟨m_ly_X1_7, (List.forall_mem_cons.mpr ⟨m_ly_X1_8, (List.forall_mem_cons.mpr ⟨m_ly_X1_9, (fun _ h => absurd h List.not_mem_nil)⟩)⟩)⟩)⟩)⟩)⟩)⟩)⟩)⟩)⟩)
theorem i_X2 : ∀ w ∈ u_ws RX2 TX2 15, w ∈ BG := (List.forall_mem_cons.mpr ⟨m_ly_X2_0, (List.forall_mem_cons.mpr ⟨m_ly_X2_1, (List.forall_mem_cons.mpr ⟨m_ly_X2_2, (List.forall_mem_cons.mpr ⟨m_ly_X2_3, (List.forall_mem_cons.mpr ⟨m_ly_X2_4, (List.forall_mem_cons.mpr ⟨m_ly_X2_5, (List.forall_mem_cons.mpr ⟨m_ly_X2_6, (List.forall_mem_cons.mpr ⟨m_ly_X2_7, (List.forall_mem_cons.mpr ⟨m_ly_X2_8, (List.forall_mem_cons.mpr ⟨m_ly_X2_9, (List.forall_mem_cons.mpr ⟨m_ly_X2_10, (List.forall_mem_cons.mpr ⟨m_ly_X2_11, (List.forall_mem_cons.mpr ⟨m_ly_X2_12, (List.forall_mem_cons.mpr ⟨m_ly_X2_13, (List.forall_mem_cons.mpr ⟨m_ly_X2_14, (fun _ h => absurd h List.not_mem_nil)⟩)⟩)⟩)⟩)⟩)⟩)⟩)⟩)⟩)⟩)⟩)⟩)⟩)⟩)⟩)
theorem i_X3 : ∀ w ∈ u_ws RX3 TX3 5, w ∈ BG := (List.forall_mem_cons.mpr ⟨m_ly_X3_0, (List.forall_mem_cons.mpr ⟨m_ly_X3_1, (List.forall_mem_cons.mpr ⟨m_ly_X3_2, (List.forall_mem_cons.mpr ⟨m_ly_X3_3, (List.forall_mem_cons.mpr ⟨m_ly_X3_4, (fun _ h => absurd h List.not_mem_nil)⟩)⟩)⟩)⟩)⟩)
theorem i_X4 : ∀ w ∈ u_ws RX4 TX4 5, w ∈ BG := (List.forall_mem_cons.mpr ⟨m_ly_X4_0, (List.forall_mem_cons.mpr ⟨m_ly_X4_1, (List.forall_mem_cons.mpr ⟨m_ly_X4_2, (List.forall_mem_cons.mpr ⟨m_ly_X4_3, (List.forall_mem_cons.mpr ⟨m_ly_X4_4, (fun _ h => absurd h List.not_mem_nil)⟩)⟩)⟩)⟩)⟩)
theorem i_X5 : ∀ w ∈ u_ws RX5 TX5 6, w ∈ BG := (List.forall_mem_cons.mpr ⟨m_ly_X5_0, (List.forall_mem_cons.mpr ⟨m_ly_X5_1, (List.forall_mem_cons.mpr ⟨m_ly_X5_2, (List.forall_mem_cons.mpr ⟨m_ly_X5_3, (List.forall_mem_cons.mpr ⟨m_ly_X5_4, (List.forall_mem_cons.mpr ⟨m_ly_X5_5, (fun _ h => absurd h List.not_mem_nil)⟩)⟩)⟩)⟩)⟩)⟩)
theorem i_X6 : ∀ w ∈ u_ws RX6 TX6 5, w ∈ BG := (List.forall_mem_cons.mpr ⟨m_ly_X6_0, (List.forall_mem_cons.mpr ⟨m_ly_X6_1, (List.forall_mem_cons.mpr ⟨m_ly_X6_2, (List.forall_mem_cons.mpr ⟨m_ly_X6_3, (List.forall_mem_cons.mpr ⟨m_ly_X6_4, (fun _ h => absurd h List.not_mem_nil)⟩)⟩)⟩)⟩)⟩)
theorem i_X7 : ∀ w ∈ u_ws RX7 TX7 9, w ∈ BG := (List.forall_mem_cons.mpr ⟨m_ly_X7_0, (List.forall_mem_cons.mpr ⟨m_ly_X7_1, (List.forall_mem_cons.mpr ⟨m_ly_X7_2, (List.forall_mem_cons.mpr ⟨m_ly_X7_3, (List.forall_mem_cons.mpr ⟨m_ly_X7_4, (List.forall_mem_cons.mpr ⟨m_ly_X7_5, (List.forall_mem_cons.mpr ⟨m_ly_X7_6, (List.forall_mem_cons.mpr ⟨m_ly_X7_7, (List.forall_mem_cons.mpr ⟨m_ly_X7_8, (fun _ h => absurd h List.not_mem_nil)⟩)⟩)⟩)⟩)⟩)⟩)⟩)⟩)⟩)
theorem i_X8 : ∀ w ∈ u_ws RX8 TX8 78, w ∈ BG := (List.forall_mem_cons.mpr ⟨m_ly_X8_0, (List.forall_mem_cons.mpr ⟨m_ly_X8_1, (List.forall_mem_cons.mpr ⟨m_ly_X8_2, (List.forall_mem_cons.mpr ⟨m_ly_X8_3, (List.forall_mem_cons.mpr ⟨m_ly_X8_4, (List.forall_mem_cons.mpr ⟨m_ly_X8_5, (List.forall_mem_cons.mpr ⟨m_ly_X8_6, (List.forall_mem_cons.mpr ⟨m_ly_X8_7, (List.forall_mem_cons.mpr ⟨m_ly_X8_8, (List.forall_mem_cons.mpr ⟨m_ly_X8_9, (List.forall_mem_cons.mpr ⟨m_ly_X8_10, (List.forall_mem_cons.mpr ⟨m_ly_X8_11, (List.forall_mem_cons.mpr ⟨m_ly_X8_12, (List.forall_mem_cons.mpr ⟨m_ly_X8_13, (List.forall_mem_cons.mpr ⟨m_ly_X8_14, (List.forall_mem_cons.mpr ⟨m_ly_X8_15, (List.forall_mem_cons.mpr ⟨m_ly_X8_16, (List.forall_mem_cons.mpr ⟨m_ly_X8_17, (List.forall_mem_cons.mpr ⟨m_ly_X8_18, (List.forall_mem_cons.mpr ⟨m_ly_X8_19, (List.forall_mem_cons.mpr ⟨m_ly_X8_20, (List.forall_mem_cons.mpr ⟨m_ly_X8_21, (List.forall_mem_cons.mpr ⟨m_ly_X8_22, (List.forall_mem_cons.mpr ⟨m_ly_X8_23, (List.forall_mem_cons.mpr ⟨m_ly_X8_24, (List.forall_mem_cons.mpr ⟨m_ly_X8_25, (List.forall_mem_cons.mpr ⟨m_ly_X8_26, (List.forall_mem_cons.mpr ⟨m_ly_X8_27, (List.forall_mem_cons.mpr ⟨m_ly_X8_28, (List.forall_mem_cons.mpr ⟨m_ly_X8_29, (List.forall_mem_cons.mpr ⟨m_ly_X8_30, (List.forall_mem_cons.mpr ⟨m_ly_X8_31, (List.forall_mem_cons.mpr ⟨m_ly_X8_32, (List.forall_mem_cons.mpr ⟨m_ly_X8_33, (List.forall_mem_cons.mpr ⟨m_ly_X8_34, (List.forall_mem_cons.mpr ⟨m_ly_X8_35, (List.forall_mem_cons.mpr ⟨m_ly_X8_36, (List.forall_mem_cons.mpr ⟨m_ly_X8_37, (List.forall_mem_cons.mpr ⟨m_ly_X8_38, (List.forall_mem_cons.mpr ⟨m_ly_X8_39, (List.forall_mem_cons.mpr ⟨m_ly_X8_40, (List.forall_mem_cons.mpr ⟨m_ly_X8_41, (List.forall_mem_cons.mpr ⟨m_ly_X8_42, (List.forall_mem_cons.mpr ⟨m_ly_X8_43, (List.forall_mem_cons.mpr ⟨m_ly_X8_44, (List.forall_mem_cons.mpr ⟨m_ly_X8_45, (List.forall_mem_cons.mpr ⟨m_ly_X8_46, (List.forall_mem_cons.mpr ⟨m_ly_X8_47, (List.forall_mem_cons.mpr ⟨m_ly_X8_48, (List.forall_mem_cons.mpr ⟨m_ly_X8_49, (List.forall_mem_cons.mpr ⟨m_ly_X8_50, (List.forall_mem_cons.mpr ⟨m_ly_X8_51, (List.forall_mem_cons.mpr ⟨m_ly_X8_52, (List.forall_mem_cons.mpr ⟨m_ly_X8_53, (List.forall_mem_cons.mpr ⟨m_ly_X8_54, (List.forall_mem_cons.mpr ⟨m_ly_X8_55, (List.forall_mem_cons.mpr ⟨m_ly_X8_56, (List.forall_mem_cons.mpr ⟨m_ly_X8_57, (List.forall_mem_cons.mpr ⟨m_ly_X8_58, (List.forall_mem_cons.mpr ⟨m_ly_X8_59, (List.forall_mem_cons.mpr ⟨m_ly_X8_60, (List.forall_mem_cons.mpr ⟨m_ly_X8_61, (List.forall_mem_cons.mpr ⟨m_ly_X8_62, (List.forall_mem_cons.mpr ⟨m_ly_X8_63, (List.forall_mem_cons.mpr ⟨m_ly_X8_64, (List.forall_mem_cons.mpr ⟨m_ly_X8_65, (List.forall_mem_cons.mpr ⟨m_ly_X8_66, (List.forall_mem_cons.mpr ⟨m_ly_X8_67, (List.forall_mem_cons.mpr ⟨m_ly_X8_68, (List.forall_mem_cons.mpr ⟨m_ly_X8_69, (List.forall_mem_cons.mpr ⟨m_ly_X8_70, (List.forall_mem_cons.mpr ⟨m_ly_X8_71, (List.forall_mem_cons.mpr ⟨m_ly_X8_72, (List.forall_mem_cons.mpr ⟨m_ly_X8_73, (List.forall_mem_cons.mpr ⟨m_ly_X8_74, (List.forall_mem_cons.mpr ⟨m_ly_X8_75, (List.forall_mem_cons.mpr ⟨m_ly_X8_76, (List.forall_mem_cons.mpr ⟨m_ly_X8_77, (fun _ h => absurd h List.not_mem_nil)⟩)⟩)⟩)⟩)⟩)⟩)⟩)⟩)⟩)⟩)⟩)⟩)⟩)⟩)⟩)⟩)⟩)⟩)⟩)⟩)⟩)⟩)⟩)⟩)⟩)⟩)⟩)⟩)⟩)⟩)⟩)⟩)⟩)⟩)⟩)⟩)⟩)⟩)⟩)⟩)⟩)⟩)⟩)⟩)⟩)⟩)⟩)⟩)⟩)⟩)⟩)⟩)⟩)⟩)⟩)⟩)⟩)⟩)⟩)⟩)⟩)⟩)⟩)⟩)⟩)⟩)⟩)⟩)⟩)⟩)⟩)⟩)⟩)⟩)⟩)⟩)⟩)⟩)
theorem goodV {own : String} {idx : Nat} {C : String} {z : MethodName} {b : ByteArray} {n : Nat} {r : Option FieldType} {c0 : Cond} (h1 : Cond.methodLink own idx z ∈ BG) (h2 : Cond.instanceMethod z ∈ BG) (h3 : Cond.selects C z z ∈ BG) (h4 : Cond.initialized C ∈ BG) (h5 : Cond.code z b n r ∈ BG) : GoodIn (c0 :: BG) (wsV own idx C z (Cond.code z b n r :: BG)) := by
  intro w hw
  have hm : w ∈ BG := by
    unfold wsV at hw
    rcases List.mem_append.mp hw with h | h
    · simp only [List.mem_cons, List.not_mem_nil, or_false] at h
      rcases h with h | h | h | h <;> (rw [h]; assumption)
    · rcases List.mem_cons.mp h with h | h
      · rw [h]; exact h5
      · exact h
  exact ⟨List.mem_cons_of_mem _ hm, good_of_word (bgood hm)⟩
theorem goodS {own : String} {idx : Nat} {z : MethodName} {b : ByteArray} {n : Nat} {r : Option FieldType} {c0 : Cond} (h1 : Cond.methodLink own idx z ∈ BG) (h2 : Cond.static z ∈ BG) (h4 : Cond.initialized z.cls ∈ BG) (h5 : Cond.code z b n r ∈ BG) : GoodIn (c0 :: BG) (va_wsS own idx z (Cond.code z b n r :: BG)) := by
  intro w hw
  have hm : w ∈ BG := by
    unfold va_wsS at hw
    rcases List.mem_append.mp hw with h | h
    · simp only [List.mem_cons, List.not_mem_nil, or_false] at h
      rcases h with h | h | h <;> (rw [h]; assumption)
    · rcases List.mem_cons.mp h with h | h
      · rw [h]; exact h5
      · exact h
  exact ⟨List.mem_cons_of_mem _ hm, good_of_word (bgood hm)⟩
theorem goodI {z : MethodName} {b : ByteArray} {n : Nat} {r : Option FieldType} {c0 : Cond} (h5 : Cond.code z b n r ∈ BG) : GoodIn (c0 :: BG) (Cond.code z b n r :: BG) := by
  intro w hw
  have hm : w ∈ BG := by
    rcases List.mem_cons.mp hw with h | h
    · rw [h]; exact h5
    · exact h
  exact ⟨List.mem_cons_of_mem _ hm, good_of_word (bgood hm)⟩
abbrev wsX0_init : List Cond := Cond.code yX0_init cX0_init 1 none :: BG
abbrev wsX0_clear : List Cond := Cond.code yX0_clear cX0_clear 2 none :: BG
abbrev wsX0_findName : List Cond := Cond.code yX0_findName cX0_findName 3 (some .int) :: BG
abbrev wsX0_findRole : List Cond := Cond.code yX0_findRole cX0_findRole 3 (some .int) :: BG
abbrev wsX0_find : List Cond := Cond.code yX0_find cX0_find 5 (some .int) :: BG
abbrev wsX0_addName : List Cond := Cond.code yX0_addName cX0_addName 3 (some .int) :: BG
abbrev wsX0_addRole : List Cond := Cond.code yX0_addRole cX0_addRole 3 (some .int) :: BG
abbrev wsX0_addRule : List Cond := Cond.code yX0_addRule cX0_addRule 4 none :: BG
abbrev wsX0_addQuestion : List Cond := Cond.code yX0_addQuestion cX0_addQuestion 2 none :: BG
abbrev wsX0_addOrder : List Cond := Cond.code yX0_addOrder cX0_addOrder 5 none :: BG
abbrev wsX0_addSingle : List Cond := Cond.code yX0_addSingle cX0_addSingle 2 none :: BG
abbrev wsX0_addStatement : List Cond := Cond.code yX0_addStatement cX0_addStatement 5 (some .int) :: BG
abbrev wsX0_statement : List Cond := Cond.code yX0_statement cX0_statement 2 (some .int) :: BG
abbrev wsX0_ruleStatement : List Cond := Cond.code yX0_ruleStatement cX0_ruleStatement 2 (some .int) :: BG
abbrev wsX0_sortOf : List Cond := Cond.code yX0_sortOf cX0_sortOf 1 (some .int) :: BG
abbrev wsX0_leftOf : List Cond := Cond.code yX0_leftOf cX0_leftOf 1 (some .int) :: BG
abbrev wsX0_rightOf : List Cond := Cond.code yX0_rightOf cX0_rightOf 1 (some .int) :: BG
abbrev wsX0_question : List Cond := Cond.code yX0_question cX0_question 2 (some .int) :: BG
abbrev wsX0_nameWord : List Cond := Cond.code yX0_nameWord cX0_nameWord 2 (some .long) :: BG
abbrev wsX0_roleWord : List Cond := Cond.code yX0_roleWord cX0_roleWord 2 (some .long) :: BG
abbrev wsX0_rolesAbove : List Cond := Cond.code yX0_rolesAbove cX0_rolesAbove 2 (some .int) :: BG
abbrev wsX0_isRoleUnder : List Cond := Cond.code yX0_isRoleUnder cX0_isRoleUnder 3 (some .boolean) :: BG
abbrev wsX0_isSingle : List Cond := Cond.code yX0_isSingle cX0_isSingle 2 (some .boolean) :: BG
abbrev wsX0_isOrdered : List Cond := Cond.code yX0_isOrdered cX0_isOrdered 2 (some .boolean) :: BG
abbrev wsX1_init : List Cond := Cond.code yX1_init cX1_init 1 none :: BG
abbrev wsX1_clear : List Cond := Cond.code yX1_clear cX1_clear 1 none :: BG
abbrev wsX1_make : List Cond := Cond.code yX1_make cX1_make 7 (some .int) :: BG
abbrev wsX1_find : List Cond := Cond.code yX1_find cX1_find 5 (some .int) :: BG
abbrev wsX1_atomOfRole : List Cond := Cond.code yX1_atomOfRole cX1_atomOfRole 4 (some .int) :: BG
abbrev wsX1_atomFor : List Cond := Cond.code yX1_atomFor cX1_atomFor 6 (some .int) :: BG
abbrev wsX1_sortOf : List Cond := Cond.code yX1_sortOf cX1_sortOf 2 (some .int) :: BG
abbrev wsX1_leftOf : List Cond := Cond.code yX1_leftOf cX1_leftOf 2 (some .int) :: BG
abbrev wsX1_rightOf : List Cond := Cond.code yX1_rightOf cX1_rightOf 2 (some .int) :: BG
abbrev wsX1_atomOf : List Cond := Cond.code yX1_atomOf cX1_atomOf 2 (some .int) :: BG
abbrev wsX1_nodeOfName : List Cond := Cond.code yX1_nodeOfName cX1_nodeOfName 2 (some .int) :: BG
abbrev wsX1_roleOfAtom : List Cond := Cond.code yX1_roleOfAtom cX1_roleOfAtom 2 (some .int) :: BG
abbrev wsX1_nameOfAtom : List Cond := Cond.code yX1_nameOfAtom cX1_nameOfAtom 2 (some .int) :: BG
abbrev wsX1_partOfAtom : List Cond := Cond.code yX1_partOfAtom cX1_partOfAtom 2 (some .int) :: BG
abbrev wsX1_isTurned : List Cond := Cond.code yX1_isTurned cX1_isTurned 2 (some .boolean) :: BG
abbrev wsX2_init : List Cond := Cond.code yX2_init cX2_init 2 none :: BG
abbrev wsX2_workOut : List Cond := Cond.code yX2_workOut cX2_workOut 6 none :: BG
abbrev wsX2_truthWord : List Cond := Cond.code yX2_truthWord cX2_truthWord 5 (some .long) :: BG
abbrev wsX2_truthOf : List Cond := Cond.code yX2_truthOf cX2_truthOf 3 (some .long) :: BG
abbrev wsX2_bitPattern : List Cond := Cond.code yX2_bitPattern cX2_bitPattern 2 (some .long) :: BG
abbrev wsX2_gatherAtoms : List Cond := Cond.code yX2_gatherAtoms cX2_gatherAtoms 4 none :: BG
abbrev wsX2_takeFair : List Cond := Cond.code yX2_takeFair cX2_takeFair 8 none :: BG
abbrev wsX2_broken : List Cond := Cond.code yX2_broken cX2_broken 7 (some .long) :: BG
abbrev wsX2_settle : List Cond := Cond.code yX2_settle cX2_settle 4 (some .int) :: BG
abbrev wsX2_goRound : List Cond := Cond.code yX2_goRound cX2_goRound 6 (some .boolean) :: BG
abbrev wsX2_isMet : List Cond := Cond.code yX2_isMet cX2_isMet 4 (some .boolean) :: BG
abbrev wsX2_leastMeeting : List Cond := Cond.code yX2_leastMeeting cX2_leastMeeting 11 (some .int) :: BG
abbrev wsX2_isServed : List Cond := Cond.code yX2_isServed cX2_isServed 4 (some .boolean) :: BG
abbrev wsX2_leads : List Cond := Cond.code yX2_leads cX2_leads 6 (some .boolean) :: BG
abbrev wsX2_leastWhere : List Cond := Cond.code yX2_leastWhere cX2_leastWhere 6 (some .int) :: BG
abbrev wsX2_rulesThatForbid : List Cond := Cond.code yX2_rulesThatForbid cX2_rulesThatForbid 5 (some .int) :: BG
abbrev wsX2_implies : List Cond := Cond.code yX2_implies cX2_implies 4 (some .boolean) :: BG
abbrev wsX2_agree : List Cond := Cond.code yX2_agree cX2_agree 3 (some .boolean) :: BG
abbrev wsX2_isAt : List Cond := Cond.code yX2_isAt cX2_isAt 3 (some .boolean) :: BG
abbrev wsX2_isType : List Cond := Cond.code yX2_isType cX2_isType 2 (some .boolean) :: BG
abbrev wsX2_rankOf : List Cond := Cond.code yX2_rankOf cX2_rankOf 2 (some .int) :: BG
abbrev wsX2_sizeOf : List Cond := Cond.code yX2_sizeOf cX2_sizeOf 8 (some .int) :: BG
abbrev wsX2_has : List Cond := Cond.code yX2_has cX2_has 3 (some .boolean) :: BG
abbrev wsX2_put : List Cond := Cond.code yX2_put cX2_put 6 none :: BG
abbrev wsX2_lowestBit : List Cond := Cond.code yX2_lowestBit cX2_lowestBit 2 (some .int) :: BG
abbrev wsX3_init : List Cond := Cond.code yX3_init cX3_init 2 none :: BG
abbrev wsX3_printBook : List Cond := Cond.code yX3_printBook cX3_printBook 3 none :: BG
abbrev wsX3_printStatement : List Cond := Cond.code yX3_printStatement cX3_printStatement 5 none :: BG
abbrev wsX3_printConcept : List Cond := Cond.code yX3_printConcept cX3_printConcept 4 none :: BG
abbrev wsX3_printNode : List Cond := Cond.code yX3_printNode cX3_printNode 6 none :: BG
abbrev wsX3_awaitPart : List Cond := Cond.code yX3_awaitPart cX3_awaitPart 3 none :: BG
abbrev wsX3_await : List Cond := Cond.code yX3_await cX3_await 2 none :: BG
abbrev wsX3_putJoint : List Cond := Cond.code yX3_putJoint cX3_putJoint 3 none :: BG
abbrev wsX3_putBehind : List Cond := Cond.code yX3_putBehind cX3_putBehind 3 none :: BG
abbrev wsX3_putWord : List Cond := Cond.code yX3_putWord cX3_putWord 6 none :: BG
abbrev wsX4_init : List Cond := Cond.code yX4_init cX4_init 3 none :: BG
abbrev wsX4_takeIn : List Cond := Cond.code yX4_takeIn cX4_takeIn 4 (some .boolean) :: BG
abbrev wsX4_fail : List Cond := Cond.code yX4_fail cX4_fail 3 (some .int) :: BG
abbrev wsX4_failHere : List Cond := Cond.code yX4_failHere cX4_failHere 2 (some .int) :: BG
abbrev wsX4_misplaced : List Cond := Cond.code yX4_misplaced cX4_misplaced 1 (some .int) :: BG
abbrev wsX4_takeEnd : List Cond := Cond.code yX4_takeEnd cX4_takeEnd 1 (some .boolean) :: BG
abbrev wsX4_takeRule : List Cond := Cond.code yX4_takeRule cX4_takeRule 4 none :: BG
abbrev wsX4_takeQuestion : List Cond := Cond.code yX4_takeQuestion cX4_takeQuestion 2 none :: BG
abbrev wsX4_takeOrder : List Cond := Cond.code yX4_takeOrder cX4_takeOrder 4 none :: BG
abbrev wsX4_takeSingle : List Cond := Cond.code yX4_takeSingle cX4_takeSingle 3 none :: BG
abbrev wsX4_takeRole : List Cond := Cond.code yX4_takeRole cX4_takeRole 2 (some .int) :: BG
abbrev wsX4_takeConcept : List Cond := Cond.code yX4_takeConcept cX4_takeConcept 5 (some .int) :: BG
abbrev wsX4_takeAll : List Cond := Cond.code yX4_takeAll cX4_takeAll 5 (some .int) :: BG
abbrev wsX4_takeOne : List Cond := Cond.code yX4_takeOne cX4_takeOne 6 (some .int) :: BG
abbrev wsX4_takeBracketed : List Cond := Cond.code yX4_takeBracketed cX4_takeBracketed 3 (some .int) :: BG
abbrev wsX4_takeQuantified : List Cond := Cond.code yX4_takeQuantified cX4_takeQuantified 7 (some .int) :: BG
abbrev wsX4_takeName : List Cond := Cond.code yX4_takeName cX4_takeName 3 (some .int) :: BG
abbrev wsX4_countConcept : List Cond := Cond.code yX4_countConcept cX4_countConcept 1 (some .boolean) :: BG
abbrev wsX5_init : List Cond := Cond.code yX5_init cX5_init 2 none :: BG
abbrev wsX5_start : List Cond := Cond.code yX5_start cX5_start 2 none :: BG
abbrev wsX5_step : List Cond := Cond.code yX5_step cX5_step 1 none :: BG
abbrev wsX5_skipBlanks : List Cond := Cond.code yX5_skipBlanks cX5_skipBlanks 1 none :: BG
abbrev wsX5_takeRow : List Cond := Cond.code yX5_takeRow cX5_takeRow 2 none :: BG
abbrev wsX5_takeSign : List Cond := Cond.code yX5_takeSign cX5_takeSign 2 none :: BG
abbrev wsX5_isLetter : List Cond := Cond.code yX5_isLetter cX5_isLetter 1 (some .boolean) :: BG
abbrev wsX5_isDigit : List Cond := Cond.code yX5_isDigit cX5_isDigit 1 (some .boolean) :: BG
abbrev wsX5_isKeyword : List Cond := Cond.code yX5_isKeyword cX5_isKeyword 2 (some .boolean) :: BG
abbrev wsX5_beginsConcept : List Cond := Cond.code yX5_beginsConcept cX5_beginsConcept 1 (some .boolean) :: BG
abbrev wsX5_holdsConcept : List Cond := Cond.code yX5_holdsConcept cX5_holdsConcept 1 (some .boolean) :: BG
abbrev wsX6_init : List Cond := Cond.code yX6_init cX6_init 1 none :: BG
abbrev wsX6_clear : List Cond := Cond.code yX6_clear cX6_clear 2 none :: BG
abbrev wsX6_build : List Cond := Cond.code yX6_build cX6_build 5 none :: BG
abbrev wsX6_addEdges : List Cond := Cond.code yX6_addEdges cX6_addEdges 7 none :: BG
abbrev wsX6_thingFor : List Cond := Cond.code yX6_thingFor cX6_thingFor 2 (some .int) :: BG
abbrev wsX6_edgeAt : List Cond := Cond.code yX6_edgeAt cX6_edgeAt 2 (some .int) :: BG
abbrev wsX6_from : List Cond := Cond.code yX6_from cX6_from 2 (some .int) :: BG
abbrev wsX6_to : List Cond := Cond.code yX6_to cX6_to 2 (some .int) :: BG
abbrev wsX6_role : List Cond := Cond.code yX6_role cX6_role 2 (some .int) :: BG
abbrev wsX7_init : List Cond := Cond.code yX7_init cX7_init 1 none :: BG
abbrev wsX7_feed : List Cond := Cond.code yX7_feed cX7_feed 6 (some .int) :: BG
abbrev wsX7_feedOne : List Cond := Cond.code yX7_feedOne cX7_feedOne 3 none :: BG
abbrev wsX7_cut : List Cond := Cond.code yX7_cut cX7_cut 3 (some .int) :: BG
abbrev wsX7_read : List Cond := Cond.code yX7_read cX7_read 3 (some .int) :: BG
abbrev wsX7_place : List Cond := Cond.code yX7_place cX7_place 1 (some .int) :: BG
abbrev wsX7_count : List Cond := Cond.code yX7_count cX7_count 2 (some .int) :: BG
abbrev wsX7_atom : List Cond := Cond.code yX7_atom cX7_atom 3 (some .int) :: BG
abbrev wsX7_rank : List Cond := Cond.code yX7_rank cX7_rank 2 (some .int) :: BG
abbrev wsX7_goes : List Cond := Cond.code yX7_goes cX7_goes 4 (some .int) :: BG
abbrev wsX7_at : List Cond := Cond.code yX7_at cX7_at 3 (some .int) :: BG
abbrev wsX7_ask : List Cond := Cond.code yX7_ask cX7_ask 2 (some .int) :: BG
abbrev wsX7_isUnder : List Cond := Cond.code yX7_isUnder cX7_isUnder 3 (some .int) :: BG
abbrev wsX7_next : List Cond := Cond.code yX7_next cX7_next 5 (some .int) :: BG
abbrev wsX7_world : List Cond := Cond.code yX7_world cX7_world 2 (some .int) :: BG
abbrev wsX7_thing : List Cond := Cond.code yX7_thing cX7_thing 2 (some .int) :: BG
abbrev wsX7_edge : List Cond := Cond.code yX7_edge cX7_edge 3 (some .int) :: BG
abbrev wsX7_bones : List Cond := Cond.code yX7_bones cX7_bones 2 (some .int) :: BG
abbrev wsX7_same : List Cond := Cond.code yX7_same cX7_same 3 (some .int) :: BG
abbrev wsX7_print : List Cond := Cond.code yX7_print cX7_print 1 (some .int) :: BG
abbrev wsX7_out : List Cond := Cond.code yX7_out cX7_out 2 (some .int) :: BG
abbrev wsX7_back : List Cond := Cond.code yX7_back cX7_back 1 (some .int) :: BG
abbrev wsX7_oneIf : List Cond := Cond.code yX7_oneIf cX7_oneIf 1 (some .int) :: BG
abbrev wsX7_isQuestion : List Cond := Cond.code yX7_isQuestion cX7_isQuestion 2 (some .boolean) :: BG
abbrev wsX7_isName : List Cond := Cond.code yX7_isName cX7_isName 2 (some .boolean) :: BG
abbrev wsX7_standsUnder : List Cond := Cond.code yX7_standsUnder cX7_standsUnder 3 (some .boolean) :: BG
abbrev wsX7_isStrictlyUnder : List Cond := Cond.code yX7_isStrictlyUnder cX7_isStrictlyUnder 3 (some .boolean) :: BG
abbrev wsX7_isNextAbove : List Cond := Cond.code yX7_isNextAbove cX7_isNextAbove 4 (some .boolean) :: BG
abbrev wsX8_init : List Cond := Cond.code yX8_init cX8_init 1 none :: BG
abbrev wsX8_in : List Cond := Cond.code yX8_in cX8_in 6 (some .boolean) :: BG
abbrev wsX8_four : List Cond := Cond.code yX8_four cX8_four 3 none :: BG
abbrev wsX8_feed : List Cond := Cond.code yX8_feed cX8_feed 6 (some .int) :: BG
abbrev wsX8_cut : List Cond := Cond.code yX8_cut cX8_cut 3 (some .int) :: BG
abbrev wsX8_isLetter : List Cond := Cond.code yX8_isLetter cX8_isLetter 1 (some .boolean) :: BG
abbrev wsX8_isFigure : List Cond := Cond.code yX8_isFigure cX8_isFigure 1 (some .boolean) :: BG
abbrev wsX8_next : List Cond := Cond.code yX8_next cX8_next 2 none :: BG
abbrev wsX8_kept : List Cond := Cond.code yX8_kept cX8_kept 6 (some .int) :: BG
abbrev wsX8_isSignHere : List Cond := Cond.code yX8_isSignHere cX8_isSignHere 2 (some .boolean) :: BG
abbrev wsX8_wrong : List Cond := Cond.code yX8_wrong cX8_wrong 3 none :: BG
abbrev wsX8_fine : List Cond := Cond.code yX8_fine cX8_fine 1 (some .boolean) :: BG
abbrev wsX8_misplaced : List Cond := Cond.code yX8_misplaced cX8_misplaced 1 none :: BG
abbrev wsX8_take : List Cond := Cond.code yX8_take cX8_take 2 none :: BG
abbrev wsX8_newNode : List Cond := Cond.code yX8_newNode cX8_newNode 3 (some .int) :: BG
abbrev wsX8_isHere : List Cond := Cond.code yX8_isHere cX8_isHere 6 (some .boolean) :: BG
abbrev wsX8_nameHere : List Cond := Cond.code yX8_nameHere cX8_nameHere 2 (some .int) :: BG
abbrev wsX8_roleHere : List Cond := Cond.code yX8_roleHere cX8_roleHere 2 (some .int) :: BG
abbrev wsX8_readRole : List Cond := Cond.code yX8_readRole cX8_readRole 3 (some .int) :: BG
abbrev wsX8_readName : List Cond := Cond.code yX8_readName cX8_readName 4 none :: BG
abbrev wsX8_newAtom : List Cond := Cond.code yX8_newAtom cX8_newAtom 6 none :: BG
abbrev wsX8_areLike : List Cond := Cond.code yX8_areLike cX8_areLike 8 (some .boolean) :: BG
abbrev wsX8_findAtom : List Cond := Cond.code yX8_findAtom cX8_findAtom 5 none :: BG
abbrev wsX8_ended : List Cond := Cond.code yX8_ended cX8_ended 2 none :: BG
abbrev wsX8_wait : List Cond := Cond.code yX8_wait cX8_wait 3 none :: BG
abbrev wsX8_stand : List Cond := Cond.code yX8_stand cX8_stand 3 none :: BG
abbrev wsX8_close : List Cond := Cond.code yX8_close cX8_close 3 none :: BG
abbrev wsX8_goesDeeper : List Cond := Cond.code yX8_goesDeeper cX8_goesDeeper 1 (some .boolean) :: BG
abbrev wsX8_readOne : List Cond := Cond.code yX8_readOne cX8_readOne 3 none :: BG
abbrev wsX8_readBehind : List Cond := Cond.code yX8_readBehind cX8_readBehind 3 (some .boolean) :: BG
abbrev wsX8_readConcept : List Cond := Cond.code yX8_readConcept cX8_readConcept 2 (some .int) :: BG
abbrev wsX8_say : List Cond := Cond.code yX8_say cX8_say 5 none :: BG
abbrev wsX8_reaches : List Cond := Cond.code yX8_reaches cX8_reaches 5 (some .boolean) :: BG
abbrev wsX8_readUnder : List Cond := Cond.code yX8_readUnder cX8_readUnder 3 none :: BG
abbrev wsX8_readSingle : List Cond := Cond.code yX8_readSingle cX8_readSingle 2 none :: BG
abbrev wsX8_readAsk : List Cond := Cond.code yX8_readAsk cX8_readAsk 2 none :: BG
abbrev wsX8_readRule : List Cond := Cond.code yX8_readRule cX8_readRule 5 none :: BG
abbrev wsX8_read : List Cond := Cond.code yX8_read cX8_read 2 (some .int) :: BG
abbrev wsX8_place : List Cond := Cond.code yX8_place cX8_place 1 (some .int) :: BG
abbrev wsX8_moved : List Cond := Cond.code yX8_moved cX8_moved 1 (some .int) :: BG
abbrev wsX8_become : List Cond := Cond.code yX8_become cX8_become 3 none :: BG
abbrev wsX8_types : List Cond := Cond.code yX8_types cX8_types 1 (some .int) :: BG
abbrev wsX8_findTruths : List Cond := Cond.code yX8_findTruths cX8_findTruths 5 none :: BG
abbrev wsX8_isBelow : List Cond := Cond.code yX8_isBelow cX8_isBelow 5 (some .boolean) :: BG
abbrev wsX8_goesTo : List Cond := Cond.code yX8_goesTo cX8_goesTo 4 (some .boolean) :: BG
abbrev wsX8_isFair : List Cond := Cond.code yX8_isFair cX8_isFair 8 (some .boolean) :: BG
abbrev wsX8_leastTo : List Cond := Cond.code yX8_leastTo cX8_leastTo 6 (some .int) :: BG
abbrev wsX8_isMet : List Cond := Cond.code yX8_isMet cX8_isMet 7 (some .boolean) :: BG
abbrev wsX8_sift : List Cond := Cond.code yX8_sift cX8_sift 7 none :: BG
abbrev wsX8_workOut : List Cond := Cond.code yX8_workOut cX8_workOut 1 none :: BG
abbrev wsX8_standing : List Cond := Cond.code yX8_standing cX8_standing 3 (some .int) :: BG
abbrev wsX8_count : List Cond := Cond.code yX8_count cX8_count 2 (some .int) :: BG
abbrev wsX8_atom : List Cond := Cond.code yX8_atom cX8_atom 3 (some .int) :: BG
abbrev wsX8_noType : List Cond := Cond.code yX8_noType cX8_noType 2 (some .boolean) :: BG
abbrev wsX8_noQuestion : List Cond := Cond.code yX8_noQuestion cX8_noQuestion 2 (some .boolean) :: BG
abbrev wsX8_noName : List Cond := Cond.code yX8_noName cX8_noName 2 (some .boolean) :: BG
abbrev wsX8_rank : List Cond := Cond.code yX8_rank cX8_rank 2 (some .int) :: BG
abbrev wsX8_goes : List Cond := Cond.code yX8_goes cX8_goes 4 (some .int) :: BG
abbrev wsX8_isAt : List Cond := Cond.code yX8_isAt cX8_isAt 3 (some .boolean) :: BG
abbrev wsX8_at : List Cond := Cond.code yX8_at cX8_at 3 (some .int) :: BG
abbrev wsX8_leastOf : List Cond := Cond.code yX8_leastOf cX8_leastOf 3 (some .int) :: BG
abbrev wsX8_ask : List Cond := Cond.code yX8_ask cX8_ask 2 (some .int) :: BG
abbrev wsX8_atomOfName : List Cond := Cond.code yX8_atomOfName cX8_atomOfName 3 (some .int) :: BG
abbrev wsX8_lies : List Cond := Cond.code yX8_lies cX8_lies 7 (some .boolean) :: BG
abbrev wsX8_isUnder : List Cond := Cond.code yX8_isUnder cX8_isUnder 3 (some .int) :: BG
abbrev wsX8_isAbove : List Cond := Cond.code yX8_isAbove cX8_isAbove 3 (some .boolean) :: BG
abbrev wsX8_next_ : List Cond := Cond.code yX8_next_ cX8_next_ 7 (some .int) :: BG
abbrev wsX8_thingOf : List Cond := Cond.code yX8_thingOf cX8_thingOf 3 (some .int) :: BG
abbrev wsX8_addEdge : List Cond := Cond.code yX8_addEdge cX8_addEdge 5 none :: BG
abbrev wsX8_world : List Cond := Cond.code yX8_world cX8_world 7 (some .int) :: BG
abbrev wsX8_thing : List Cond := Cond.code yX8_thing cX8_thing 2 (some .int) :: BG
abbrev wsX8_edge : List Cond := Cond.code yX8_edge cX8_edge 3 (some .int) :: BG
abbrev wsX8_bones : List Cond := Cond.code yX8_bones cX8_bones 4 (some .int) :: BG
abbrev wsX8_same : List Cond := Cond.code yX8_same cX8_same 5 (some .int) :: BG
abbrev wsX8_put : List Cond := Cond.code yX8_put cX8_put 2 none :: BG
abbrev wsX8_later : List Cond := Cond.code yX8_later cX8_later 4 none :: BG
abbrev wsX8_putWord : List Cond := Cond.code yX8_putWord cX8_putWord 4 none :: BG
abbrev wsX8_putRole : List Cond := Cond.code yX8_putRole cX8_putRole 3 none :: BG
abbrev wsX8_putName : List Cond := Cond.code yX8_putName cX8_putName 3 none :: BG
abbrev wsX8_putOne : List Cond := Cond.code yX8_putOne cX8_putOne 5 none :: BG
abbrev wsX8_putConcept : List Cond := Cond.code yX8_putConcept cX8_putConcept 2 none :: BG
abbrev wsX8_print : List Cond := Cond.code yX8_print cX8_print 2 (some .int) :: BG
abbrev wsX8_out : List Cond := Cond.code yX8_out cX8_out 2 (some .int) :: BG
abbrev wsX8_back : List Cond := Cond.code yX8_back cX8_back 3 (some .int) :: BG
abbrev wsJ13_bitCount_95d88 : List Cond := Cond.code yJ13_bitCount_95d88 cJ13_bitCount_95d88 2 (some .int) :: BG
