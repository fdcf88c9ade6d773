def R_law : String := "RayRoomLaw"
def gG : List Cond := lw_tbl.filter goodWord
theorem gG_good : ∀ w ∈ gG, (w.onTables && w.keeps) = true ∨ ∃ ty, w = .arrayClass ty := fun w h => good_of_word (List.mem_filter.mp h).2
theorem gG_of {w : Cond} (h : w ∈ tables_1) (g : goodWord w = true) : w ∈ gG := List.mem_filter.mpr ⟨List.mem_append_right _ h, g⟩
theorem gG_sel {w : Cond} (h : w ∈ k2_sels lw_privs) (g : goodWord w = true) : w ∈ gG := List.mem_filter.mpr ⟨List.mem_append_left _ h, g⟩
theorem gG_t1 {w : Cond} (h : w ∈ tables_1_1) (g : goodWord w = true) : w ∈ gG := gG_of (List.mem_append_left _ h) g
theorem gG_t2 {w : Cond} (h : w ∈ tables_1_2) (g : goodWord w = true) : w ∈ gG := gG_of (List.mem_append_right _ (List.mem_append_left _ h)) g
theorem gG_t3 {w : Cond} (h : w ∈ tables_1_3) (g : goodWord w = true) : w ∈ gG := gG_of (List.mem_append_right _ (List.mem_append_right _ (List.mem_append_left _ h))) g
theorem gG_t4 {w : Cond} (h : w ∈ tables_1_4) (g : goodWord w = true) : w ∈ gG := gG_of (List.mem_append_right _ (List.mem_append_right _ (List.mem_append_right _ (List.mem_append_left _ h)))) g
theorem gG_t5 {w : Cond} (h : w ∈ tables_1_5) (g : goodWord w = true) : w ∈ gG := gG_of (List.mem_append_right _ (List.mem_append_right _ (List.mem_append_right _ (List.mem_append_right _ (List.mem_append_left _ h))))) g
theorem gG_t6 {w : Cond} (h : w ∈ tables_1_6) (g : goodWord w = true) : w ∈ gG := gG_of (List.mem_append_right _ (List.mem_append_right _ (List.mem_append_right _ (List.mem_append_right _ (List.mem_append_right _ (h)))))) g
theorem mw_1_0 : (.initialized R_law : Cond) ∈ gG := gG_t1 (List.mem_of_getElem? (i := 0) rfl) rfl
theorem mw_1_1 : (.initialized RX11 : Cond) ∈ gG := gG_t1 (List.mem_of_getElem? (i := 1) rfl) rfl
theorem mw_1_2 : (.initialized RX6 : Cond) ∈ gG := gG_t1 (List.mem_of_getElem? (i := 2) rfl) rfl
theorem mw_1_3 : (.initialized RX5 : Cond) ∈ gG := gG_t1 (List.mem_of_getElem? (i := 3) rfl) rfl
theorem mw_1_4 : (.initialized RX1 : Cond) ∈ gG := gG_t1 (List.mem_of_getElem? (i := 4) rfl) rfl
theorem mw_1_5 : (.initialized RX4 : Cond) ∈ gG := gG_t1 (List.mem_of_getElem? (i := 5) rfl) rfl
theorem mw_1_6 : (.initialized RX9 : Cond) ∈ gG := gG_t1 (List.mem_of_getElem? (i := 6) rfl) rfl
theorem mw_1_7 : (.initialized RX2 : Cond) ∈ gG := gG_t1 (List.mem_of_getElem? (i := 7) rfl) rfl
theorem mw_1_8 : (.initialized RX3 : Cond) ∈ gG := gG_t1 (List.mem_of_getElem? (i := 8) rfl) rfl
theorem mw_1_9 : (.initialized RX7 : Cond) ∈ gG := gG_t1 (List.mem_of_getElem? (i := 9) rfl) rfl
theorem mw_1_10 : (.initialized RX8 : Cond) ∈ gG := gG_t1 (List.mem_of_getElem? (i := 10) rfl) rfl
theorem mw_1_11 : (.initialized RX10 : Cond) ∈ gG := gG_t1 (List.mem_of_getElem? (i := 11) rfl) rfl
theorem mw_1_12 : (.initialized RX0 : Cond) ∈ gG := gG_t1 (List.mem_of_getElem? (i := 12) rfl) rfl
theorem mw_1_13 : (.initialized RX12 : Cond) ∈ gG := gG_t1 (List.mem_of_getElem? (i := 13) rfl) rfl
theorem mw_1_14 : (.initialized "java/lang/System" : Cond) ∈ gG := gG_t1 (List.mem_of_getElem? (i := 14) rfl) rfl
theorem mw_1_15 : (.initialized "java/lang/Math" : Cond) ∈ gG := gG_t1 (List.mem_of_getElem? (i := 15) rfl) rfl
theorem mw_1_16 : (.classLink R_law 7 RX11 : Cond) ∈ gG := gG_t1 (List.mem_of_getElem? (i := 16) rfl) rfl
theorem mw_1_17 : (.instantiable RX11 14 : Cond) ∈ gG := gG_t1 (List.mem_of_getElem? (i := 17) rfl) rfl
theorem mw_1_18 : (.methodLink R_law 9 yX11_init : Cond) ∈ gG := gG_t1 (List.mem_of_getElem? (i := 18) rfl) rfl
theorem mw_1_19 : (.instanceMethod yX11_init : Cond) ∈ gG := gG_t1 (List.mem_of_getElem? (i := 19) rfl) rfl
theorem mw_1_20 : (.code yX11_init cX11_init 1 (none) : Cond) ∈ gG := gG_t1 (List.mem_of_getElem? (i := 20) rfl) rfl
theorem mw_1_21 : (.methodLink RX11 3 objectInit : Cond) ∈ gG := gG_t1 (List.mem_of_getElem? (i := 21) rfl) rfl
theorem mw_1_22 : (.instanceMethod objectInit : Cond) ∈ gG := gG_t1 (List.mem_of_getElem? (i := 22) rfl) rfl
theorem mw_1_23 : (.code objectInit ⟨#[0xb1]⟩ 1 (none) : Cond) ∈ gG := gG_t1 (List.mem_of_getElem? (i := 23) rfl) rfl
theorem mw_1_24 : (.classLink RX11 9 RX6 : Cond) ∈ gG := gG_t1 (List.mem_of_getElem? (i := 24) rfl) rfl
theorem mw_1_25 : (.instantiable RX6 2 : Cond) ∈ gG := gG_t1 (List.mem_of_getElem? (i := 25) rfl) rfl
theorem mw_1_27 : (.instanceMethod yX6_init : Cond) ∈ gG := gG_t1 (List.mem_of_getElem? (i := 27) rfl) rfl
theorem mw_1_28 : (.code yX6_init cX6_init 1 (none) : Cond) ∈ gG := gG_t1 (List.mem_of_getElem? (i := 28) rfl) rfl
theorem mw_1_29 : (.methodLink RX6 1 objectInit : Cond) ∈ gG := gG_t1 (List.mem_of_getElem? (i := 29) rfl) rfl
theorem mw_1_30 : (.fieldLink RX6 7 "RayRoom$Points" "coordinates" "[I" : Cond) ∈ gG := gG_t1 (List.mem_of_getElem? (i := 30) rfl) rfl
theorem mw_1_31 : (.fieldLink RX6 13 "RayRoom$Points" "many" "I" : Cond) ∈ gG := gG_t1 (List.mem_of_getElem? (i := 31) rfl) rfl
theorem mw_1_32 : (.laysFinal RX6 "RayRoom$Points" "coordinates" "[I" : Cond) ∈ gG := gG_t1 (List.mem_of_getElem? (i := 32) rfl) rfl
theorem mw_1_34 : (.lays RX6 "RayRoom$Points" "many" "I" : Cond) ∈ gG := gG_t1 (List.mem_of_getElem? (i := 34) rfl) rfl
theorem mw_1_37 : (.arrayClass .int : Cond) ∈ gG := gG_t1 (List.mem_of_getElem? (i := 37) rfl) rfl
theorem mw_1_38 : (.classLink RX11 16 RX5 : Cond) ∈ gG := gG_t1 (List.mem_of_getElem? (i := 38) rfl) rfl
theorem mw_1_39 : (.instantiable RX5 6 : Cond) ∈ gG := gG_t1 (List.mem_of_getElem? (i := 39) rfl) rfl
theorem mw_1_41 : (.instanceMethod yX5_init : Cond) ∈ gG := gG_t1 (List.mem_of_getElem? (i := 41) rfl) rfl
theorem mw_1_42 : (.code yX5_init cX5_init 1 (none) : Cond) ∈ gG := gG_t1 (List.mem_of_getElem? (i := 42) rfl) rfl
theorem mw_1_43 : (.methodLink RX5 3 objectInit : Cond) ∈ gG := gG_t1 (List.mem_of_getElem? (i := 43) rfl) rfl
theorem mw_1_44 : (.fieldLink RX5 9 "RayRoom$Mesh" "corners" "[I" : Cond) ∈ gG := gG_t1 (List.mem_of_getElem? (i := 44) rfl) rfl
theorem mw_1_45 : (.fieldLink RX5 15 "RayRoom$Mesh" "normals" "[I" : Cond) ∈ gG := gG_t1 (List.mem_of_getElem? (i := 45) rfl) rfl
theorem mw_1_46 : (.fieldLink RX5 18 "RayRoom$Mesh" "tones" "[I" : Cond) ∈ gG := gG_t1 (List.mem_of_getElem? (i := 46) rfl) rfl
theorem mw_1_47 : (.fieldLink RX5 21 "RayRoom$Mesh" "trial" "[I" : Cond) ∈ gG := gG_t1 (List.mem_of_getElem? (i := 47) rfl) rfl
theorem mw_1_48 : (.fieldLink RX5 24 "RayRoom$Mesh" "trialNormal" "[I" : Cond) ∈ gG := gG_t1 (List.mem_of_getElem? (i := 48) rfl) rfl
theorem mw_1_49 : (.fieldLink RX5 27 "RayRoom$Mesh" "many" "I" : Cond) ∈ gG := gG_t1 (List.mem_of_getElem? (i := 49) rfl) rfl
theorem mw_1_50 : (.laysFinal RX5 "RayRoom$Mesh" "corners" "[I" : Cond) ∈ gG := gG_t1 (List.mem_of_getElem? (i := 50) rfl) rfl
theorem mw_1_52 : (.laysFinal RX5 "RayRoom$Mesh" "normals" "[I" : Cond) ∈ gG := gG_t1 (List.mem_of_getElem? (i := 52) rfl) rfl
theorem mw_1_54 : (.laysFinal RX5 "RayRoom$Mesh" "tones" "[I" : Cond) ∈ gG := gG_t1 (List.mem_of_getElem? (i := 54) rfl) rfl
theorem mw_1_56 : (.laysFinal RX5 "RayRoom$Mesh" "trial" "[I" : Cond) ∈ gG := gG_t1 (List.mem_of_getElem? (i := 56) rfl) rfl
theorem mw_1_58 : (.laysFinal RX5 "RayRoom$Mesh" "trialNormal" "[I" : Cond) ∈ gG := gG_t1 (List.mem_of_getElem? (i := 58) rfl) rfl
theorem mw_1_60 : (.lays RX5 "RayRoom$Mesh" "many" "I" : Cond) ∈ gG := gG_t1 (List.mem_of_getElem? (i := 60) rfl) rfl
theorem mw_1_63 : (.classLink RX11 23 RX1 : Cond) ∈ gG := gG_t1 (List.mem_of_getElem? (i := 63) rfl) rfl
theorem mw_1_64 : (.instantiable RX1 5 : Cond) ∈ gG := gG_t1 (List.mem_of_getElem? (i := 64) rfl) rfl
theorem mw_1_66 : (.instanceMethod yX1_init : Cond) ∈ gG := gG_t1 (List.mem_of_getElem? (i := 66) rfl) rfl
theorem mw_1_67 : (.code yX1_init cX1_init 1 (none) : Cond) ∈ gG := gG_t1 (List.mem_of_getElem? (i := 67) rfl) rfl
theorem mw_1_68 : (.methodLink RX1 1 objectInit : Cond) ∈ gG := gG_t1 (List.mem_of_getElem? (i := 68) rfl) rfl
theorem mw_1_69 : (.fieldLink RX1 7 "RayRoom$Camera" "eye" "[I" : Cond) ∈ gG := gG_t1 (List.mem_of_getElem? (i := 69) rfl) rfl
theorem mw_1_71 : (.fieldLink RX1 13 "RayRoom$Camera" "axes" "[I" : Cond) ∈ gG := gG_t1 (List.mem_of_getElem? (i := 71) rfl) rfl
theorem mw_1_72 : (.fieldLink RX1 16 "RayRoom$Camera" "trial" "[I" : Cond) ∈ gG := gG_t1 (List.mem_of_getElem? (i := 72) rfl) rfl
theorem mw_1_73 : (.fieldLink RX1 19 "RayRoom$Camera" "w" "I" : Cond) ∈ gG := gG_t1 (List.mem_of_getElem? (i := 73) rfl) rfl
theorem mw_1_75 : (.fieldLink RX1 23 "RayRoom$Camera" "h" "I" : Cond) ∈ gG := gG_t1 (List.mem_of_getElem? (i := 75) rfl) rfl
theorem mw_1_77 : (.laysFinal RX1 "RayRoom$Camera" "eye" "[I" : Cond) ∈ gG := gG_t1 (List.mem_of_getElem? (i := 77) rfl) rfl
theorem mw_1_79 : (.laysFinal RX1 "RayRoom$Camera" "axes" "[I" : Cond) ∈ gG := gG_t1 (List.mem_of_getElem? (i := 79) rfl) rfl
theorem mw_1_81 : (.laysFinal RX1 "RayRoom$Camera" "trial" "[I" : Cond) ∈ gG := gG_t1 (List.mem_of_getElem? (i := 81) rfl) rfl
theorem mw_1_83 : (.lays RX1 "RayRoom$Camera" "w" "I" : Cond) ∈ gG := gG_t1 (List.mem_of_getElem? (i := 83) rfl) rfl
theorem mw_1_85 : (.lays RX1 "RayRoom$Camera" "h" "I" : Cond) ∈ gG := gG_t1 (List.mem_of_getElem? (i := 85) rfl) rfl
theorem mw_1_88 : (.classLink RX11 30 RX4 : Cond) ∈ gG := gG_t1 (List.mem_of_getElem? (i := 88) rfl) rfl
theorem mw_1_89 : (.instantiable RX4 4 : Cond) ∈ gG := gG_t1 (List.mem_of_getElem? (i := 89) rfl) rfl
theorem mw_1_90 : (.methodLink RX11 32 yX4_init : Cond) ∈ gG := gG_t1 (List.mem_of_getElem? (i := 90) rfl) rfl
theorem mw_1_91 : (.instanceMethod yX4_init : Cond) ∈ gG := gG_t1 (List.mem_of_getElem? (i := 91) rfl) rfl
theorem mw_1_92 : (.code yX4_init cX4_init 2 (none) : Cond) ∈ gG := gG_t1 (List.mem_of_getElem? (i := 92) rfl) rfl
theorem mw_1_93 : (.methodLink RX4 3 objectInit : Cond) ∈ gG := gG_t1 (List.mem_of_getElem? (i := 93) rfl) rfl
theorem mw_1_94 : (.fieldLink RX4 9 "RayRoom$Lamps" "places" "[I" : Cond) ∈ gG := gG_t1 (List.mem_of_getElem? (i := 94) rfl) rfl
theorem mw_1_95 : (.fieldLink RX4 15 "RayRoom$Lamps" "strengths" "[I" : Cond) ∈ gG := gG_t1 (List.mem_of_getElem? (i := 95) rfl) rfl
theorem mw_1_96 : (.fieldLink RX4 18 "RayRoom$Lamps" "values" "[I" : Cond) ∈ gG := gG_t1 (List.mem_of_getElem? (i := 96) rfl) rfl
theorem mw_1_97 : (.fieldLink RX4 21 "RayRoom$Lamps" "ambient" "I" : Cond) ∈ gG := gG_t1 (List.mem_of_getElem? (i := 97) rfl) rfl
theorem mw_1_98 : (.laysFinal RX4 "RayRoom$Lamps" "places" "[I" : Cond) ∈ gG := gG_t1 (List.mem_of_getElem? (i := 98) rfl) rfl
theorem mw_1_100 : (.laysFinal RX4 "RayRoom$Lamps" "strengths" "[I" : Cond) ∈ gG := gG_t1 (List.mem_of_getElem? (i := 100) rfl) rfl
theorem mw_1_102 : (.laysFinal RX4 "RayRoom$Lamps" "values" "[I" : Cond) ∈ gG := gG_t1 (List.mem_of_getElem? (i := 102) rfl) rfl
theorem mw_1_104 : (.lays RX4 "RayRoom$Lamps" "ambient" "I" : Cond) ∈ gG := gG_t1 (List.mem_of_getElem? (i := 104) rfl) rfl
theorem mw_1_107 : (.classLink RX11 37 RX9 : Cond) ∈ gG := gG_t1 (List.mem_of_getElem? (i := 107) rfl) rfl
theorem mw_1_108 : (.instantiable RX9 10 : Cond) ∈ gG := gG_t1 (List.mem_of_getElem? (i := 108) rfl) rfl
theorem mw_1_110 : (.instanceMethod yX9_init : Cond) ∈ gG := gG_t1 (List.mem_of_getElem? (i := 110) rfl) rfl
theorem mw_1_111 : (.code yX9_init cX9_init 1 (none) : Cond) ∈ gG := gG_t1 (List.mem_of_getElem? (i := 111) rfl) rfl
theorem mw_1_112 : (.methodLink RX9 3 objectInit : Cond) ∈ gG := gG_t1 (List.mem_of_getElem? (i := 112) rfl) rfl
theorem mw_1_113 : (.fieldLink RX9 9 "RayRoom$Tree" "order" "[I" : Cond) ∈ gG := gG_t1 (List.mem_of_getElem? (i := 113) rfl) rfl
theorem mw_1_114 : (.fieldLink RX9 15 "RayRoom$Tree" "first" "[I" : Cond) ∈ gG := gG_t1 (List.mem_of_getElem? (i := 114) rfl) rfl
theorem mw_1_115 : (.fieldLink RX9 18 "RayRoom$Tree" "many" "[I" : Cond) ∈ gG := gG_t1 (List.mem_of_getElem? (i := 115) rfl) rfl
theorem mw_1_116 : (.fieldLink RX9 21 "RayRoom$Tree" "lower" "[I" : Cond) ∈ gG := gG_t1 (List.mem_of_getElem? (i := 116) rfl) rfl
theorem mw_1_117 : (.fieldLink RX9 24 "RayRoom$Tree" "upper" "[I" : Cond) ∈ gG := gG_t1 (List.mem_of_getElem? (i := 117) rfl) rfl
theorem mw_1_118 : (.fieldLink RX9 27 "RayRoom$Tree" "above" "[I" : Cond) ∈ gG := gG_t1 (List.mem_of_getElem? (i := 118) rfl) rfl
theorem mw_1_119 : (.fieldLink RX9 30 "RayRoom$Tree" "bounds" "[I" : Cond) ∈ gG := gG_t1 (List.mem_of_getElem? (i := 119) rfl) rfl
theorem mw_1_120 : (.fieldLink RX9 33 "RayRoom$Tree" "met" "[Z" : Cond) ∈ gG := gG_t1 (List.mem_of_getElem? (i := 120) rfl) rfl
theorem mw_1_121 : (.fieldLink RX9 37 "RayRoom$Tree" "nodes" "I" : Cond) ∈ gG := gG_t1 (List.mem_of_getElem? (i := 121) rfl) rfl
theorem mw_1_122 : (.fieldLink RX9 41 "RayRoom$Tree" "deepest" "I" : Cond) ∈ gG := gG_t1 (List.mem_of_getElem? (i := 122) rfl) rfl
theorem mw_1_123 : (.laysFinal RX9 "RayRoom$Tree" "order" "[I" : Cond) ∈ gG := gG_t1 (List.mem_of_getElem? (i := 123) rfl) rfl
theorem mw_1_125 : (.laysFinal RX9 "RayRoom$Tree" "first" "[I" : Cond) ∈ gG := gG_t1 (List.mem_of_getElem? (i := 125) rfl) rfl
theorem mw_1_127 : (.laysFinal RX9 "RayRoom$Tree" "many" "[I" : Cond) ∈ gG := gG_t1 (List.mem_of_getElem? (i := 127) rfl) rfl
theorem mw_1_129 : (.laysFinal RX9 "RayRoom$Tree" "lower" "[I" : Cond) ∈ gG := gG_t1 (List.mem_of_getElem? (i := 129) rfl) rfl
theorem mw_1_131 : (.laysFinal RX9 "RayRoom$Tree" "upper" "[I" : Cond) ∈ gG := gG_t1 (List.mem_of_getElem? (i := 131) rfl) rfl
theorem mw_1_133 : (.laysFinal RX9 "RayRoom$Tree" "above" "[I" : Cond) ∈ gG := gG_t1 (List.mem_of_getElem? (i := 133) rfl) rfl
theorem mw_1_135 : (.laysFinal RX9 "RayRoom$Tree" "bounds" "[I" : Cond) ∈ gG := gG_t1 (List.mem_of_getElem? (i := 135) rfl) rfl
theorem mw_1_137 : (.laysFinal RX9 "RayRoom$Tree" "met" "[Z" : Cond) ∈ gG := gG_t1 (List.mem_of_getElem? (i := 137) rfl) rfl
theorem mw_1_139 : (.lays RX9 "RayRoom$Tree" "nodes" "I" : Cond) ∈ gG := gG_t1 (List.mem_of_getElem? (i := 139) rfl) rfl
theorem mw_1_141 : (.lays RX9 "RayRoom$Tree" "deepest" "I" : Cond) ∈ gG := gG_t1 (List.mem_of_getElem? (i := 141) rfl) rfl
theorem mw_1_144 : (.arrayClass .boolean : Cond) ∈ gG := gG_t1 (List.mem_of_getElem? (i := 144) rfl) rfl
theorem mw_1_145 : (.classLink RX11 44 RX2 : Cond) ∈ gG := gG_t1 (List.mem_of_getElem? (i := 145) rfl) rfl
theorem mw_1_146 : (.instantiable RX2 4 : Cond) ∈ gG := gG_t1 (List.mem_of_getElem? (i := 146) rfl) rfl
theorem mw_1_148 : (.instanceMethod yX2_init : Cond) ∈ gG := gG_t1 (List.mem_of_getElem? (i := 148) rfl) rfl
theorem mw_1_149 : (.code yX2_init cX2_init 1 (none) : Cond) ∈ gG := gG_t1 (List.mem_of_getElem? (i := 149) rfl) rfl
theorem mw_1_150 : (.methodLink RX2 3 objectInit : Cond) ∈ gG := gG_t1 (List.mem_of_getElem? (i := 150) rfl) rfl
theorem mw_1_151 : (.fieldLink RX2 9 "RayRoom$Crossings" "triangles" "[I" : Cond) ∈ gG := gG_t1 (List.mem_of_getElem? (i := 151) rfl) rfl
theorem mw_1_152 : (.fieldLink RX2 15 "RayRoom$Crossings" "far" "[J" : Cond) ∈ gG := gG_t1 (List.mem_of_getElem? (i := 152) rfl) rfl
theorem mw_1_153 : (.fieldLink RX2 19 "RayRoom$Crossings" "over" "[J" : Cond) ∈ gG := gG_t1 (List.mem_of_getElem? (i := 153) rfl) rfl
theorem mw_1_154 : (.fieldLink RX2 22 "RayRoom$Crossings" "many" "I" : Cond) ∈ gG := gG_t1 (List.mem_of_getElem? (i := 154) rfl) rfl
theorem mw_1_155 : (.laysFinal RX2 "RayRoom$Crossings" "triangles" "[I" : Cond) ∈ gG := gG_t1 (List.mem_of_getElem? (i := 155) rfl) rfl
theorem mw_1_157 : (.laysFinal RX2 "RayRoom$Crossings" "far" "[J" : Cond) ∈ gG := gG_t1 (List.mem_of_getElem? (i := 157) rfl) rfl
theorem mw_1_159 : (.laysFinal RX2 "RayRoom$Crossings" "over" "[J" : Cond) ∈ gG := gG_t1 (List.mem_of_getElem? (i := 159) rfl) rfl
theorem mw_1_161 : (.lays RX2 "RayRoom$Crossings" "many" "I" : Cond) ∈ gG := gG_t1 (List.mem_of_getElem? (i := 161) rfl) rfl
theorem mw_1_164 : (.arrayClass .long : Cond) ∈ gG := gG_t1 (List.mem_of_getElem? (i := 164) rfl) rfl
theorem mw_1_165 : (.classLink RX11 51 RX3 : Cond) ∈ gG := gG_t1 (List.mem_of_getElem? (i := 165) rfl) rfl
theorem mw_1_166 : (.instantiable RX3 4 : Cond) ∈ gG := gG_t1 (List.mem_of_getElem? (i := 166) rfl) rfl
theorem mw_1_168 : (.instanceMethod yX3_init : Cond) ∈ gG := gG_t1 (List.mem_of_getElem? (i := 168) rfl) rfl
theorem mw_1_169 : (.code yX3_init cX3_init 1 (none) : Cond) ∈ gG := gG_t1 (List.mem_of_getElem? (i := 169) rfl) rfl
theorem mw_1_170 : (.methodLink RX3 3 objectInit : Cond) ∈ gG := gG_t1 (List.mem_of_getElem? (i := 170) rfl) rfl
theorem mw_1_171 : (.fieldLink RX3 9 "RayRoom$Hit" "time" "[J" : Cond) ∈ gG := gG_t1 (List.mem_of_getElem? (i := 171) rfl) rfl
theorem mw_1_172 : (.fieldLink RX3 15 "RayRoom$Hit" "place" "[J" : Cond) ∈ gG := gG_t1 (List.mem_of_getElem? (i := 172) rfl) rfl
theorem mw_1_174 : (.fieldLink RX3 18 "RayRoom$Hit" "weights" "[J" : Cond) ∈ gG := gG_t1 (List.mem_of_getElem? (i := 174) rfl) rfl
theorem mw_1_175 : (.fieldLink RX3 21 "RayRoom$Hit" "which" "I" : Cond) ∈ gG := gG_t1 (List.mem_of_getElem? (i := 175) rfl) rfl
theorem mw_1_177 : (.laysFinal RX3 "RayRoom$Hit" "time" "[J" : Cond) ∈ gG := gG_t1 (List.mem_of_getElem? (i := 177) rfl) rfl
theorem mw_1_179 : (.laysFinal RX3 "RayRoom$Hit" "place" "[J" : Cond) ∈ gG := gG_t1 (List.mem_of_getElem? (i := 179) rfl) rfl
theorem mw_1_181 : (.laysFinal RX3 "RayRoom$Hit" "weights" "[J" : Cond) ∈ gG := gG_t1 (List.mem_of_getElem? (i := 181) rfl) rfl
theorem mw_1_183 : (.lays RX3 "RayRoom$Hit" "which" "I" : Cond) ∈ gG := gG_t1 (List.mem_of_getElem? (i := 183) rfl) rfl
theorem mw_1_186 : (.classLink RX11 61 RX7 : Cond) ∈ gG := gG_t1 (List.mem_of_getElem? (i := 186) rfl) rfl
theorem mw_1_187 : (.instantiable RX7 8 : Cond) ∈ gG := gG_t1 (List.mem_of_getElem? (i := 187) rfl) rfl
theorem mw_1_189 : (.instanceMethod yX7_init : Cond) ∈ gG := gG_t1 (List.mem_of_getElem? (i := 189) rfl) rfl
theorem mw_1_190 : (.code yX7_init cX7_init 1 (none) : Cond) ∈ gG := gG_t1 (List.mem_of_getElem? (i := 190) rfl) rfl
theorem mw_1_191 : (.methodLink RX7 1 objectInit : Cond) ∈ gG := gG_t1 (List.mem_of_getElem? (i := 191) rfl) rfl
theorem mw_1_192 : (.fieldLink RX7 7 "RayRoom$Ray" "from" "[J" : Cond) ∈ gG := gG_t1 (List.mem_of_getElem? (i := 192) rfl) rfl
theorem mw_1_197 : (.fieldLink RX7 13 "RayRoom$Ray" "along" "[J" : Cond) ∈ gG := gG_t1 (List.mem_of_getElem? (i := 197) rfl) rfl
theorem mw_1_203 : (.fieldLink RX7 16 "RayRoom$Ray" "turn" "J" : Cond) ∈ gG := gG_t1 (List.mem_of_getElem? (i := 203) rfl) rfl
theorem mw_1_204 : (.fieldLink RX7 20 "RayRoom$Ray" "far" "J" : Cond) ∈ gG := gG_t1 (List.mem_of_getElem? (i := 204) rfl) rfl
theorem mw_1_207 : (.fieldLink RX7 23 "RayRoom$Ray" "over" "J" : Cond) ∈ gG := gG_t1 (List.mem_of_getElem? (i := 207) rfl) rfl
theorem mw_1_210 : (.fieldLink RX7 26 "RayRoom$Ray" "weightA" "J" : Cond) ∈ gG := gG_t1 (List.mem_of_getElem? (i := 210) rfl) rfl
theorem mw_1_212 : (.fieldLink RX7 29 "RayRoom$Ray" "weightB" "J" : Cond) ∈ gG := gG_t1 (List.mem_of_getElem? (i := 212) rfl) rfl
theorem mw_1_214 : (.fieldLink RX7 32 "RayRoom$Ray" "weightC" "J" : Cond) ∈ gG := gG_t1 (List.mem_of_getElem? (i := 214) rfl) rfl
theorem mw_1_216 : (.laysFinal RX7 "RayRoom$Ray" "from" "[J" : Cond) ∈ gG := gG_t1 (List.mem_of_getElem? (i := 216) rfl) rfl
theorem mw_1_218 : (.laysFinal RX7 "RayRoom$Ray" "along" "[J" : Cond) ∈ gG := gG_t1 (List.mem_of_getElem? (i := 218) rfl) rfl
theorem mw_1_220 : (.lays RX7 "RayRoom$Ray" "turn" "J" : Cond) ∈ gG := gG_t1 (List.mem_of_getElem? (i := 220) rfl) rfl
theorem mw_1_222 : (.lays RX7 "RayRoom$Ray" "far" "J" : Cond) ∈ gG := gG_t1 (List.mem_of_getElem? (i := 222) rfl) rfl
theorem mw_1_224 : (.lays RX7 "RayRoom$Ray" "over" "J" : Cond) ∈ gG := gG_t1 (List.mem_of_getElem? (i := 224) rfl) rfl
theorem mw_1_226 : (.lays RX7 "RayRoom$Ray" "weightA" "J" : Cond) ∈ gG := gG_t1 (List.mem_of_getElem? (i := 226) rfl) rfl
theorem mw_1_228 : (.lays RX7 "RayRoom$Ray" "weightB" "J" : Cond) ∈ gG := gG_t1 (List.mem_of_getElem? (i := 228) rfl) rfl
theorem mw_1_230 : (.lays RX7 "RayRoom$Ray" "weightC" "J" : Cond) ∈ gG := gG_t1 (List.mem_of_getElem? (i := 230) rfl) rfl
theorem mw_1_233 : (.classLink RX11 71 RX8 : Cond) ∈ gG := gG_t1 (List.mem_of_getElem? (i := 233) rfl) rfl
theorem mw_1_234 : (.instantiable RX8 6 : Cond) ∈ gG := gG_t1 (List.mem_of_getElem? (i := 234) rfl) rfl
theorem mw_1_236 : (.instanceMethod yX8_init : Cond) ∈ gG := gG_t1 (List.mem_of_getElem? (i := 236) rfl) rfl
theorem mw_1_237 : (.code yX8_init cX8_init 1 (none) : Cond) ∈ gG := gG_t1 (List.mem_of_getElem? (i := 237) rfl) rfl
theorem mw_1_238 : (.methodLink RX8 3 objectInit : Cond) ∈ gG := gG_t1 (List.mem_of_getElem? (i := 238) rfl) rfl
theorem mw_1_239 : (.classLink RX8 9 RX10 : Cond) ∈ gG := gG_t1 (List.mem_of_getElem? (i := 239) rfl) rfl
theorem mw_2_0 : (.instantiable RX10 1 : Cond) ∈ gG := gG_t2 (List.mem_of_getElem? (i := 0) rfl) rfl
theorem mw_2_2 : (.instanceMethod yX10_init : Cond) ∈ gG := gG_t2 (List.mem_of_getElem? (i := 2) rfl) rfl
theorem mw_2_3 : (.code yX10_init cX10_init 1 (none) : Cond) ∈ gG := gG_t2 (List.mem_of_getElem? (i := 3) rfl) rfl
theorem mw_2_4 : (.methodLink RX10 3 objectInit : Cond) ∈ gG := gG_t2 (List.mem_of_getElem? (i := 4) rfl) rfl
theorem mw_2_5 : (.fieldLink RX10 9 "RayRoom$Wide" "limbs" "[J" : Cond) ∈ gG := gG_t2 (List.mem_of_getElem? (i := 5) rfl) rfl
theorem mw_2_6 : (.laysFinal RX10 "RayRoom$Wide" "limbs" "[J" : Cond) ∈ gG := gG_t2 (List.mem_of_getElem? (i := 6) rfl) rfl
theorem mw_2_9 : (.fieldLink RX8 12 "RayRoom$Slope" "factor" "LRayRoom$Wide;" : Cond) ∈ gG := gG_t2 (List.mem_of_getElem? (i := 9) rfl) rfl
theorem mw_2_10 : (.fieldLink RX8 18 "RayRoom$Slope" "square" "LRayRoom$Wide;" : Cond) ∈ gG := gG_t2 (List.mem_of_getElem? (i := 10) rfl) rfl
theorem mw_2_11 : (.fieldLink RX8 21 "RayRoom$Slope" "waySquare" "LRayRoom$Wide;" : Cond) ∈ gG := gG_t2 (List.mem_of_getElem? (i := 11) rfl) rfl
theorem mw_2_12 : (.fieldLink RX8 24 "RayRoom$Slope" "riseSquare" "LRayRoom$Wide;" : Cond) ∈ gG := gG_t2 (List.mem_of_getElem? (i := 12) rfl) rfl
theorem mw_2_13 : (.fieldLink RX8 27 "RayRoom$Slope" "unit" "LRayRoom$Wide;" : Cond) ∈ gG := gG_t2 (List.mem_of_getElem? (i := 13) rfl) rfl
theorem mw_2_14 : (.fieldLink RX8 30 "RayRoom$Slope" "bound" "LRayRoom$Wide;" : Cond) ∈ gG := gG_t2 (List.mem_of_getElem? (i := 14) rfl) rfl
theorem mw_2_15 : (.laysFinal RX8 "RayRoom$Slope" "factor" "LRayRoom$Wide;" : Cond) ∈ gG := gG_t2 (List.mem_of_getElem? (i := 15) rfl) rfl
theorem mw_2_17 : (.laysFinal RX8 "RayRoom$Slope" "square" "LRayRoom$Wide;" : Cond) ∈ gG := gG_t2 (List.mem_of_getElem? (i := 17) rfl) rfl
theorem mw_2_19 : (.laysFinal RX8 "RayRoom$Slope" "waySquare" "LRayRoom$Wide;" : Cond) ∈ gG := gG_t2 (List.mem_of_getElem? (i := 19) rfl) rfl
theorem mw_2_21 : (.laysFinal RX8 "RayRoom$Slope" "riseSquare" "LRayRoom$Wide;" : Cond) ∈ gG := gG_t2 (List.mem_of_getElem? (i := 21) rfl) rfl
theorem mw_2_23 : (.laysFinal RX8 "RayRoom$Slope" "unit" "LRayRoom$Wide;" : Cond) ∈ gG := gG_t2 (List.mem_of_getElem? (i := 23) rfl) rfl
theorem mw_2_25 : (.laysFinal RX8 "RayRoom$Slope" "bound" "LRayRoom$Wide;" : Cond) ∈ gG := gG_t2 (List.mem_of_getElem? (i := 25) rfl) rfl
theorem mw_2_28 : (.classLink RX11 78 RX0 : Cond) ∈ gG := gG_t2 (List.mem_of_getElem? (i := 28) rfl) rfl
theorem mw_2_29 : (.instantiable RX0 2 : Cond) ∈ gG := gG_t2 (List.mem_of_getElem? (i := 29) rfl) rfl
theorem mw_2_31 : (.instanceMethod yX0_init : Cond) ∈ gG := gG_t2 (List.mem_of_getElem? (i := 31) rfl) rfl
theorem mw_2_32 : (.code yX0_init cX0_init 1 (none) : Cond) ∈ gG := gG_t2 (List.mem_of_getElem? (i := 32) rfl) rfl
theorem mw_2_33 : (.methodLink RX0 1 objectInit : Cond) ∈ gG := gG_t2 (List.mem_of_getElem? (i := 33) rfl) rfl
theorem mw_2_34 : (.fieldLink RX0 7 "RayRoom$Box" "middle" "[J" : Cond) ∈ gG := gG_t2 (List.mem_of_getElem? (i := 34) rfl) rfl
theorem mw_2_35 : (.fieldLink RX0 13 "RayRoom$Box" "reach" "[J" : Cond) ∈ gG := gG_t2 (List.mem_of_getElem? (i := 35) rfl) rfl
theorem mw_2_36 : (.laysFinal RX0 "RayRoom$Box" "middle" "[J" : Cond) ∈ gG := gG_t2 (List.mem_of_getElem? (i := 36) rfl) rfl
theorem mw_2_38 : (.laysFinal RX0 "RayRoom$Box" "reach" "[J" : Cond) ∈ gG := gG_t2 (List.mem_of_getElem? (i := 38) rfl) rfl
theorem mw_2_41 : (.fieldLink RX11 12 "RayRoom" "points" "LRayRoom$Points;" : Cond) ∈ gG := gG_t2 (List.mem_of_getElem? (i := 41) rfl) rfl
theorem mw_2_42 : (.fieldLink RX11 19 "RayRoom" "mesh" "LRayRoom$Mesh;" : Cond) ∈ gG := gG_t2 (List.mem_of_getElem? (i := 42) rfl) rfl
theorem mw_2_43 : (.fieldLink RX11 26 "RayRoom" "camera" "LRayRoom$Camera;" : Cond) ∈ gG := gG_t2 (List.mem_of_getElem? (i := 43) rfl) rfl
theorem mw_2_44 : (.fieldLink RX11 33 "RayRoom" "lamps" "LRayRoom$Lamps;" : Cond) ∈ gG := gG_t2 (List.mem_of_getElem? (i := 44) rfl) rfl
theorem mw_2_45 : (.fieldLink RX11 40 "RayRoom" "tree" "LRayRoom$Tree;" : Cond) ∈ gG := gG_t2 (List.mem_of_getElem? (i := 45) rfl) rfl
theorem mw_2_46 : (.fieldLink RX11 47 "RayRoom" "crossings" "LRayRoom$Crossings;" : Cond) ∈ gG := gG_t2 (List.mem_of_getElem? (i := 46) rfl) rfl
theorem mw_2_47 : (.fieldLink RX11 54 "RayRoom" "atHand" "LRayRoom$Hit;" : Cond) ∈ gG := gG_t2 (List.mem_of_getElem? (i := 47) rfl) rfl
theorem mw_2_48 : (.fieldLink RX11 58 "RayRoom" "view" "LRayRoom$Hit;" : Cond) ∈ gG := gG_t2 (List.mem_of_getElem? (i := 48) rfl) rfl
theorem mw_2_49 : (.fieldLink RX11 64 "RayRoom" "sight" "LRayRoom$Ray;" : Cond) ∈ gG := gG_t2 (List.mem_of_getElem? (i := 49) rfl) rfl
theorem mw_2_50 : (.fieldLink RX11 68 "RayRoom" "shade" "LRayRoom$Ray;" : Cond) ∈ gG := gG_t2 (List.mem_of_getElem? (i := 50) rfl) rfl
theorem mw_2_51 : (.fieldLink RX11 74 "RayRoom" "slope" "LRayRoom$Slope;" : Cond) ∈ gG := gG_t2 (List.mem_of_getElem? (i := 51) rfl) rfl
theorem mw_2_52 : (.fieldLink RX11 81 "RayRoom" "box" "LRayRoom$Box;" : Cond) ∈ gG := gG_t2 (List.mem_of_getElem? (i := 52) rfl) rfl
theorem mw_2_53 : (.fieldLink RX11 85 "RayRoom" "marked" "[Z" : Cond) ∈ gG := gG_t2 (List.mem_of_getElem? (i := 53) rfl) rfl
theorem mw_2_54 : (.fieldLink RX11 89 "RayRoom" "back" "I" : Cond) ∈ gG := gG_t2 (List.mem_of_getElem? (i := 54) rfl) rfl
theorem mw_2_55 : (.laysFinal RX11 "RayRoom" "points" "LRayRoom$Points;" : Cond) ∈ gG := gG_t2 (List.mem_of_getElem? (i := 55) rfl) rfl
theorem mw_2_57 : (.laysFinal RX11 "RayRoom" "mesh" "LRayRoom$Mesh;" : Cond) ∈ gG := gG_t2 (List.mem_of_getElem? (i := 57) rfl) rfl
theorem mw_2_59 : (.laysFinal RX11 "RayRoom" "camera" "LRayRoom$Camera;" : Cond) ∈ gG := gG_t2 (List.mem_of_getElem? (i := 59) rfl) rfl
theorem mw_2_61 : (.laysFinal RX11 "RayRoom" "lamps" "LRayRoom$Lamps;" : Cond) ∈ gG := gG_t2 (List.mem_of_getElem? (i := 61) rfl) rfl
theorem mw_2_63 : (.laysFinal RX11 "RayRoom" "tree" "LRayRoom$Tree;" : Cond) ∈ gG := gG_t2 (List.mem_of_getElem? (i := 63) rfl) rfl
theorem mw_2_65 : (.laysFinal RX11 "RayRoom" "crossings" "LRayRoom$Crossings;" : Cond) ∈ gG := gG_t2 (List.mem_of_getElem? (i := 65) rfl) rfl
theorem mw_2_67 : (.laysFinal RX11 "RayRoom" "atHand" "LRayRoom$Hit;" : Cond) ∈ gG := gG_t2 (List.mem_of_getElem? (i := 67) rfl) rfl
theorem mw_2_69 : (.laysFinal RX11 "RayRoom" "view" "LRayRoom$Hit;" : Cond) ∈ gG := gG_t2 (List.mem_of_getElem? (i := 69) rfl) rfl
theorem mw_2_71 : (.laysFinal RX11 "RayRoom" "sight" "LRayRoom$Ray;" : Cond) ∈ gG := gG_t2 (List.mem_of_getElem? (i := 71) rfl) rfl
theorem mw_2_73 : (.laysFinal RX11 "RayRoom" "shade" "LRayRoom$Ray;" : Cond) ∈ gG := gG_t2 (List.mem_of_getElem? (i := 73) rfl) rfl
theorem mw_2_75 : (.laysFinal RX11 "RayRoom" "slope" "LRayRoom$Slope;" : Cond) ∈ gG := gG_t2 (List.mem_of_getElem? (i := 75) rfl) rfl
theorem mw_2_77 : (.laysFinal RX11 "RayRoom" "box" "LRayRoom$Box;" : Cond) ∈ gG := gG_t2 (List.mem_of_getElem? (i := 77) rfl) rfl
theorem mw_2_79 : (.laysFinal RX11 "RayRoom" "marked" "[Z" : Cond) ∈ gG := gG_t2 (List.mem_of_getElem? (i := 79) rfl) rfl
theorem mw_2_81 : (.lays RX11 "RayRoom" "back" "I" : Cond) ∈ gG := gG_t2 (List.mem_of_getElem? (i := 81) rfl) rfl
theorem mw_2_84 : (.methodLink R_law 13 yX11_point : Cond) ∈ gG := gG_t2 (List.mem_of_getElem? (i := 84) rfl) rfl
theorem mw_2_85 : (.instanceMethod yX11_point : Cond) ∈ gG := gG_t2 (List.mem_of_getElem? (i := 85) rfl) rfl
theorem mw_2_86 : (.selects RX11 yX11_point yX11_point : Cond) ∈ gG := gG_t2 (List.mem_of_getElem? (i := 86) rfl) rfl
theorem mw_2_87 : (.code yX11_point cX11_point 4 (some .int) : Cond) ∈ gG := gG_t2 (List.mem_of_getElem? (i := 87) rfl) rfl
theorem mw_2_88 : (.methodLink RX11 93 yX6_collect : Cond) ∈ gG := gG_t2 (List.mem_of_getElem? (i := 88) rfl) rfl
theorem mw_2_89 : (.instanceMethod yX6_collect : Cond) ∈ gG := gG_t2 (List.mem_of_getElem? (i := 89) rfl) rfl
theorem mw_2_90 : (.selects RX6 yX6_collect yX6_collect : Cond) ∈ gG := gG_t2 (List.mem_of_getElem? (i := 90) rfl) rfl
theorem mw_2_91 : (.code yX6_collect cX6_collect 4 (some .boolean) : Cond) ∈ gG := gG_t2 (List.mem_of_getElem? (i := 91) rfl) rfl
theorem mw_2_92 : (.methodLink RX6 17 yX6_isCoordinate : Cond) ∈ gG := gG_t2 (List.mem_of_getElem? (i := 92) rfl) rfl
theorem mw_2_93 : (.static yX6_isCoordinate : Cond) ∈ gG := gG_t2 (List.mem_of_getElem? (i := 93) rfl) rfl
theorem mw_2_94 : (.code yX6_isCoordinate cX6_isCoordinate 1 (some .boolean) : Cond) ∈ gG := gG_t2 (List.mem_of_getElem? (i := 94) rfl) rfl
theorem mw_2_95 : (.methodLink RX11 97 yX6_many : Cond) ∈ gG := gG_t2 (List.mem_of_getElem? (i := 95) rfl) rfl
theorem mw_2_96 : (.instanceMethod yX6_many : Cond) ∈ gG := gG_t2 (List.mem_of_getElem? (i := 96) rfl) rfl
theorem mw_2_97 : (.selects RX6 yX6_many yX6_many : Cond) ∈ gG := gG_t2 (List.mem_of_getElem? (i := 97) rfl) rfl
theorem mw_2_98 : (.code yX6_many cX6_many 1 (some .int) : Cond) ∈ gG := gG_t2 (List.mem_of_getElem? (i := 98) rfl) rfl
theorem mw_2_99 : (.methodLink R_law 18 yX11_triangle : Cond) ∈ gG := gG_t2 (List.mem_of_getElem? (i := 99) rfl) rfl
theorem mw_2_100 : (.instanceMethod yX11_triangle : Cond) ∈ gG := gG_t2 (List.mem_of_getElem? (i := 100) rfl) rfl
theorem mw_2_101 : (.selects RX11 yX11_triangle yX11_triangle : Cond) ∈ gG := gG_t2 (List.mem_of_getElem? (i := 101) rfl) rfl
theorem mw_2_102 : (.code yX11_triangle cX11_triangle 3 (some .int) : Cond) ∈ gG := gG_t2 (List.mem_of_getElem? (i := 102) rfl) rfl
theorem mw_2_103 : (.methodLink RX11 101 yX11_isByte : Cond) ∈ gG := gG_t2 (List.mem_of_getElem? (i := 103) rfl) rfl
theorem mw_2_104 : (.static yX11_isByte : Cond) ∈ gG := gG_t2 (List.mem_of_getElem? (i := 104) rfl) rfl
theorem mw_2_105 : (.code yX11_isByte cX11_isByte 1 (some .boolean) : Cond) ∈ gG := gG_t2 (List.mem_of_getElem? (i := 105) rfl) rfl
theorem mw_2_106 : (.methodLink RX11 105 yX5_append : Cond) ∈ gG := gG_t2 (List.mem_of_getElem? (i := 106) rfl) rfl
theorem mw_2_107 : (.instanceMethod yX5_append : Cond) ∈ gG := gG_t2 (List.mem_of_getElem? (i := 107) rfl) rfl
theorem mw_2_108 : (.selects RX5 yX5_append yX5_append : Cond) ∈ gG := gG_t2 (List.mem_of_getElem? (i := 108) rfl) rfl
theorem mw_2_109 : (.code yX5_append cX5_append 4 (some .int) : Cond) ∈ gG := gG_t2 (List.mem_of_getElem? (i := 109) rfl) rfl
theorem mw_2_110 : (.methodLink RX5 31 yX5_tryCorner : Cond) ∈ gG := gG_t2 (List.mem_of_getElem? (i := 110) rfl) rfl
theorem mw_2_112 : (.instanceMethod yX5_tryCorner : Cond) ∈ gG := gG_t2 (List.mem_of_getElem? (i := 112) rfl) rfl
theorem mw_2_113 : (.code yX5_tryCorner cX5_tryCorner 5 (none) : Cond) ∈ gG := gG_t2 (List.mem_of_getElem? (i := 113) rfl) rfl
theorem mw_2_114 : (.methodLink RX5 49 yX6_at : Cond) ∈ gG := gG_t2 (List.mem_of_getElem? (i := 114) rfl) rfl
theorem mw_2_115 : (.instanceMethod yX6_at : Cond) ∈ gG := gG_t2 (List.mem_of_getElem? (i := 115) rfl) rfl
theorem mw_2_116 : (.selects RX6 yX6_at yX6_at : Cond) ∈ gG := gG_t2 (List.mem_of_getElem? (i := 116) rfl) rfl
theorem mw_2_117 : (.code yX6_at cX6_at 3 (some .int) : Cond) ∈ gG := gG_t2 (List.mem_of_getElem? (i := 117) rfl) rfl
theorem mw_2_118 : (.methodLink RX5 35 yX5_trialIsFlat : Cond) ∈ gG := gG_t2 (List.mem_of_getElem? (i := 118) rfl) rfl
theorem mw_2_120 : (.instanceMethod yX5_trialIsFlat : Cond) ∈ gG := gG_t2 (List.mem_of_getElem? (i := 120) rfl) rfl
theorem mw_2_121 : (.code yX5_trialIsFlat cX5_trialIsFlat 7 (some .boolean) : Cond) ∈ gG := gG_t2 (List.mem_of_getElem? (i := 121) rfl) rfl
theorem mw_2_122 : (.methodLink RX5 39 yX5_storeTrial : Cond) ∈ gG := gG_t2 (List.mem_of_getElem? (i := 122) rfl) rfl
theorem mw_2_124 : (.instanceMethod yX5_storeTrial : Cond) ∈ gG := gG_t2 (List.mem_of_getElem? (i := 124) rfl) rfl
theorem mw_2_125 : (.code yX5_storeTrial cX5_storeTrial 2 (none) : Cond) ∈ gG := gG_t2 (List.mem_of_getElem? (i := 125) rfl) rfl
theorem mw_2_126 : (.methodLink RX5 43 arraycopyName : Cond) ∈ gG := gG_t2 (List.mem_of_getElem? (i := 126) rfl) rfl
theorem mw_2_127 : (.static arraycopyName : Cond) ∈ gG := gG_t2 (List.mem_of_getElem? (i := 127) rfl) rfl
theorem mw_2_128 : (.native arraycopyName : Cond) ∈ gG := gG_t2 (List.mem_of_getElem? (i := 128) rfl) rfl
theorem mw_2_129 : (.methodLink RX11 109 yX6_clear : Cond) ∈ gG := gG_t2 (List.mem_of_getElem? (i := 129) rfl) rfl
theorem mw_2_130 : (.instanceMethod yX6_clear : Cond) ∈ gG := gG_t2 (List.mem_of_getElem? (i := 130) rfl) rfl
theorem mw_2_131 : (.selects RX6 yX6_clear yX6_clear : Cond) ∈ gG := gG_t2 (List.mem_of_getElem? (i := 131) rfl) rfl
theorem mw_2_132 : (.code yX6_clear cX6_clear 1 (none) : Cond) ∈ gG := gG_t2 (List.mem_of_getElem? (i := 132) rfl) rfl
theorem mw_2_133 : (.methodLink RX11 112 yX9_clear : Cond) ∈ gG := gG_t2 (List.mem_of_getElem? (i := 133) rfl) rfl
theorem mw_2_134 : (.instanceMethod yX9_clear : Cond) ∈ gG := gG_t2 (List.mem_of_getElem? (i := 134) rfl) rfl
theorem mw_2_135 : (.selects RX9 yX9_clear yX9_clear : Cond) ∈ gG := gG_t2 (List.mem_of_getElem? (i := 135) rfl) rfl
theorem mw_2_136 : (.code yX9_clear cX9_clear 1 (none) : Cond) ∈ gG := gG_t2 (List.mem_of_getElem? (i := 136) rfl) rfl
theorem mw_2_137 : (.methodLink R_law 23 yX11_move : Cond) ∈ gG := gG_t2 (List.mem_of_getElem? (i := 137) rfl) rfl
theorem mw_2_138 : (.instanceMethod yX11_move : Cond) ∈ gG := gG_t2 (List.mem_of_getElem? (i := 138) rfl) rfl
theorem mw_2_139 : (.selects RX11 yX11_move yX11_move : Cond) ∈ gG := gG_t2 (List.mem_of_getElem? (i := 139) rfl) rfl
theorem mw_2_140 : (.code yX11_move cX11_move 4 (some .int) : Cond) ∈ gG := gG_t2 (List.mem_of_getElem? (i := 140) rfl) rfl
theorem mw_2_141 : (.methodLink RX11 113 yX5_has : Cond) ∈ gG := gG_t2 (List.mem_of_getElem? (i := 141) rfl) rfl
theorem mw_2_142 : (.instanceMethod yX5_has : Cond) ∈ gG := gG_t2 (List.mem_of_getElem? (i := 142) rfl) rfl
theorem mw_2_143 : (.selects RX5 yX5_has yX5_has : Cond) ∈ gG := gG_t2 (List.mem_of_getElem? (i := 143) rfl) rfl
theorem mw_2_144 : (.code yX5_has cX5_has 2 (some .boolean) : Cond) ∈ gG := gG_t2 (List.mem_of_getElem? (i := 144) rfl) rfl
theorem mw_2_145 : (.methodLink RX11 116 yX5_bend : Cond) ∈ gG := gG_t2 (List.mem_of_getElem? (i := 145) rfl) rfl
theorem mw_2_146 : (.instanceMethod yX5_bend : Cond) ∈ gG := gG_t2 (List.mem_of_getElem? (i := 146) rfl) rfl
theorem mw_2_147 : (.selects RX5 yX5_bend yX5_bend : Cond) ∈ gG := gG_t2 (List.mem_of_getElem? (i := 147) rfl) rfl
theorem mw_2_148 : (.code yX5_bend cX5_bend 4 (some .boolean) : Cond) ∈ gG := gG_t2 (List.mem_of_getElem? (i := 148) rfl) rfl
theorem mw_2_149 : (.methodLink R_law 28 yX11_drop : Cond) ∈ gG := gG_t2 (List.mem_of_getElem? (i := 149) rfl) rfl
theorem mw_2_150 : (.instanceMethod yX11_drop : Cond) ∈ gG := gG_t2 (List.mem_of_getElem? (i := 150) rfl) rfl
theorem mw_2_151 : (.selects RX11 yX11_drop yX11_drop : Cond) ∈ gG := gG_t2 (List.mem_of_getElem? (i := 151) rfl) rfl
theorem mw_2_152 : (.code yX11_drop cX11_drop 2 (some .int) : Cond) ∈ gG := gG_t2 (List.mem_of_getElem? (i := 152) rfl) rfl
theorem mw_2_153 : (.methodLink R_law 33 yX11_eye : Cond) ∈ gG := gG_t2 (List.mem_of_getElem? (i := 153) rfl) rfl
theorem mw_2_154 : (.instanceMethod yX11_eye : Cond) ∈ gG := gG_t2 (List.mem_of_getElem? (i := 154) rfl) rfl
theorem mw_2_155 : (.selects RX11 yX11_eye yX11_eye : Cond) ∈ gG := gG_t2 (List.mem_of_getElem? (i := 155) rfl) rfl
theorem mw_2_156 : (.code yX11_eye cX11_eye 1 (some .int) : Cond) ∈ gG := gG_t2 (List.mem_of_getElem? (i := 156) rfl) rfl
theorem mw_2_157 : (.methodLink RX11 120 yX1_stand : Cond) ∈ gG := gG_t2 (List.mem_of_getElem? (i := 157) rfl) rfl
theorem mw_2_158 : (.instanceMethod yX1_stand : Cond) ∈ gG := gG_t2 (List.mem_of_getElem? (i := 158) rfl) rfl
theorem mw_2_159 : (.selects RX1 yX1_stand yX1_stand : Cond) ∈ gG := gG_t2 (List.mem_of_getElem? (i := 159) rfl) rfl
theorem mw_2_160 : (.code yX1_stand cX1_stand 3 (none) : Cond) ∈ gG := gG_t2 (List.mem_of_getElem? (i := 160) rfl) rfl
theorem mw_2_161 : (.methodLink RX1 26 yX6_at : Cond) ∈ gG := gG_t2 (List.mem_of_getElem? (i := 161) rfl) rfl
theorem mw_2_162 : (.methodLink R_law 37 yX11_axis : Cond) ∈ gG := gG_t2 (List.mem_of_getElem? (i := 162) rfl) rfl
theorem mw_2_163 : (.instanceMethod yX11_axis : Cond) ∈ gG := gG_t2 (List.mem_of_getElem? (i := 163) rfl) rfl
theorem mw_2_164 : (.selects RX11 yX11_axis yX11_axis : Cond) ∈ gG := gG_t2 (List.mem_of_getElem? (i := 164) rfl) rfl
theorem mw_2_165 : (.code yX11_axis cX11_axis 5 (some .int) : Cond) ∈ gG := gG_t2 (List.mem_of_getElem? (i := 165) rfl) rfl
theorem mw_2_166 : (.methodLink RX11 124 yX1_turn : Cond) ∈ gG := gG_t2 (List.mem_of_getElem? (i := 166) rfl) rfl
theorem mw_2_167 : (.instanceMethod yX1_turn : Cond) ∈ gG := gG_t2 (List.mem_of_getElem? (i := 167) rfl) rfl
theorem mw_2_168 : (.selects RX1 yX1_turn yX1_turn : Cond) ∈ gG := gG_t2 (List.mem_of_getElem? (i := 168) rfl) rfl
theorem mw_2_169 : (.code yX1_turn cX1_turn 5 (some .boolean) : Cond) ∈ gG := gG_t2 (List.mem_of_getElem? (i := 169) rfl) rfl
theorem mw_2_170 : (.methodLink RX1 32 arraycopyName : Cond) ∈ gG := gG_t2 (List.mem_of_getElem? (i := 170) rfl) rfl
theorem mw_2_171 : (.methodLink RX1 38 yX1_allRaysFit : Cond) ∈ gG := gG_t2 (List.mem_of_getElem? (i := 171) rfl) rfl
theorem mw_2_172 : (.static yX1_allRaysFit : Cond) ∈ gG := gG_t2 (List.mem_of_getElem? (i := 172) rfl) rfl
theorem mw_2_173 : (.code yX1_allRaysFit cX1_allRaysFit 6 (some .boolean) : Cond) ∈ gG := gG_t2 (List.mem_of_getElem? (i := 173) rfl) rfl
theorem mw_2_174 : (.methodLink RX1 42 Lib.MathLoose.abs_long.x : Cond) ∈ gG := gG_t2 (List.mem_of_getElem? (i := 174) rfl) rfl
theorem mw_2_175 : (.static Lib.MathLoose.abs_long.x : Cond) ∈ gG := gG_t2 (List.mem_of_getElem? (i := 175) rfl) rfl
theorem mw_2_176 : (.code Lib.MathLoose.abs_long.x Lib.MathLoose.abs_long.code 2 (some .long) : Cond) ∈ gG := gG_t2 (List.mem_of_getElem? (i := 176) rfl) rfl
theorem mw_2_177 : (.constantLong RX1 48 (1023) : Cond) ∈ gG := gG_t2 (List.mem_of_getElem? (i := 177) rfl) rfl
theorem mw_2_178 : (.constantLong RX1 50 (-1023) : Cond) ∈ gG := gG_t2 (List.mem_of_getElem? (i := 178) rfl) rfl
theorem mw_2_179 : (.methodLink R_law 42 yX11_size : Cond) ∈ gG := gG_t2 (List.mem_of_getElem? (i := 179) rfl) rfl
theorem mw_2_180 : (.instanceMethod yX11_size : Cond) ∈ gG := gG_t2 (List.mem_of_getElem? (i := 180) rfl) rfl
theorem mw_2_181 : (.selects RX11 yX11_size yX11_size : Cond) ∈ gG := gG_t2 (List.mem_of_getElem? (i := 181) rfl) rfl
theorem mw_2_182 : (.code yX11_size cX11_size 3 (some .int) : Cond) ∈ gG := gG_t2 (List.mem_of_getElem? (i := 182) rfl) rfl
theorem mw_2_183 : (.methodLink RX11 128 yX1_frame : Cond) ∈ gG := gG_t2 (List.mem_of_getElem? (i := 183) rfl) rfl
theorem mw_2_184 : (.instanceMethod yX1_frame : Cond) ∈ gG := gG_t2 (List.mem_of_getElem? (i := 184) rfl) rfl
theorem mw_2_185 : (.selects RX1 yX1_frame yX1_frame : Cond) ∈ gG := gG_t2 (List.mem_of_getElem? (i := 185) rfl) rfl
theorem mw_2_186 : (.code yX1_frame cX1_frame 3 (some .boolean) : Cond) ∈ gG := gG_t2 (List.mem_of_getElem? (i := 186) rfl) rfl
theorem mw_2_187 : (.methodLink R_law 46 yX11_light : Cond) ∈ gG := gG_t2 (List.mem_of_getElem? (i := 187) rfl) rfl
theorem mw_2_188 : (.instanceMethod yX11_light : Cond) ∈ gG := gG_t2 (List.mem_of_getElem? (i := 188) rfl) rfl
theorem mw_2_189 : (.selects RX11 yX11_light yX11_light : Cond) ∈ gG := gG_t2 (List.mem_of_getElem? (i := 189) rfl) rfl
theorem mw_2_190 : (.code yX11_light cX11_light 3 (some .int) : Cond) ∈ gG := gG_t2 (List.mem_of_getElem? (i := 190) rfl) rfl
theorem mw_2_191 : (.methodLink RX11 132 yX4_has : Cond) ∈ gG := gG_t2 (List.mem_of_getElem? (i := 191) rfl) rfl
theorem mw_2_192 : (.static yX4_has : Cond) ∈ gG := gG_t2 (List.mem_of_getElem? (i := 192) rfl) rfl
theorem mw_2_193 : (.code yX4_has cX4_has 1 (some .boolean) : Cond) ∈ gG := gG_t2 (List.mem_of_getElem? (i := 193) rfl) rfl
theorem mw_2_194 : (.methodLink RX11 133 yX4_hang : Cond) ∈ gG := gG_t2 (List.mem_of_getElem? (i := 194) rfl) rfl
theorem mw_2_195 : (.instanceMethod yX4_hang : Cond) ∈ gG := gG_t2 (List.mem_of_getElem? (i := 195) rfl) rfl
theorem mw_2_196 : (.selects RX4 yX4_hang yX4_hang : Cond) ∈ gG := gG_t2 (List.mem_of_getElem? (i := 196) rfl) rfl
theorem mw_2_197 : (.code yX4_hang cX4_hang 5 (none) : Cond) ∈ gG := gG_t2 (List.mem_of_getElem? (i := 197) rfl) rfl
theorem mw_2_198 : (.methodLink RX4 25 yX6_at : Cond) ∈ gG := gG_t2 (List.mem_of_getElem? (i := 198) rfl) rfl
theorem mw_2_199 : (.methodLink R_law 50 yX11_set : Cond) ∈ gG := gG_t2 (List.mem_of_getElem? (i := 199) rfl) rfl
theorem mw_2_200 : (.instanceMethod yX11_set : Cond) ∈ gG := gG_t2 (List.mem_of_getElem? (i := 200) rfl) rfl
theorem mw_2_201 : (.selects RX11 yX11_set yX11_set : Cond) ∈ gG := gG_t2 (List.mem_of_getElem? (i := 201) rfl) rfl
theorem mw_2_202 : (.code yX11_set cX11_set 5 (some .int) : Cond) ∈ gG := gG_t2 (List.mem_of_getElem? (i := 202) rfl) rfl
theorem mw_2_203 : (.methodLink RX11 137 yX4_changeValue : Cond) ∈ gG := gG_t2 (List.mem_of_getElem? (i := 203) rfl) rfl
theorem mw_2_204 : (.instanceMethod yX4_changeValue : Cond) ∈ gG := gG_t2 (List.mem_of_getElem? (i := 204) rfl) rfl
theorem mw_2_205 : (.selects RX4 yX4_changeValue yX4_changeValue : Cond) ∈ gG := gG_t2 (List.mem_of_getElem? (i := 205) rfl) rfl
theorem mw_2_206 : (.code yX4_changeValue cX4_changeValue 4 (some .int) : Cond) ∈ gG := gG_t2 (List.mem_of_getElem? (i := 206) rfl) rfl
theorem mw_2_207 : (.methodLink RX11 141 yX4_changeAmbient : Cond) ∈ gG := gG_t2 (List.mem_of_getElem? (i := 207) rfl) rfl
theorem mw_2_208 : (.instanceMethod yX4_changeAmbient : Cond) ∈ gG := gG_t2 (List.mem_of_getElem? (i := 208) rfl) rfl
theorem mw_2_209 : (.selects RX4 yX4_changeAmbient yX4_changeAmbient : Cond) ∈ gG := gG_t2 (List.mem_of_getElem? (i := 209) rfl) rfl
theorem mw_2_210 : (.code yX4_changeAmbient cX4_changeAmbient 3 (some .int) : Cond) ∈ gG := gG_t2 (List.mem_of_getElem? (i := 210) rfl) rfl
theorem mw_2_211 : (.methodLink RX11 145 yX5_changeTone : Cond) ∈ gG := gG_t2 (List.mem_of_getElem? (i := 211) rfl) rfl
theorem mw_2_212 : (.instanceMethod yX5_changeTone : Cond) ∈ gG := gG_t2 (List.mem_of_getElem? (i := 212) rfl) rfl
theorem mw_2_213 : (.selects RX5 yX5_changeTone yX5_changeTone : Cond) ∈ gG := gG_t2 (List.mem_of_getElem? (i := 213) rfl) rfl
theorem mw_2_214 : (.code yX5_changeTone cX5_changeTone 4 (some .int) : Cond) ∈ gG := gG_t2 (List.mem_of_getElem? (i := 214) rfl) rfl
theorem mw_2_215 : (.methodLink R_law 54 yX11_build : Cond) ∈ gG := gG_t2 (List.mem_of_getElem? (i := 215) rfl) rfl
theorem mw_2_216 : (.instanceMethod yX11_build : Cond) ∈ gG := gG_t2 (List.mem_of_getElem? (i := 216) rfl) rfl
theorem mw_2_217 : (.selects RX11 yX11_build yX11_build : Cond) ∈ gG := gG_t2 (List.mem_of_getElem? (i := 217) rfl) rfl
theorem mw_2_218 : (.code yX11_build cX11_build 2 (some .int) : Cond) ∈ gG := gG_t2 (List.mem_of_getElem? (i := 218) rfl) rfl
theorem mw_2_219 : (.methodLink RX11 148 yX9_grow : Cond) ∈ gG := gG_t2 (List.mem_of_getElem? (i := 219) rfl) rfl
theorem mw_2_220 : (.instanceMethod yX9_grow : Cond) ∈ gG := gG_t2 (List.mem_of_getElem? (i := 220) rfl) rfl
theorem mw_2_221 : (.selects RX9 yX9_grow yX9_grow : Cond) ∈ gG := gG_t2 (List.mem_of_getElem? (i := 221) rfl) rfl
theorem mw_2_222 : (.code yX9_grow cX9_grow 4 (none) : Cond) ∈ gG := gG_t2 (List.mem_of_getElem? (i := 222) rfl) rfl
theorem mw_2_223 : (.methodLink RX9 48 yX9_clear : Cond) ∈ gG := gG_t2 (List.mem_of_getElem? (i := 223) rfl) rfl
theorem mw_2_224 : (.methodLink RX9 51 yX5_many : Cond) ∈ gG := gG_t2 (List.mem_of_getElem? (i := 224) rfl) rfl
theorem mw_2_225 : (.instanceMethod yX5_many : Cond) ∈ gG := gG_t2 (List.mem_of_getElem? (i := 225) rfl) rfl
theorem mw_2_226 : (.selects RX5 yX5_many yX5_many : Cond) ∈ gG := gG_t2 (List.mem_of_getElem? (i := 226) rfl) rfl
theorem mw_2_227 : (.code yX5_many cX5_many 1 (some .int) : Cond) ∈ gG := gG_t2 (List.mem_of_getElem? (i := 227) rfl) rfl
theorem mw_2_228 : (.methodLink RX9 56 yX9_branch : Cond) ∈ gG := gG_t2 (List.mem_of_getElem? (i := 228) rfl) rfl
theorem mw_2_230 : (.instanceMethod yX9_branch : Cond) ∈ gG := gG_t2 (List.mem_of_getElem? (i := 230) rfl) rfl
theorem mw_2_231 : (.code yX9_branch cX9_branch 9 (some .int) : Cond) ∈ gG := gG_t2 (List.mem_of_getElem? (i := 231) rfl) rfl
theorem mw_2_232 : (.methodLink RX9 60 Lib.Math.max.name : Cond) ∈ gG := gG_t2 (List.mem_of_getElem? (i := 232) rfl) rfl
theorem mw_2_233 : (.static Lib.Math.max.name : Cond) ∈ gG := gG_t2 (List.mem_of_getElem? (i := 233) rfl) rfl
theorem mw_2_234 : (.code Lib.Math.max.name Lib.Math.max.code 2 (some .int) : Cond) ∈ gG := gG_t2 (List.mem_of_getElem? (i := 234) rfl) rfl
theorem mw_2_235 : (.methodLink RX9 66 yX9_fitBox : Cond) ∈ gG := gG_t2 (List.mem_of_getElem? (i := 235) rfl) rfl
theorem mw_2_237 : (.instanceMethod yX9_fitBox : Cond) ∈ gG := gG_t2 (List.mem_of_getElem? (i := 237) rfl) rfl
theorem mw_2_238 : (.code yX9_fitBox cX9_fitBox 8 (some .boolean) : Cond) ∈ gG := gG_t2 (List.mem_of_getElem? (i := 238) rfl) rfl
theorem mw_2_239 : (.methodLink RX9 92 yX5_least : Cond) ∈ gG := gG_t2 (List.mem_of_getElem? (i := 239) rfl) rfl
theorem mw_3_0 : (.instanceMethod yX5_least : Cond) ∈ gG := gG_t3 (List.mem_of_getElem? (i := 0) rfl) rfl
theorem mw_3_1 : (.selects RX5 yX5_least yX5_least : Cond) ∈ gG := gG_t3 (List.mem_of_getElem? (i := 1) rfl) rfl
theorem mw_3_2 : (.code yX5_least cX5_least 3 (some .int) : Cond) ∈ gG := gG_t3 (List.mem_of_getElem? (i := 2) rfl) rfl
theorem mw_3_3 : (.methodLink RX5 55 yX5_at : Cond) ∈ gG := gG_t3 (List.mem_of_getElem? (i := 3) rfl) rfl
theorem mw_3_4 : (.instanceMethod yX5_at : Cond) ∈ gG := gG_t3 (List.mem_of_getElem? (i := 4) rfl) rfl
theorem mw_3_5 : (.selects RX5 yX5_at yX5_at : Cond) ∈ gG := gG_t3 (List.mem_of_getElem? (i := 5) rfl) rfl
theorem mw_3_6 : (.code yX5_at cX5_at 4 (some .int) : Cond) ∈ gG := gG_t3 (List.mem_of_getElem? (i := 6) rfl) rfl
theorem mw_3_7 : (.methodLink RX5 65 Lib.Math.min.name : Cond) ∈ gG := gG_t3 (List.mem_of_getElem? (i := 7) rfl) rfl
theorem mw_3_8 : (.static Lib.Math.min.name : Cond) ∈ gG := gG_t3 (List.mem_of_getElem? (i := 8) rfl) rfl
theorem mw_3_9 : (.code Lib.Math.min.name Lib.Math.min.code 2 (some .int) : Cond) ∈ gG := gG_t3 (List.mem_of_getElem? (i := 9) rfl) rfl
theorem mw_3_10 : (.methodLink RX9 95 yX5_greatest : Cond) ∈ gG := gG_t3 (List.mem_of_getElem? (i := 10) rfl) rfl
theorem mw_3_11 : (.instanceMethod yX5_greatest : Cond) ∈ gG := gG_t3 (List.mem_of_getElem? (i := 11) rfl) rfl
theorem mw_3_12 : (.selects RX5 yX5_greatest yX5_greatest : Cond) ∈ gG := gG_t3 (List.mem_of_getElem? (i := 12) rfl) rfl
theorem mw_3_13 : (.code yX5_greatest cX5_greatest 3 (some .int) : Cond) ∈ gG := gG_t3 (List.mem_of_getElem? (i := 13) rfl) rfl
theorem mw_3_14 : (.methodLink RX5 70 Lib.Math.max.name : Cond) ∈ gG := gG_t3 (List.mem_of_getElem? (i := 14) rfl) rfl
theorem mw_3_15 : (.methodLink RX9 85 Lib.Math.min.name : Cond) ∈ gG := gG_t3 (List.mem_of_getElem? (i := 15) rfl) rfl
theorem mw_3_16 : (.methodLink RX9 70 yX9_widestAxis : Cond) ∈ gG := gG_t3 (List.mem_of_getElem? (i := 16) rfl) rfl
theorem mw_3_18 : (.instanceMethod yX9_widestAxis : Cond) ∈ gG := gG_t3 (List.mem_of_getElem? (i := 18) rfl) rfl
theorem mw_3_19 : (.code yX9_widestAxis cX9_widestAxis 8 (some .int) : Cond) ∈ gG := gG_t3 (List.mem_of_getElem? (i := 19) rfl) rfl
theorem mw_3_20 : (.methodLink RX9 78 yX9_spreadAlong : Cond) ∈ gG := gG_t3 (List.mem_of_getElem? (i := 20) rfl) rfl
theorem mw_3_22 : (.instanceMethod yX9_spreadAlong : Cond) ∈ gG := gG_t3 (List.mem_of_getElem? (i := 22) rfl) rfl
theorem mw_3_23 : (.code yX9_spreadAlong cX9_spreadAlong 9 (some .int) : Cond) ∈ gG := gG_t3 (List.mem_of_getElem? (i := 23) rfl) rfl
theorem mw_3_24 : (.methodLink RX9 82 yX5_middle : Cond) ∈ gG := gG_t3 (List.mem_of_getElem? (i := 24) rfl) rfl
theorem mw_3_25 : (.instanceMethod yX5_middle : Cond) ∈ gG := gG_t3 (List.mem_of_getElem? (i := 25) rfl) rfl
theorem mw_3_26 : (.selects RX5 yX5_middle yX5_middle : Cond) ∈ gG := gG_t3 (List.mem_of_getElem? (i := 26) rfl) rfl
theorem mw_3_27 : (.code yX5_middle cX5_middle 3 (some .int) : Cond) ∈ gG := gG_t3 (List.mem_of_getElem? (i := 27) rfl) rfl
theorem mw_3_28 : (.methodLink RX9 74 yX9_sortAlong : Cond) ∈ gG := gG_t3 (List.mem_of_getElem? (i := 28) rfl) rfl
theorem mw_3_30 : (.instanceMethod yX9_sortAlong : Cond) ∈ gG := gG_t3 (List.mem_of_getElem? (i := 30) rfl) rfl
theorem mw_3_31 : (.code yX9_sortAlong cX9_sortAlong 8 (none) : Cond) ∈ gG := gG_t3 (List.mem_of_getElem? (i := 31) rfl) rfl
theorem mw_3_32 : (.methodLink RX9 88 yX9_comesBefore : Cond) ∈ gG := gG_t3 (List.mem_of_getElem? (i := 32) rfl) rfl
theorem mw_3_33 : (.static yX9_comesBefore : Cond) ∈ gG := gG_t3 (List.mem_of_getElem? (i := 33) rfl) rfl
theorem mw_3_34 : (.code yX9_comesBefore cX9_comesBefore 5 (some .boolean) : Cond) ∈ gG := gG_t3 (List.mem_of_getElem? (i := 34) rfl) rfl
theorem mw_3_35 : (.methodLink RX11 152 yX9_nodes : Cond) ∈ gG := gG_t3 (List.mem_of_getElem? (i := 35) rfl) rfl
theorem mw_3_36 : (.instanceMethod yX9_nodes : Cond) ∈ gG := gG_t3 (List.mem_of_getElem? (i := 36) rfl) rfl
theorem mw_3_37 : (.selects RX9 yX9_nodes yX9_nodes : Cond) ∈ gG := gG_t3 (List.mem_of_getElem? (i := 37) rfl) rfl
theorem mw_3_38 : (.code yX9_nodes cX9_nodes 1 (some .int) : Cond) ∈ gG := gG_t3 (List.mem_of_getElem? (i := 38) rfl) rfl
theorem mw_3_39 : (.methodLink R_law 58 yX11_refit : Cond) ∈ gG := gG_t3 (List.mem_of_getElem? (i := 39) rfl) rfl
theorem mw_3_40 : (.instanceMethod yX11_refit : Cond) ∈ gG := gG_t3 (List.mem_of_getElem? (i := 40) rfl) rfl
theorem mw_3_41 : (.selects RX11 yX11_refit yX11_refit : Cond) ∈ gG := gG_t3 (List.mem_of_getElem? (i := 41) rfl) rfl
theorem mw_3_42 : (.code yX11_refit cX11_refit 1 (some .int) : Cond) ∈ gG := gG_t3 (List.mem_of_getElem? (i := 42) rfl) rfl
theorem mw_3_43 : (.methodLink RX11 155 yX9_stands : Cond) ∈ gG := gG_t3 (List.mem_of_getElem? (i := 43) rfl) rfl
theorem mw_3_44 : (.instanceMethod yX9_stands : Cond) ∈ gG := gG_t3 (List.mem_of_getElem? (i := 44) rfl) rfl
theorem mw_3_45 : (.selects RX9 yX9_stands yX9_stands : Cond) ∈ gG := gG_t3 (List.mem_of_getElem? (i := 45) rfl) rfl
theorem mw_3_46 : (.code yX9_stands cX9_stands 1 (some .boolean) : Cond) ∈ gG := gG_t3 (List.mem_of_getElem? (i := 46) rfl) rfl
theorem mw_3_47 : (.methodLink RX11 159 yX9_fitBoxes : Cond) ∈ gG := gG_t3 (List.mem_of_getElem? (i := 47) rfl) rfl
theorem mw_3_48 : (.instanceMethod yX9_fitBoxes : Cond) ∈ gG := gG_t3 (List.mem_of_getElem? (i := 48) rfl) rfl
theorem mw_3_49 : (.selects RX9 yX9_fitBoxes yX9_fitBoxes : Cond) ∈ gG := gG_t3 (List.mem_of_getElem? (i := 49) rfl) rfl
theorem mw_3_50 : (.code yX9_fitBoxes cX9_fitBoxes 4 (some .int) : Cond) ∈ gG := gG_t3 (List.mem_of_getElem? (i := 50) rfl) rfl
theorem mw_3_51 : (.methodLink R_law 62 yX11_node : Cond) ∈ gG := gG_t3 (List.mem_of_getElem? (i := 51) rfl) rfl
theorem mw_3_52 : (.instanceMethod yX11_node : Cond) ∈ gG := gG_t3 (List.mem_of_getElem? (i := 52) rfl) rfl
theorem mw_3_53 : (.selects RX11 yX11_node yX11_node : Cond) ∈ gG := gG_t3 (List.mem_of_getElem? (i := 53) rfl) rfl
theorem mw_3_54 : (.code yX11_node cX11_node 3 (some .int) : Cond) ∈ gG := gG_t3 (List.mem_of_getElem? (i := 54) rfl) rfl
theorem mw_3_55 : (.methodLink RX11 163 yX9_hasNode : Cond) ∈ gG := gG_t3 (List.mem_of_getElem? (i := 55) rfl) rfl
theorem mw_3_56 : (.instanceMethod yX9_hasNode : Cond) ∈ gG := gG_t3 (List.mem_of_getElem? (i := 56) rfl) rfl
theorem mw_3_57 : (.selects RX9 yX9_hasNode yX9_hasNode : Cond) ∈ gG := gG_t3 (List.mem_of_getElem? (i := 57) rfl) rfl
theorem mw_3_58 : (.code yX9_hasNode cX9_hasNode 2 (some .boolean) : Cond) ∈ gG := gG_t3 (List.mem_of_getElem? (i := 58) rfl) rfl
theorem mw_3_59 : (.methodLink RX11 166 yX9_describe : Cond) ∈ gG := gG_t3 (List.mem_of_getElem? (i := 59) rfl) rfl
theorem mw_3_60 : (.instanceMethod yX9_describe : Cond) ∈ gG := gG_t3 (List.mem_of_getElem? (i := 60) rfl) rfl
theorem mw_3_61 : (.selects RX9 yX9_describe yX9_describe : Cond) ∈ gG := gG_t3 (List.mem_of_getElem? (i := 61) rfl) rfl
theorem mw_3_62 : (.code yX9_describe cX9_describe 3 (some .int) : Cond) ∈ gG := gG_t3 (List.mem_of_getElem? (i := 62) rfl) rfl
theorem mw_3_63 : (.methodLink R_law 66 yX11_order : Cond) ∈ gG := gG_t3 (List.mem_of_getElem? (i := 63) rfl) rfl
theorem mw_3_64 : (.instanceMethod yX11_order : Cond) ∈ gG := gG_t3 (List.mem_of_getElem? (i := 64) rfl) rfl
theorem mw_3_65 : (.selects RX11 yX11_order yX11_order : Cond) ∈ gG := gG_t3 (List.mem_of_getElem? (i := 65) rfl) rfl
theorem mw_3_66 : (.code yX11_order cX11_order 2 (some .int) : Cond) ∈ gG := gG_t3 (List.mem_of_getElem? (i := 66) rfl) rfl
theorem mw_3_67 : (.methodLink RX11 169 yX9_hasPlace : Cond) ∈ gG := gG_t3 (List.mem_of_getElem? (i := 67) rfl) rfl
theorem mw_3_68 : (.instanceMethod yX9_hasPlace : Cond) ∈ gG := gG_t3 (List.mem_of_getElem? (i := 68) rfl) rfl
theorem mw_3_69 : (.selects RX9 yX9_hasPlace yX9_hasPlace : Cond) ∈ gG := gG_t3 (List.mem_of_getElem? (i := 69) rfl) rfl
theorem mw_3_70 : (.code yX9_hasPlace cX9_hasPlace 2 (some .boolean) : Cond) ∈ gG := gG_t3 (List.mem_of_getElem? (i := 70) rfl) rfl
theorem mw_3_71 : (.methodLink RX9 44 yX9_stands : Cond) ∈ gG := gG_t3 (List.mem_of_getElem? (i := 71) rfl) rfl
theorem mw_3_72 : (.methodLink RX11 172 yX9_triangleAt : Cond) ∈ gG := gG_t3 (List.mem_of_getElem? (i := 72) rfl) rfl
theorem mw_3_73 : (.instanceMethod yX9_triangleAt : Cond) ∈ gG := gG_t3 (List.mem_of_getElem? (i := 73) rfl) rfl
theorem mw_3_74 : (.selects RX9 yX9_triangleAt yX9_triangleAt : Cond) ∈ gG := gG_t3 (List.mem_of_getElem? (i := 74) rfl) rfl
theorem mw_3_75 : (.code yX9_triangleAt cX9_triangleAt 2 (some .int) : Cond) ∈ gG := gG_t3 (List.mem_of_getElem? (i := 75) rfl) rfl
theorem mw_3_76 : (.methodLink R_law 70 yX11_hit : Cond) ∈ gG := gG_t3 (List.mem_of_getElem? (i := 76) rfl) rfl
theorem mw_3_77 : (.instanceMethod yX11_hit : Cond) ∈ gG := gG_t3 (List.mem_of_getElem? (i := 77) rfl) rfl
theorem mw_3_78 : (.selects RX11 yX11_hit yX11_hit : Cond) ∈ gG := gG_t3 (List.mem_of_getElem? (i := 78) rfl) rfl
theorem mw_3_79 : (.code yX11_hit cX11_hit 3 (some .int) : Cond) ∈ gG := gG_t3 (List.mem_of_getElem? (i := 79) rfl) rfl
theorem mw_3_80 : (.methodLink RX11 175 yX1_hasPixel : Cond) ∈ gG := gG_t3 (List.mem_of_getElem? (i := 80) rfl) rfl
theorem mw_3_81 : (.instanceMethod yX1_hasPixel : Cond) ∈ gG := gG_t3 (List.mem_of_getElem? (i := 81) rfl) rfl
theorem mw_3_82 : (.selects RX1 yX1_hasPixel yX1_hasPixel : Cond) ∈ gG := gG_t3 (List.mem_of_getElem? (i := 82) rfl) rfl
theorem mw_3_83 : (.code yX1_hasPixel cX1_hasPixel 3 (some .boolean) : Cond) ∈ gG := gG_t3 (List.mem_of_getElem? (i := 83) rfl) rfl
theorem mw_3_84 : (.methodLink RX11 178 yX11_look : Cond) ∈ gG := gG_t3 (List.mem_of_getElem? (i := 84) rfl) rfl
theorem mw_3_86 : (.instanceMethod yX11_look : Cond) ∈ gG := gG_t3 (List.mem_of_getElem? (i := 86) rfl) rfl
theorem mw_3_87 : (.code yX11_look cX11_look 5 (none) : Cond) ∈ gG := gG_t3 (List.mem_of_getElem? (i := 87) rfl) rfl
theorem mw_3_88 : (.methodLink RX11 195 yX1_aim : Cond) ∈ gG := gG_t3 (List.mem_of_getElem? (i := 88) rfl) rfl
theorem mw_3_89 : (.instanceMethod yX1_aim : Cond) ∈ gG := gG_t3 (List.mem_of_getElem? (i := 89) rfl) rfl
theorem mw_3_90 : (.selects RX1 yX1_aim yX1_aim : Cond) ∈ gG := gG_t3 (List.mem_of_getElem? (i := 90) rfl) rfl
theorem mw_3_91 : (.code yX1_aim cX1_aim 9 (none) : Cond) ∈ gG := gG_t3 (List.mem_of_getElem? (i := 91) rfl) rfl
theorem mw_3_92 : (.methodLink RX11 289 yX3_clear : Cond) ∈ gG := gG_t3 (List.mem_of_getElem? (i := 92) rfl) rfl
theorem mw_3_93 : (.instanceMethod yX3_clear : Cond) ∈ gG := gG_t3 (List.mem_of_getElem? (i := 93) rfl) rfl
theorem mw_3_94 : (.selects RX3 yX3_clear yX3_clear : Cond) ∈ gG := gG_t3 (List.mem_of_getElem? (i := 94) rfl) rfl
theorem mw_3_95 : (.code yX3_clear cX3_clear 1 (none) : Cond) ∈ gG := gG_t3 (List.mem_of_getElem? (i := 95) rfl) rfl
theorem mw_3_96 : (.methodLink RX11 199 yX5_many : Cond) ∈ gG := gG_t3 (List.mem_of_getElem? (i := 96) rfl) rfl
theorem mw_3_97 : (.methodLink RX11 200 yX7_strikes : Cond) ∈ gG := gG_t3 (List.mem_of_getElem? (i := 97) rfl) rfl
theorem mw_3_98 : (.instanceMethod yX7_strikes : Cond) ∈ gG := gG_t3 (List.mem_of_getElem? (i := 98) rfl) rfl
theorem mw_3_99 : (.selects RX7 yX7_strikes yX7_strikes : Cond) ∈ gG := gG_t3 (List.mem_of_getElem? (i := 99) rfl) rfl
theorem mw_3_100 : (.code yX7_strikes cX7_strikes 3 (some .boolean) : Cond) ∈ gG := gG_t3 (List.mem_of_getElem? (i := 100) rfl) rfl
theorem mw_3_101 : (.methodLink RX7 35 yX7_comesToPlane : Cond) ∈ gG := gG_t3 (List.mem_of_getElem? (i := 101) rfl) rfl
theorem mw_3_103 : (.instanceMethod yX7_comesToPlane : Cond) ∈ gG := gG_t3 (List.mem_of_getElem? (i := 103) rfl) rfl
theorem mw_3_104 : (.code yX7_comesToPlane cX7_comesToPlane 5 (some .boolean) : Cond) ∈ gG := gG_t3 (List.mem_of_getElem? (i := 104) rfl) rfl
theorem mw_3_105 : (.methodLink RX7 42 yX5_alongNormal : Cond) ∈ gG := gG_t3 (List.mem_of_getElem? (i := 105) rfl) rfl
theorem mw_3_106 : (.instanceMethod yX5_alongNormal : Cond) ∈ gG := gG_t3 (List.mem_of_getElem? (i := 106) rfl) rfl
theorem mw_3_107 : (.selects RX5 yX5_alongNormal yX5_alongNormal : Cond) ∈ gG := gG_t3 (List.mem_of_getElem? (i := 107) rfl) rfl
theorem mw_3_108 : (.code yX5_alongNormal cX5_alongNormal 8 (some .long) : Cond) ∈ gG := gG_t3 (List.mem_of_getElem? (i := 108) rfl) rfl
theorem mw_3_109 : (.constantLong RX7 48 (-1) : Cond) ∈ gG := gG_t3 (List.mem_of_getElem? (i := 109) rfl) rfl
theorem mw_3_110 : (.methodLink RX7 50 yX5_side : Cond) ∈ gG := gG_t3 (List.mem_of_getElem? (i := 110) rfl) rfl
theorem mw_3_111 : (.instanceMethod yX5_side : Cond) ∈ gG := gG_t3 (List.mem_of_getElem? (i := 111) rfl) rfl
theorem mw_3_112 : (.selects RX5 yX5_side yX5_side : Cond) ∈ gG := gG_t3 (List.mem_of_getElem? (i := 112) rfl) rfl
theorem mw_3_113 : (.code yX5_side cX5_side 8 (some .long) : Cond) ∈ gG := gG_t3 (List.mem_of_getElem? (i := 113) rfl) rfl
theorem mw_3_114 : (.methodLink RX5 58 yX5_alongNormal : Cond) ∈ gG := gG_t3 (List.mem_of_getElem? (i := 114) rfl) rfl
theorem mw_3_115 : (.methodLink RX7 39 yX7_isInside : Cond) ∈ gG := gG_t3 (List.mem_of_getElem? (i := 115) rfl) rfl
theorem mw_3_117 : (.instanceMethod yX7_isInside : Cond) ∈ gG := gG_t3 (List.mem_of_getElem? (i := 117) rfl) rfl
theorem mw_3_118 : (.code yX7_isInside cX7_isInside 15 (some .boolean) : Cond) ∈ gG := gG_t3 (List.mem_of_getElem? (i := 118) rfl) rfl
theorem mw_3_119 : (.methodLink RX7 53 yX5_at : Cond) ∈ gG := gG_t3 (List.mem_of_getElem? (i := 119) rfl) rfl
theorem mw_3_120 : (.methodLink RX7 57 yX5_alongEdge : Cond) ∈ gG := gG_t3 (List.mem_of_getElem? (i := 120) rfl) rfl
theorem mw_3_121 : (.instanceMethod yX5_alongEdge : Cond) ∈ gG := gG_t3 (List.mem_of_getElem? (i := 121) rfl) rfl
theorem mw_3_122 : (.selects RX5 yX5_alongEdge yX5_alongEdge : Cond) ∈ gG := gG_t3 (List.mem_of_getElem? (i := 122) rfl) rfl
theorem mw_3_123 : (.code yX5_alongEdge cX5_alongEdge 11 (some .long) : Cond) ∈ gG := gG_t3 (List.mem_of_getElem? (i := 123) rfl) rfl
theorem mw_3_124 : (.methodLink RX11 290 yX3_isLaterThan : Cond) ∈ gG := gG_t3 (List.mem_of_getElem? (i := 124) rfl) rfl
theorem mw_3_125 : (.instanceMethod yX3_isLaterThan : Cond) ∈ gG := gG_t3 (List.mem_of_getElem? (i := 125) rfl) rfl
theorem mw_3_126 : (.selects RX3 yX3_isLaterThan yX3_isLaterThan : Cond) ∈ gG := gG_t3 (List.mem_of_getElem? (i := 126) rfl) rfl
theorem mw_3_127 : (.code yX3_isLaterThan cX3_isLaterThan 2 (some .boolean) : Cond) ∈ gG := gG_t3 (List.mem_of_getElem? (i := 127) rfl) rfl
theorem mw_3_128 : (.methodLink RX3 25 yX3_isThere : Cond) ∈ gG := gG_t3 (List.mem_of_getElem? (i := 128) rfl) rfl
theorem mw_3_129 : (.instanceMethod yX3_isThere : Cond) ∈ gG := gG_t3 (List.mem_of_getElem? (i := 129) rfl) rfl
theorem mw_3_130 : (.selects RX3 yX3_isThere yX3_isThere : Cond) ∈ gG := gG_t3 (List.mem_of_getElem? (i := 130) rfl) rfl
theorem mw_3_131 : (.code yX3_isThere cX3_isThere 1 (some .boolean) : Cond) ∈ gG := gG_t3 (List.mem_of_getElem? (i := 131) rfl) rfl
theorem mw_3_132 : (.methodLink RX11 294 yX3_take : Cond) ∈ gG := gG_t3 (List.mem_of_getElem? (i := 132) rfl) rfl
theorem mw_3_133 : (.instanceMethod yX3_take : Cond) ∈ gG := gG_t3 (List.mem_of_getElem? (i := 133) rfl) rfl
theorem mw_3_134 : (.selects RX3 yX3_take yX3_take : Cond) ∈ gG := gG_t3 (List.mem_of_getElem? (i := 134) rfl) rfl
theorem mw_3_135 : (.code yX3_take cX3_take 4 (none) : Cond) ∈ gG := gG_t3 (List.mem_of_getElem? (i := 135) rfl) rfl
theorem mw_3_136 : (.methodLink R_law 74 yX11_told : Cond) ∈ gG := gG_t3 (List.mem_of_getElem? (i := 136) rfl) rfl
theorem mw_3_137 : (.instanceMethod yX11_told : Cond) ∈ gG := gG_t3 (List.mem_of_getElem? (i := 137) rfl) rfl
theorem mw_3_138 : (.selects RX11 yX11_told yX11_told : Cond) ∈ gG := gG_t3 (List.mem_of_getElem? (i := 138) rfl) rfl
theorem mw_3_139 : (.code yX11_told cX11_told 2 (some .long) : Cond) ∈ gG := gG_t3 (List.mem_of_getElem? (i := 139) rfl) rfl
theorem mw_3_140 : (.methodLink RX11 185 yX3_isThere : Cond) ∈ gG := gG_t3 (List.mem_of_getElem? (i := 140) rfl) rfl
theorem mw_3_141 : (.methodLink RX11 188 yX3_tell : Cond) ∈ gG := gG_t3 (List.mem_of_getElem? (i := 141) rfl) rfl
theorem mw_3_142 : (.instanceMethod yX3_tell : Cond) ∈ gG := gG_t3 (List.mem_of_getElem? (i := 142) rfl) rfl
theorem mw_3_143 : (.selects RX3 yX3_tell yX3_tell : Cond) ∈ gG := gG_t3 (List.mem_of_getElem? (i := 143) rfl) rfl
theorem mw_3_144 : (.code yX3_tell cX3_tell 2 (some .long) : Cond) ∈ gG := gG_t3 (List.mem_of_getElem? (i := 144) rfl) rfl
theorem mw_3_145 : (.methodLink RX3 53 yX3_inLeastTerms : Cond) ∈ gG := gG_t3 (List.mem_of_getElem? (i := 145) rfl) rfl
theorem mw_3_146 : (.static yX3_inLeastTerms : Cond) ∈ gG := gG_t3 (List.mem_of_getElem? (i := 146) rfl) rfl
theorem mw_3_147 : (.code yX3_inLeastTerms cX3_inLeastTerms 5 (some .long) : Cond) ∈ gG := gG_t3 (List.mem_of_getElem? (i := 147) rfl) rfl
theorem mw_3_148 : (.methodLink RX3 59 Lib.MathLoose.abs_long.x : Cond) ∈ gG := gG_t3 (List.mem_of_getElem? (i := 148) rfl) rfl
theorem mw_3_149 : (.methodLink RX3 65 yX3_commonDivisor : Cond) ∈ gG := gG_t3 (List.mem_of_getElem? (i := 149) rfl) rfl
theorem mw_3_150 : (.static yX3_commonDivisor : Cond) ∈ gG := gG_t3 (List.mem_of_getElem? (i := 150) rfl) rfl
theorem mw_3_151 : (.code yX3_commonDivisor cX3_commonDivisor 11 (some .long) : Cond) ∈ gG := gG_t3 (List.mem_of_getElem? (i := 151) rfl) rfl
theorem mw_3_152 : (.constantLong RX3 57 (-9000000000000000000) : Cond) ∈ gG := gG_t3 (List.mem_of_getElem? (i := 152) rfl) rfl
theorem mw_3_153 : (.constantLong RX11 192 (-9000000000000000000) : Cond) ∈ gG := gG_t3 (List.mem_of_getElem? (i := 153) rfl) rfl
theorem mw_3_154 : (.methodLink R_law 79 yX11_cross : Cond) ∈ gG := gG_t3 (List.mem_of_getElem? (i := 154) rfl) rfl
theorem mw_3_155 : (.instanceMethod yX11_cross : Cond) ∈ gG := gG_t3 (List.mem_of_getElem? (i := 155) rfl) rfl
theorem mw_3_156 : (.selects RX11 yX11_cross yX11_cross : Cond) ∈ gG := gG_t3 (List.mem_of_getElem? (i := 156) rfl) rfl
theorem mw_3_157 : (.code yX11_cross cX11_cross 4 (some .int) : Cond) ∈ gG := gG_t3 (List.mem_of_getElem? (i := 157) rfl) rfl
theorem mw_3_158 : (.methodLink RX11 194 yX2_clear : Cond) ∈ gG := gG_t3 (List.mem_of_getElem? (i := 158) rfl) rfl
theorem mw_3_159 : (.instanceMethod yX2_clear : Cond) ∈ gG := gG_t3 (List.mem_of_getElem? (i := 159) rfl) rfl
theorem mw_3_160 : (.selects RX2 yX2_clear yX2_clear : Cond) ∈ gG := gG_t3 (List.mem_of_getElem? (i := 160) rfl) rfl
theorem mw_3_161 : (.code yX2_clear cX2_clear 1 (none) : Cond) ∈ gG := gG_t3 (List.mem_of_getElem? (i := 161) rfl) rfl
theorem mw_3_162 : (.methodLink RX11 211 yX2_insert : Cond) ∈ gG := gG_t3 (List.mem_of_getElem? (i := 162) rfl) rfl
theorem mw_3_163 : (.instanceMethod yX2_insert : Cond) ∈ gG := gG_t3 (List.mem_of_getElem? (i := 163) rfl) rfl
theorem mw_3_164 : (.selects RX2 yX2_insert yX2_insert : Cond) ∈ gG := gG_t3 (List.mem_of_getElem? (i := 164) rfl) rfl
theorem mw_3_165 : (.code yX2_insert cX2_insert 7 (none) : Cond) ∈ gG := gG_t3 (List.mem_of_getElem? (i := 165) rfl) rfl
theorem mw_3_166 : (.methodLink RX11 215 yX2_many : Cond) ∈ gG := gG_t3 (List.mem_of_getElem? (i := 166) rfl) rfl
theorem mw_3_167 : (.instanceMethod yX2_many : Cond) ∈ gG := gG_t3 (List.mem_of_getElem? (i := 167) rfl) rfl
theorem mw_3_168 : (.selects RX2 yX2_many yX2_many : Cond) ∈ gG := gG_t3 (List.mem_of_getElem? (i := 168) rfl) rfl
theorem mw_3_169 : (.code yX2_many cX2_many 1 (some .int) : Cond) ∈ gG := gG_t3 (List.mem_of_getElem? (i := 169) rfl) rfl
theorem mw_3_170 : (.methodLink R_law 83 yX11_crossing : Cond) ∈ gG := gG_t3 (List.mem_of_getElem? (i := 170) rfl) rfl
theorem mw_3_171 : (.instanceMethod yX11_crossing : Cond) ∈ gG := gG_t3 (List.mem_of_getElem? (i := 171) rfl) rfl
theorem mw_3_172 : (.selects RX11 yX11_crossing yX11_crossing : Cond) ∈ gG := gG_t3 (List.mem_of_getElem? (i := 172) rfl) rfl
theorem mw_3_173 : (.code yX11_crossing cX11_crossing 2 (some .int) : Cond) ∈ gG := gG_t3 (List.mem_of_getElem? (i := 173) rfl) rfl
theorem mw_3_174 : (.methodLink RX11 216 yX2_has : Cond) ∈ gG := gG_t3 (List.mem_of_getElem? (i := 174) rfl) rfl
theorem mw_3_175 : (.instanceMethod yX2_has : Cond) ∈ gG := gG_t3 (List.mem_of_getElem? (i := 175) rfl) rfl
theorem mw_3_176 : (.selects RX2 yX2_has yX2_has : Cond) ∈ gG := gG_t3 (List.mem_of_getElem? (i := 176) rfl) rfl
theorem mw_3_177 : (.code yX2_has cX2_has 2 (some .boolean) : Cond) ∈ gG := gG_t3 (List.mem_of_getElem? (i := 177) rfl) rfl
theorem mw_3_178 : (.methodLink RX11 217 yX2_triangleAt : Cond) ∈ gG := gG_t3 (List.mem_of_getElem? (i := 178) rfl) rfl
theorem mw_3_179 : (.instanceMethod yX2_triangleAt : Cond) ∈ gG := gG_t3 (List.mem_of_getElem? (i := 179) rfl) rfl
theorem mw_3_180 : (.selects RX2 yX2_triangleAt yX2_triangleAt : Cond) ∈ gG := gG_t3 (List.mem_of_getElem? (i := 180) rfl) rfl
theorem mw_3_181 : (.code yX2_triangleAt cX2_triangleAt 2 (some .int) : Cond) ∈ gG := gG_t3 (List.mem_of_getElem? (i := 181) rfl) rfl
theorem mw_3_182 : (.methodLink R_law 87 yX11_meets : Cond) ∈ gG := gG_t3 (List.mem_of_getElem? (i := 182) rfl) rfl
theorem mw_3_183 : (.instanceMethod yX11_meets : Cond) ∈ gG := gG_t3 (List.mem_of_getElem? (i := 183) rfl) rfl
theorem mw_3_184 : (.selects RX11 yX11_meets yX11_meets : Cond) ∈ gG := gG_t3 (List.mem_of_getElem? (i := 184) rfl) rfl
theorem mw_3_185 : (.code yX11_meets cX11_meets 4 (some .int) : Cond) ∈ gG := gG_t3 (List.mem_of_getElem? (i := 185) rfl) rfl
theorem mw_3_186 : (.methodLink RX11 218 yX9_follow : Cond) ∈ gG := gG_t3 (List.mem_of_getElem? (i := 186) rfl) rfl
theorem mw_3_187 : (.instanceMethod yX9_follow : Cond) ∈ gG := gG_t3 (List.mem_of_getElem? (i := 187) rfl) rfl
theorem mw_3_188 : (.selects RX9 yX9_follow yX9_follow : Cond) ∈ gG := gG_t3 (List.mem_of_getElem? (i := 188) rfl) rfl
theorem mw_3_189 : (.code yX9_follow cX9_follow 5 (none) : Cond) ∈ gG := gG_t3 (List.mem_of_getElem? (i := 189) rfl) rfl
theorem mw_3_190 : (.methodLink RX9 104 yX9_reachesBox : Cond) ∈ gG := gG_t3 (List.mem_of_getElem? (i := 190) rfl) rfl
theorem mw_3_192 : (.instanceMethod yX9_reachesBox : Cond) ∈ gG := gG_t3 (List.mem_of_getElem? (i := 192) rfl) rfl
theorem mw_3_193 : (.code yX9_reachesBox cX9_reachesBox 24 (some .boolean) : Cond) ∈ gG := gG_t3 (List.mem_of_getElem? (i := 193) rfl) rfl
theorem mw_3_194 : (.methodLink RX9 111 Lib.MathLoose.abs_long.x : Cond) ∈ gG := gG_t3 (List.mem_of_getElem? (i := 194) rfl) rfl
theorem mw_3_195 : (.methodLink RX11 222 yX9_metNodes : Cond) ∈ gG := gG_t3 (List.mem_of_getElem? (i := 195) rfl) rfl
theorem mw_3_196 : (.instanceMethod yX9_metNodes : Cond) ∈ gG := gG_t3 (List.mem_of_getElem? (i := 196) rfl) rfl
theorem mw_3_197 : (.selects RX9 yX9_metNodes yX9_metNodes : Cond) ∈ gG := gG_t3 (List.mem_of_getElem? (i := 197) rfl) rfl
theorem mw_3_198 : (.code yX9_metNodes cX9_metNodes 3 (some .int) : Cond) ∈ gG := gG_t3 (List.mem_of_getElem? (i := 198) rfl) rfl
theorem mw_3_199 : (.methodLink RX11 225 yX9_metTriangles : Cond) ∈ gG := gG_t3 (List.mem_of_getElem? (i := 199) rfl) rfl
theorem mw_3_200 : (.instanceMethod yX9_metTriangles : Cond) ∈ gG := gG_t3 (List.mem_of_getElem? (i := 200) rfl) rfl
theorem mw_3_201 : (.selects RX9 yX9_metTriangles yX9_metTriangles : Cond) ∈ gG := gG_t3 (List.mem_of_getElem? (i := 201) rfl) rfl
theorem mw_3_202 : (.code yX9_metTriangles cX9_metTriangles 3 (some .int) : Cond) ∈ gG := gG_t3 (List.mem_of_getElem? (i := 202) rfl) rfl
theorem mw_3_203 : (.methodLink R_law 91 yX11_lit : Cond) ∈ gG := gG_t3 (List.mem_of_getElem? (i := 203) rfl) rfl
theorem mw_3_204 : (.instanceMethod yX11_lit : Cond) ∈ gG := gG_t3 (List.mem_of_getElem? (i := 204) rfl) rfl
theorem mw_3_205 : (.selects RX11 yX11_lit yX11_lit : Cond) ∈ gG := gG_t3 (List.mem_of_getElem? (i := 205) rfl) rfl
theorem mw_3_206 : (.code yX11_lit cX11_lit 4 (some .int) : Cond) ∈ gG := gG_t3 (List.mem_of_getElem? (i := 206) rfl) rfl
theorem mw_3_207 : (.methodLink RX11 228 yX11_levelOf : Cond) ∈ gG := gG_t3 (List.mem_of_getElem? (i := 207) rfl) rfl
theorem mw_3_209 : (.instanceMethod yX11_levelOf : Cond) ∈ gG := gG_t3 (List.mem_of_getElem? (i := 209) rfl) rfl
theorem mw_3_210 : (.code yX11_levelOf cX11_levelOf 5 (some .int) : Cond) ∈ gG := gG_t3 (List.mem_of_getElem? (i := 210) rfl) rfl
theorem mw_3_211 : (.methodLink RX11 232 yX11_isOnEyeSide : Cond) ∈ gG := gG_t3 (List.mem_of_getElem? (i := 211) rfl) rfl
theorem mw_3_213 : (.instanceMethod yX11_isOnEyeSide : Cond) ∈ gG := gG_t3 (List.mem_of_getElem? (i := 213) rfl) rfl
theorem mw_3_214 : (.code yX11_isOnEyeSide cX11_isOnEyeSide 4 (some .boolean) : Cond) ∈ gG := gG_t3 (List.mem_of_getElem? (i := 214) rfl) rfl
theorem mw_3_215 : (.methodLink RX11 267 yX11_eyeSide : Cond) ∈ gG := gG_t3 (List.mem_of_getElem? (i := 215) rfl) rfl
theorem mw_3_217 : (.instanceMethod yX11_eyeSide : Cond) ∈ gG := gG_t3 (List.mem_of_getElem? (i := 217) rfl) rfl
theorem mw_3_218 : (.code yX11_eyeSide cX11_eyeSide 2 (some .long) : Cond) ∈ gG := gG_t3 (List.mem_of_getElem? (i := 218) rfl) rfl
theorem mw_3_219 : (.methodLink RX11 302 yX5_side : Cond) ∈ gG := gG_t3 (List.mem_of_getElem? (i := 219) rfl) rfl
theorem mw_3_220 : (.methodLink RX11 270 yX11_sign : Cond) ∈ gG := gG_t3 (List.mem_of_getElem? (i := 220) rfl) rfl
theorem mw_3_221 : (.static yX11_sign : Cond) ∈ gG := gG_t3 (List.mem_of_getElem? (i := 221) rfl) rfl
theorem mw_3_222 : (.code yX11_sign cX11_sign 2 (some .int) : Cond) ∈ gG := gG_t3 (List.mem_of_getElem? (i := 222) rfl) rfl
theorem mw_3_223 : (.methodLink RX11 309 yX11_lampSide : Cond) ∈ gG := gG_t3 (List.mem_of_getElem? (i := 223) rfl) rfl
theorem mw_3_225 : (.instanceMethod yX11_lampSide : Cond) ∈ gG := gG_t3 (List.mem_of_getElem? (i := 225) rfl) rfl
theorem mw_3_226 : (.code yX11_lampSide cX11_lampSide 3 (some .long) : Cond) ∈ gG := gG_t3 (List.mem_of_getElem? (i := 226) rfl) rfl
theorem mw_3_227 : (.methodLink RX11 306 yX4_at : Cond) ∈ gG := gG_t3 (List.mem_of_getElem? (i := 227) rfl) rfl
theorem mw_3_228 : (.instanceMethod yX4_at : Cond) ∈ gG := gG_t3 (List.mem_of_getElem? (i := 228) rfl) rfl
theorem mw_3_229 : (.selects RX4 yX4_at yX4_at : Cond) ∈ gG := gG_t3 (List.mem_of_getElem? (i := 229) rfl) rfl
theorem mw_3_230 : (.code yX4_at cX4_at 3 (some .int) : Cond) ∈ gG := gG_t3 (List.mem_of_getElem? (i := 230) rfl) rfl
theorem mw_3_231 : (.methodLink RX11 236 yX4_aim : Cond) ∈ gG := gG_t3 (List.mem_of_getElem? (i := 231) rfl) rfl
theorem mw_3_232 : (.instanceMethod yX4_aim : Cond) ∈ gG := gG_t3 (List.mem_of_getElem? (i := 232) rfl) rfl
theorem mw_3_233 : (.selects RX4 yX4_aim yX4_aim : Cond) ∈ gG := gG_t3 (List.mem_of_getElem? (i := 233) rfl) rfl
theorem mw_3_234 : (.code yX4_aim cX4_aim 7 (none) : Cond) ∈ gG := gG_t3 (List.mem_of_getElem? (i := 234) rfl) rfl
theorem mw_3_235 : (.methodLink RX4 31 yX4_at : Cond) ∈ gG := gG_t3 (List.mem_of_getElem? (i := 235) rfl) rfl
theorem mw_3_236 : (.methodLink RX4 46 yX3_over : Cond) ∈ gG := gG_t3 (List.mem_of_getElem? (i := 236) rfl) rfl
theorem mw_3_237 : (.instanceMethod yX3_over : Cond) ∈ gG := gG_t3 (List.mem_of_getElem? (i := 237) rfl) rfl
theorem mw_3_238 : (.selects RX3 yX3_over yX3_over : Cond) ∈ gG := gG_t3 (List.mem_of_getElem? (i := 238) rfl) rfl
theorem mw_3_239 : (.code yX3_over cX3_over 1 (some .long) : Cond) ∈ gG := gG_t3 (List.mem_of_getElem? (i := 239) rfl) rfl
theorem mw_4_0 : (.methodLink RX11 239 yX11_blocker : Cond) ∈ gG := gG_t4 (List.mem_of_getElem? (i := 0) rfl) rfl
theorem mw_4_2 : (.instanceMethod yX11_blocker : Cond) ∈ gG := gG_t4 (List.mem_of_getElem? (i := 2) rfl) rfl
theorem mw_4_3 : (.code yX11_blocker cX11_blocker 3 (some .int) : Cond) ∈ gG := gG_t4 (List.mem_of_getElem? (i := 3) rfl) rfl
theorem mw_4_4 : (.methodLink RX11 317 yX3_over : Cond) ∈ gG := gG_t4 (List.mem_of_getElem? (i := 4) rfl) rfl
theorem mw_4_5 : (.methodLink RX11 313 Lib.MathLoose.abs_long.x : Cond) ∈ gG := gG_t4 (List.mem_of_getElem? (i := 5) rfl) rfl
theorem mw_4_6 : (.methodLink RX11 320 yX5_normalSquare : Cond) ∈ gG := gG_t4 (List.mem_of_getElem? (i := 6) rfl) rfl
theorem mw_4_7 : (.instanceMethod yX5_normalSquare : Cond) ∈ gG := gG_t4 (List.mem_of_getElem? (i := 7) rfl) rfl
theorem mw_4_8 : (.selects RX5 yX5_normalSquare yX5_normalSquare : Cond) ∈ gG := gG_t4 (List.mem_of_getElem? (i := 8) rfl) rfl
theorem mw_4_9 : (.code yX5_normalSquare cX5_normalSquare 2 (some .long) : Cond) ∈ gG := gG_t4 (List.mem_of_getElem? (i := 9) rfl) rfl
theorem mw_4_10 : (.methodLink RX5 62 yX5_normal : Cond) ∈ gG := gG_t4 (List.mem_of_getElem? (i := 10) rfl) rfl
theorem mw_4_11 : (.instanceMethod yX5_normal : Cond) ∈ gG := gG_t4 (List.mem_of_getElem? (i := 11) rfl) rfl
theorem mw_4_12 : (.selects RX5 yX5_normal yX5_normal : Cond) ∈ gG := gG_t4 (List.mem_of_getElem? (i := 12) rfl) rfl
theorem mw_4_13 : (.code yX5_normal cX5_normal 3 (some .int) : Cond) ∈ gG := gG_t4 (List.mem_of_getElem? (i := 13) rfl) rfl
theorem mw_4_14 : (.methodLink RX11 327 yX8_level : Cond) ∈ gG := gG_t4 (List.mem_of_getElem? (i := 14) rfl) rfl
theorem mw_4_15 : (.instanceMethod yX8_level : Cond) ∈ gG := gG_t4 (List.mem_of_getElem? (i := 15) rfl) rfl
theorem mw_4_16 : (.selects RX8 yX8_level yX8_level : Cond) ∈ gG := gG_t4 (List.mem_of_getElem? (i := 16) rfl) rfl
theorem mw_4_17 : (.code yX8_level cX8_level 7 (some .int) : Cond) ∈ gG := gG_t4 (List.mem_of_getElem? (i := 17) rfl) rfl
theorem mw_4_18 : (.constantLong RX8 33 (15) : Cond) ∈ gG := gG_t4 (List.mem_of_getElem? (i := 18) rfl) rfl
theorem mw_4_19 : (.methodLink RX8 35 yX10_put : Cond) ∈ gG := gG_t4 (List.mem_of_getElem? (i := 19) rfl) rfl
theorem mw_4_20 : (.instanceMethod yX10_put : Cond) ∈ gG := gG_t4 (List.mem_of_getElem? (i := 20) rfl) rfl
theorem mw_4_21 : (.selects RX10 yX10_put yX10_put : Cond) ∈ gG := gG_t4 (List.mem_of_getElem? (i := 21) rfl) rfl
theorem mw_4_22 : (.code yX10_put cX10_put 6 (none) : Cond) ∈ gG := gG_t4 (List.mem_of_getElem? (i := 22) rfl) rfl
theorem mw_4_23 : (.constantLong RX10 13 (1073741823) : Cond) ∈ gG := gG_t4 (List.mem_of_getElem? (i := 23) rfl) rfl
theorem mw_4_24 : (.methodLink RX8 39 yX10_putProduct : Cond) ∈ gG := gG_t4 (List.mem_of_getElem? (i := 24) rfl) rfl
theorem mw_4_25 : (.instanceMethod yX10_putProduct : Cond) ∈ gG := gG_t4 (List.mem_of_getElem? (i := 25) rfl) rfl
theorem mw_4_26 : (.selects RX10 yX10_putProduct yX10_putProduct : Cond) ∈ gG := gG_t4 (List.mem_of_getElem? (i := 26) rfl) rfl
theorem mw_4_27 : (.code yX10_putProduct cX10_putProduct 7 (none) : Cond) ∈ gG := gG_t4 (List.mem_of_getElem? (i := 27) rfl) rfl
theorem mw_4_28 : (.methodLink RX8 43 Lib.MathLoose.abs_long.x : Cond) ∈ gG := gG_t4 (List.mem_of_getElem? (i := 28) rfl) rfl
theorem mw_4_29 : (.methodLink RX8 49 yX10_add : Cond) ∈ gG := gG_t4 (List.mem_of_getElem? (i := 29) rfl) rfl
theorem mw_4_30 : (.instanceMethod yX10_add : Cond) ∈ gG := gG_t4 (List.mem_of_getElem? (i := 30) rfl) rfl
theorem mw_4_31 : (.selects RX10 yX10_add yX10_add : Cond) ∈ gG := gG_t4 (List.mem_of_getElem? (i := 31) rfl) rfl
theorem mw_4_32 : (.code yX10_add cX10_add 5 (none) : Cond) ∈ gG := gG_t4 (List.mem_of_getElem? (i := 32) rfl) rfl
theorem mw_4_33 : (.methodLink RX8 53 yX10_isAtLeast : Cond) ∈ gG := gG_t4 (List.mem_of_getElem? (i := 33) rfl) rfl
theorem mw_4_34 : (.instanceMethod yX10_isAtLeast : Cond) ∈ gG := gG_t4 (List.mem_of_getElem? (i := 34) rfl) rfl
theorem mw_4_35 : (.selects RX10 yX10_isAtLeast yX10_isAtLeast : Cond) ∈ gG := gG_t4 (List.mem_of_getElem? (i := 35) rfl) rfl
theorem mw_4_36 : (.code yX10_isAtLeast cX10_isAtLeast 3 (some .boolean) : Cond) ∈ gG := gG_t4 (List.mem_of_getElem? (i := 36) rfl) rfl
theorem mw_4_37 : (.methodLink R_law 95 yX11_shadow : Cond) ∈ gG := gG_t4 (List.mem_of_getElem? (i := 37) rfl) rfl
theorem mw_4_38 : (.instanceMethod yX11_shadow : Cond) ∈ gG := gG_t4 (List.mem_of_getElem? (i := 38) rfl) rfl
theorem mw_4_39 : (.selects RX11 yX11_shadow yX11_shadow : Cond) ∈ gG := gG_t4 (List.mem_of_getElem? (i := 39) rfl) rfl
theorem mw_4_40 : (.code yX11_shadow cX11_shadow 4 (some .int) : Cond) ∈ gG := gG_t4 (List.mem_of_getElem? (i := 40) rfl) rfl
theorem mw_4_41 : (.methodLink R_law 99 yX11_pixel : Cond) ∈ gG := gG_t4 (List.mem_of_getElem? (i := 41) rfl) rfl
theorem mw_4_42 : (.instanceMethod yX11_pixel : Cond) ∈ gG := gG_t4 (List.mem_of_getElem? (i := 42) rfl) rfl
theorem mw_4_43 : (.selects RX11 yX11_pixel yX11_pixel : Cond) ∈ gG := gG_t4 (List.mem_of_getElem? (i := 43) rfl) rfl
theorem mw_4_44 : (.code yX11_pixel cX11_pixel 3 (some .int) : Cond) ∈ gG := gG_t4 (List.mem_of_getElem? (i := 44) rfl) rfl
theorem mw_4_45 : (.methodLink RX11 243 yX11_colour : Cond) ∈ gG := gG_t4 (List.mem_of_getElem? (i := 45) rfl) rfl
theorem mw_4_47 : (.instanceMethod yX11_colour : Cond) ∈ gG := gG_t4 (List.mem_of_getElem? (i := 47) rfl) rfl
theorem mw_4_48 : (.code yX11_colour cX11_colour 5 (some .int) : Cond) ∈ gG := gG_t4 (List.mem_of_getElem? (i := 48) rfl) rfl
theorem mw_4_49 : (.methodLink RX11 331 yX4_ambient : Cond) ∈ gG := gG_t4 (List.mem_of_getElem? (i := 49) rfl) rfl
theorem mw_4_50 : (.instanceMethod yX4_ambient : Cond) ∈ gG := gG_t4 (List.mem_of_getElem? (i := 50) rfl) rfl
theorem mw_4_51 : (.selects RX4 yX4_ambient yX4_ambient : Cond) ∈ gG := gG_t4 (List.mem_of_getElem? (i := 51) rfl) rfl
theorem mw_4_52 : (.code yX4_ambient cX4_ambient 1 (some .int) : Cond) ∈ gG := gG_t4 (List.mem_of_getElem? (i := 52) rfl) rfl
theorem mw_4_53 : (.methodLink RX11 334 yX4_strength : Cond) ∈ gG := gG_t4 (List.mem_of_getElem? (i := 53) rfl) rfl
theorem mw_4_54 : (.instanceMethod yX4_strength : Cond) ∈ gG := gG_t4 (List.mem_of_getElem? (i := 54) rfl) rfl
theorem mw_4_55 : (.selects RX4 yX4_strength yX4_strength : Cond) ∈ gG := gG_t4 (List.mem_of_getElem? (i := 55) rfl) rfl
theorem mw_4_56 : (.code yX4_strength cX4_strength 2 (some .int) : Cond) ∈ gG := gG_t4 (List.mem_of_getElem? (i := 56) rfl) rfl
theorem mw_4_57 : (.methodLink RX11 337 yX4_share : Cond) ∈ gG := gG_t4 (List.mem_of_getElem? (i := 57) rfl) rfl
theorem mw_4_58 : (.instanceMethod yX4_share : Cond) ∈ gG := gG_t4 (List.mem_of_getElem? (i := 58) rfl) rfl
theorem mw_4_59 : (.selects RX4 yX4_share yX4_share : Cond) ∈ gG := gG_t4 (List.mem_of_getElem? (i := 59) rfl) rfl
theorem mw_4_60 : (.code yX4_share cX4_share 3 (some .int) : Cond) ∈ gG := gG_t4 (List.mem_of_getElem? (i := 60) rfl) rfl
theorem mw_4_61 : (.methodLink RX11 340 yX5_tone : Cond) ∈ gG := gG_t4 (List.mem_of_getElem? (i := 61) rfl) rfl
theorem mw_4_62 : (.instanceMethod yX5_tone : Cond) ∈ gG := gG_t4 (List.mem_of_getElem? (i := 62) rfl) rfl
theorem mw_4_63 : (.selects RX5 yX5_tone yX5_tone : Cond) ∈ gG := gG_t4 (List.mem_of_getElem? (i := 63) rfl) rfl
theorem mw_4_64 : (.code yX5_tone cX5_tone 2 (some .int) : Cond) ∈ gG := gG_t4 (List.mem_of_getElem? (i := 64) rfl) rfl
theorem mw_4_65 : (.methodLink RX11 343 Lib.Math.min.name : Cond) ∈ gG := gG_t4 (List.mem_of_getElem? (i := 65) rfl) rfl
theorem mw_4_66 : (.methodLink R_law 103 yX11_picture : Cond) ∈ gG := gG_t4 (List.mem_of_getElem? (i := 66) rfl) rfl
theorem mw_4_67 : (.instanceMethod yX11_picture : Cond) ∈ gG := gG_t4 (List.mem_of_getElem? (i := 67) rfl) rfl
theorem mw_4_68 : (.selects RX11 yX11_picture yX11_picture : Cond) ∈ gG := gG_t4 (List.mem_of_getElem? (i := 68) rfl) rfl
theorem mw_4_69 : (.code yX11_picture cX11_picture 12 (some .int) : Cond) ∈ gG := gG_t4 (List.mem_of_getElem? (i := 69) rfl) rfl
theorem mw_4_70 : (.methodLink RX11 249 Lib.MathLoose.min_long.x : Cond) ∈ gG := gG_t4 (List.mem_of_getElem? (i := 70) rfl) rfl
theorem mw_4_71 : (.static Lib.MathLoose.min_long.x : Cond) ∈ gG := gG_t4 (List.mem_of_getElem? (i := 71) rfl) rfl
theorem mw_4_72 : (.code Lib.MathLoose.min_long.x Lib.MathLoose.min_long.code 4 (some .long) : Cond) ∈ gG := gG_t4 (List.mem_of_getElem? (i := 72) rfl) rfl
theorem mw_4_73 : (.methodLink RX11 258 Lib.Math.max.name : Cond) ∈ gG := gG_t4 (List.mem_of_getElem? (i := 73) rfl) rfl
theorem mw_4_74 : (.methodLink R_law 107 yX11_seen : Cond) ∈ gG := gG_t4 (List.mem_of_getElem? (i := 74) rfl) rfl
theorem mw_4_75 : (.instanceMethod yX11_seen : Cond) ∈ gG := gG_t4 (List.mem_of_getElem? (i := 75) rfl) rfl
theorem mw_4_76 : (.selects RX11 yX11_seen yX11_seen : Cond) ∈ gG := gG_t4 (List.mem_of_getElem? (i := 76) rfl) rfl
theorem mw_4_77 : (.code yX11_seen cX11_seen 4 (some .int) : Cond) ∈ gG := gG_t4 (List.mem_of_getElem? (i := 77) rfl) rfl
theorem mw_4_78 : (.methodLink RX11 261 yX11_unmarkAll : Cond) ∈ gG := gG_t4 (List.mem_of_getElem? (i := 78) rfl) rfl
theorem mw_4_80 : (.instanceMethod yX11_unmarkAll : Cond) ∈ gG := gG_t4 (List.mem_of_getElem? (i := 80) rfl) rfl
theorem mw_4_81 : (.code yX11_unmarkAll cX11_unmarkAll 2 (none) : Cond) ∈ gG := gG_t4 (List.mem_of_getElem? (i := 81) rfl) rfl
theorem mw_4_82 : (.methodLink RX11 264 yX11_pickMarked : Cond) ∈ gG := gG_t4 (List.mem_of_getElem? (i := 82) rfl) rfl
theorem mw_4_84 : (.instanceMethod yX11_pickMarked : Cond) ∈ gG := gG_t4 (List.mem_of_getElem? (i := 84) rfl) rfl
theorem mw_4_85 : (.code yX11_pickMarked cX11_pickMarked 4 (some .int) : Cond) ∈ gG := gG_t4 (List.mem_of_getElem? (i := 85) rfl) rfl
theorem mw_4_86 : (.methodLink R_law 111 yX11_facing : Cond) ∈ gG := gG_t4 (List.mem_of_getElem? (i := 86) rfl) rfl
theorem mw_4_87 : (.instanceMethod yX11_facing : Cond) ∈ gG := gG_t4 (List.mem_of_getElem? (i := 87) rfl) rfl
theorem mw_4_88 : (.selects RX11 yX11_facing yX11_facing : Cond) ∈ gG := gG_t4 (List.mem_of_getElem? (i := 88) rfl) rfl
theorem mw_4_89 : (.code yX11_facing cX11_facing 2 (some .int) : Cond) ∈ gG := gG_t4 (List.mem_of_getElem? (i := 89) rfl) rfl
theorem mw_4_90 : (.methodLink R_law 115 yX11_touched : Cond) ∈ gG := gG_t4 (List.mem_of_getElem? (i := 90) rfl) rfl
theorem mw_4_91 : (.instanceMethod yX11_touched : Cond) ∈ gG := gG_t4 (List.mem_of_getElem? (i := 91) rfl) rfl
theorem mw_4_92 : (.selects RX11 yX11_touched yX11_touched : Cond) ∈ gG := gG_t4 (List.mem_of_getElem? (i := 92) rfl) rfl
theorem mw_4_93 : (.code yX11_touched cX11_touched 3 (some .int) : Cond) ∈ gG := gG_t4 (List.mem_of_getElem? (i := 93) rfl) rfl
theorem mw_4_94 : (.methodLink RX11 274 yX0_span : Cond) ∈ gG := gG_t4 (List.mem_of_getElem? (i := 94) rfl) rfl
theorem mw_4_95 : (.instanceMethod yX0_span : Cond) ∈ gG := gG_t4 (List.mem_of_getElem? (i := 95) rfl) rfl
theorem mw_4_96 : (.selects RX0 yX0_span yX0_span : Cond) ∈ gG := gG_t4 (List.mem_of_getElem? (i := 96) rfl) rfl
theorem mw_4_97 : (.code yX0_span cX0_span 3 (none) : Cond) ∈ gG := gG_t4 (List.mem_of_getElem? (i := 97) rfl) rfl
theorem mw_4_98 : (.methodLink RX0 16 yX6_at : Cond) ∈ gG := gG_t4 (List.mem_of_getElem? (i := 98) rfl) rfl
theorem mw_4_99 : (.methodLink RX0 22 Lib.Math.abs.name : Cond) ∈ gG := gG_t4 (List.mem_of_getElem? (i := 99) rfl) rfl
theorem mw_4_100 : (.static Lib.Math.abs.name : Cond) ∈ gG := gG_t4 (List.mem_of_getElem? (i := 100) rfl) rfl
theorem mw_4_101 : (.code Lib.Math.abs.name Lib.Math.abs.code 1 (some .int) : Cond) ∈ gG := gG_t4 (List.mem_of_getElem? (i := 101) rfl) rfl
theorem mw_4_102 : (.methodLink RX11 277 yX0_touches : Cond) ∈ gG := gG_t4 (List.mem_of_getElem? (i := 102) rfl) rfl
theorem mw_4_103 : (.instanceMethod yX0_touches : Cond) ∈ gG := gG_t4 (List.mem_of_getElem? (i := 103) rfl) rfl
theorem mw_4_104 : (.selects RX0 yX0_touches yX0_touches : Cond) ∈ gG := gG_t4 (List.mem_of_getElem? (i := 104) rfl) rfl
theorem mw_4_105 : (.code yX0_touches cX0_touches 12 (some .boolean) : Cond) ∈ gG := gG_t4 (List.mem_of_getElem? (i := 105) rfl) rfl
theorem mw_4_106 : (.methodLink RX0 28 yX0_isPartedAlong : Cond) ∈ gG := gG_t4 (List.mem_of_getElem? (i := 106) rfl) rfl
theorem mw_4_108 : (.instanceMethod yX0_isPartedAlong : Cond) ∈ gG := gG_t4 (List.mem_of_getElem? (i := 108) rfl) rfl
theorem mw_4_109 : (.code yX0_isPartedAlong cX0_isPartedAlong 16 (some .boolean) : Cond) ∈ gG := gG_t4 (List.mem_of_getElem? (i := 109) rfl) rfl
theorem mw_4_110 : (.methodLink RX0 40 Lib.MathLoose.abs_long.x : Cond) ∈ gG := gG_t4 (List.mem_of_getElem? (i := 110) rfl) rfl
theorem mw_4_111 : (.methodLink RX0 37 yX5_at : Cond) ∈ gG := gG_t4 (List.mem_of_getElem? (i := 111) rfl) rfl
theorem mw_4_112 : (.methodLink RX0 32 yX5_normal : Cond) ∈ gG := gG_t4 (List.mem_of_getElem? (i := 112) rfl) rfl
theorem mw_4_113 : (.methodLink R_law 119 yX11_shared : Cond) ∈ gG := gG_t4 (List.mem_of_getElem? (i := 113) rfl) rfl
theorem mw_4_114 : (.instanceMethod yX11_shared : Cond) ∈ gG := gG_t4 (List.mem_of_getElem? (i := 114) rfl) rfl
theorem mw_4_115 : (.selects RX11 yX11_shared yX11_shared : Cond) ∈ gG := gG_t4 (List.mem_of_getElem? (i := 115) rfl) rfl
theorem mw_4_116 : (.code yX11_shared cX11_shared 3 (some .int) : Cond) ∈ gG := gG_t4 (List.mem_of_getElem? (i := 116) rfl) rfl
theorem mw_4_117 : (.methodLink RX11 280 yX5_commonCorners : Cond) ∈ gG := gG_t4 (List.mem_of_getElem? (i := 117) rfl) rfl
theorem mw_4_118 : (.instanceMethod yX5_commonCorners : Cond) ∈ gG := gG_t4 (List.mem_of_getElem? (i := 118) rfl) rfl
theorem mw_4_119 : (.selects RX5 yX5_commonCorners yX5_commonCorners : Cond) ∈ gG := gG_t4 (List.mem_of_getElem? (i := 119) rfl) rfl
theorem mw_4_120 : (.code yX5_commonCorners cX5_commonCorners 6 (some .int) : Cond) ∈ gG := gG_t4 (List.mem_of_getElem? (i := 120) rfl) rfl
theorem mw_4_121 : (.methodLink RX5 73 yX5_isSamePlace : Cond) ∈ gG := gG_t4 (List.mem_of_getElem? (i := 121) rfl) rfl
theorem mw_4_123 : (.instanceMethod yX5_isSamePlace : Cond) ∈ gG := gG_t4 (List.mem_of_getElem? (i := 123) rfl) rfl
theorem mw_4_124 : (.code yX5_isSamePlace cX5_isSamePlace 5 (some .boolean) : Cond) ∈ gG := gG_t4 (List.mem_of_getElem? (i := 124) rfl) rfl
theorem mw_4_125 : (.methodLink R_law 123 yX11_count : Cond) ∈ gG := gG_t4 (List.mem_of_getElem? (i := 125) rfl) rfl
theorem mw_4_126 : (.instanceMethod yX11_count : Cond) ∈ gG := gG_t4 (List.mem_of_getElem? (i := 126) rfl) rfl
theorem mw_4_127 : (.selects RX11 yX11_count yX11_count : Cond) ∈ gG := gG_t4 (List.mem_of_getElem? (i := 127) rfl) rfl
theorem mw_4_128 : (.code yX11_count cX11_count 2 (some .int) : Cond) ∈ gG := gG_t4 (List.mem_of_getElem? (i := 128) rfl) rfl
theorem mw_4_129 : (.methodLink RX11 283 yX4_burning : Cond) ∈ gG := gG_t4 (List.mem_of_getElem? (i := 129) rfl) rfl
theorem mw_4_130 : (.instanceMethod yX4_burning : Cond) ∈ gG := gG_t4 (List.mem_of_getElem? (i := 130) rfl) rfl
theorem mw_4_131 : (.selects RX4 yX4_burning yX4_burning : Cond) ∈ gG := gG_t4 (List.mem_of_getElem? (i := 131) rfl) rfl
theorem mw_4_132 : (.code yX4_burning cX4_burning 3 (some .int) : Cond) ∈ gG := gG_t4 (List.mem_of_getElem? (i := 132) rfl) rfl
theorem mw_4_133 : (.methodLink RX11 286 yX9_deepest : Cond) ∈ gG := gG_t4 (List.mem_of_getElem? (i := 133) rfl) rfl
theorem mw_4_134 : (.instanceMethod yX9_deepest : Cond) ∈ gG := gG_t4 (List.mem_of_getElem? (i := 134) rfl) rfl
theorem mw_4_135 : (.selects RX9 yX9_deepest yX9_deepest : Cond) ∈ gG := gG_t4 (List.mem_of_getElem? (i := 135) rfl) rfl
theorem mw_4_136 : (.code yX9_deepest cX9_deepest 1 (some .int) : Cond) ∈ gG := gG_t4 (List.mem_of_getElem? (i := 136) rfl) rfl
theorem mw_4_137 : (.classLink R_law 10 RX12 : Cond) ∈ gG := gG_t4 (List.mem_of_getElem? (i := 137) rfl) rfl
theorem mw_4_138 : (.instantiable RX12 54 : Cond) ∈ gG := gG_t4 (List.mem_of_getElem? (i := 138) rfl) rfl
theorem mw_4_139 : (.methodLink R_law 12 yX12_init : Cond) ∈ gG := gG_t4 (List.mem_of_getElem? (i := 139) rfl) rfl
theorem mw_4_140 : (.instanceMethod yX12_init : Cond) ∈ gG := gG_t4 (List.mem_of_getElem? (i := 140) rfl) rfl
theorem mw_4_141 : (.code yX12_init cX12_init 2 (none) : Cond) ∈ gG := gG_t4 (List.mem_of_getElem? (i := 141) rfl) rfl
theorem mw_4_142 : (.methodLink RX12 1 objectInit : Cond) ∈ gG := gG_t4 (List.mem_of_getElem? (i := 142) rfl) rfl
theorem mw_4_143 : (.fieldLink RX12 148 "RayRoomModel" "points" "I" : Cond) ∈ gG := gG_t4 (List.mem_of_getElem? (i := 143) rfl) rfl
theorem mw_4_144 : (.fieldLink RX12 7 "RayRoomModel" "point" "[I" : Cond) ∈ gG := gG_t4 (List.mem_of_getElem? (i := 144) rfl) rfl
theorem mw_4_145 : (.fieldLink RX12 151 "RayRoomModel" "triangles" "I" : Cond) ∈ gG := gG_t4 (List.mem_of_getElem? (i := 145) rfl) rfl
theorem mw_4_146 : (.fieldLink RX12 13 "RayRoomModel" "corner" "[I" : Cond) ∈ gG := gG_t4 (List.mem_of_getElem? (i := 146) rfl) rfl
theorem mw_4_147 : (.fieldLink RX12 16 "RayRoomModel" "normal" "[J" : Cond) ∈ gG := gG_t4 (List.mem_of_getElem? (i := 147) rfl) rfl
theorem mw_4_148 : (.fieldLink RX12 20 "RayRoomModel" "tone" "[I" : Cond) ∈ gG := gG_t4 (List.mem_of_getElem? (i := 148) rfl) rfl
theorem mw_4_149 : (.fieldLink RX12 23 "RayRoomModel" "eye" "[I" : Cond) ∈ gG := gG_t4 (List.mem_of_getElem? (i := 149) rfl) rfl
theorem mw_4_150 : (.fieldLink RX12 26 "RayRoomModel" "axis" "[J" : Cond) ∈ gG := gG_t4 (List.mem_of_getElem? (i := 150) rfl) rfl
theorem mw_4_151 : (.fieldLink RX12 29 "RayRoomModel" "wide" "I" : Cond) ∈ gG := gG_t4 (List.mem_of_getElem? (i := 151) rfl) rfl
theorem mw_4_152 : (.fieldLink RX12 33 "RayRoomModel" "high" "I" : Cond) ∈ gG := gG_t4 (List.mem_of_getElem? (i := 152) rfl) rfl
theorem mw_4_153 : (.fieldLink RX12 36 "RayRoomModel" "light" "[I" : Cond) ∈ gG := gG_t4 (List.mem_of_getElem? (i := 153) rfl) rfl
theorem mw_4_154 : (.fieldLink RX12 39 "RayRoomModel" "strength" "[I" : Cond) ∈ gG := gG_t4 (List.mem_of_getElem? (i := 154) rfl) rfl
theorem mw_4_155 : (.fieldLink RX12 42 "RayRoomModel" "table" "[I" : Cond) ∈ gG := gG_t4 (List.mem_of_getElem? (i := 155) rfl) rfl
theorem mw_4_156 : (.fieldLink RX12 181 "RayRoomModel" "ambient" "I" : Cond) ∈ gG := gG_t4 (List.mem_of_getElem? (i := 156) rfl) rfl
theorem mw_4_157 : (.fieldLink RX12 184 "RayRoomModel" "back" "I" : Cond) ∈ gG := gG_t4 (List.mem_of_getElem? (i := 157) rfl) rfl
theorem mw_4_158 : (.fieldLink RX12 45 "RayRoomModel" "cross" "[J" : Cond) ∈ gG := gG_t4 (List.mem_of_getElem? (i := 158) rfl) rfl
theorem mw_4_159 : (.fieldLink RX12 48 "RayRoomModel" "moved" "[I" : Cond) ∈ gG := gG_t4 (List.mem_of_getElem? (i := 159) rfl) rfl
theorem mw_4_160 : (.fieldLink RX12 158 "RayRoomModel" "nodes" "I" : Cond) ∈ gG := gG_t4 (List.mem_of_getElem? (i := 160) rfl) rfl
theorem mw_4_161 : (.fieldLink RX12 51 "RayRoomModel" "nFirst" "[I" : Cond) ∈ gG := gG_t4 (List.mem_of_getElem? (i := 161) rfl) rfl
theorem mw_4_162 : (.fieldLink RX12 54 "RayRoomModel" "nMany" "[I" : Cond) ∈ gG := gG_t4 (List.mem_of_getElem? (i := 162) rfl) rfl
theorem mw_4_163 : (.fieldLink RX12 57 "RayRoomModel" "nLow" "[I" : Cond) ∈ gG := gG_t4 (List.mem_of_getElem? (i := 163) rfl) rfl
theorem mw_4_164 : (.fieldLink RX12 60 "RayRoomModel" "nHigh" "[I" : Cond) ∈ gG := gG_t4 (List.mem_of_getElem? (i := 164) rfl) rfl
theorem mw_4_165 : (.fieldLink RX12 63 "RayRoomModel" "nAbove" "[I" : Cond) ∈ gG := gG_t4 (List.mem_of_getElem? (i := 165) rfl) rfl
theorem mw_4_166 : (.fieldLink RX12 66 "RayRoomModel" "nDepth" "[I" : Cond) ∈ gG := gG_t4 (List.mem_of_getElem? (i := 166) rfl) rfl
theorem mw_4_167 : (.fieldLink RX12 69 "RayRoomModel" "box" "[I" : Cond) ∈ gG := gG_t4 (List.mem_of_getElem? (i := 167) rfl) rfl
theorem mw_4_168 : (.fieldLink RX12 72 "RayRoomModel" "order" "[I" : Cond) ∈ gG := gG_t4 (List.mem_of_getElem? (i := 168) rfl) rfl
theorem mw_4_169 : (.fieldLink RX12 75 "RayRoomModel" "other" "[I" : Cond) ∈ gG := gG_t4 (List.mem_of_getElem? (i := 169) rfl) rfl
theorem mw_4_170 : (.fieldLink RX12 78 "RayRoomModel" "todo" "[I" : Cond) ∈ gG := gG_t4 (List.mem_of_getElem? (i := 170) rfl) rfl
theorem mw_4_171 : (.fieldLink RX12 81 "RayRoomModel" "d" "[J" : Cond) ∈ gG := gG_t4 (List.mem_of_getElem? (i := 171) rfl) rfl
theorem mw_4_172 : (.fieldLink RX12 214 "RayRoomModel" "above" "J" : Cond) ∈ gG := gG_t4 (List.mem_of_getElem? (i := 172) rfl) rfl
theorem mw_4_173 : (.fieldLink RX12 210 "RayRoomModel" "below" "J" : Cond) ∈ gG := gG_t4 (List.mem_of_getElem? (i := 173) rfl) rfl
theorem mw_4_174 : (.fieldLink RX12 84 "RayRoomModel" "weight" "[J" : Cond) ∈ gG := gG_t4 (List.mem_of_getElem? (i := 174) rfl) rfl
theorem mw_4_175 : (.fieldLink RX12 87 "RayRoomModel" "from" "[J" : Cond) ∈ gG := gG_t4 (List.mem_of_getElem? (i := 175) rfl) rfl
theorem mw_4_176 : (.fieldLink RX12 90 "RayRoomModel" "along" "[J" : Cond) ∈ gG := gG_t4 (List.mem_of_getElem? (i := 176) rfl) rfl
theorem mw_4_177 : (.fieldLink RX12 93 "RayRoomModel" "seen" "[J" : Cond) ∈ gG := gG_t4 (List.mem_of_getElem? (i := 177) rfl) rfl
theorem mw_4_178 : (.fieldLink RX12 228 "RayRoomModel" "first" "I" : Cond) ∈ gG := gG_t4 (List.mem_of_getElem? (i := 178) rfl) rfl
theorem mw_4_179 : (.fieldLink RX12 237 "RayRoomModel" "firstAbove" "J" : Cond) ∈ gG := gG_t4 (List.mem_of_getElem? (i := 179) rfl) rfl
theorem mw_4_180 : (.fieldLink RX12 234 "RayRoomModel" "firstBelow" "J" : Cond) ∈ gG := gG_t4 (List.mem_of_getElem? (i := 180) rfl) rfl
theorem mw_4_181 : (.fieldLink RX12 96 "RayRoomModel" "firstWeight" "[J" : Cond) ∈ gG := gG_t4 (List.mem_of_getElem? (i := 181) rfl) rfl
theorem mw_4_182 : (.fieldLink RX12 250 "RayRoomModel" "atHand" "Z" : Cond) ∈ gG := gG_t4 (List.mem_of_getElem? (i := 182) rfl) rfl
theorem mw_4_183 : (.fieldLink RX12 99 "RayRoomModel" "hand" "[J" : Cond) ∈ gG := gG_t4 (List.mem_of_getElem? (i := 183) rfl) rfl
theorem mw_4_184 : (.fieldLink RX12 102 "RayRoomModel" "place" "[J" : Cond) ∈ gG := gG_t4 (List.mem_of_getElem? (i := 184) rfl) rfl
theorem mw_4_185 : (.fieldLink RX12 259 "RayRoomModel" "crossings" "I" : Cond) ∈ gG := gG_t4 (List.mem_of_getElem? (i := 185) rfl) rfl
theorem mw_4_186 : (.fieldLink RX12 105 "RayRoomModel" "crossed" "[I" : Cond) ∈ gG := gG_t4 (List.mem_of_getElem? (i := 186) rfl) rfl
theorem mw_4_187 : (.fieldLink RX12 108 "RayRoomModel" "crossAbove" "[J" : Cond) ∈ gG := gG_t4 (List.mem_of_getElem? (i := 187) rfl) rfl
theorem mw_4_188 : (.fieldLink RX12 111 "RayRoomModel" "crossBelow" "[J" : Cond) ∈ gG := gG_t4 (List.mem_of_getElem? (i := 188) rfl) rfl
theorem mw_4_189 : (.fieldLink RX12 114 "RayRoomModel" "met" "[Z" : Cond) ∈ gG := gG_t4 (List.mem_of_getElem? (i := 189) rfl) rfl
theorem mw_4_190 : (.fieldLink RX12 118 "RayRoomModel" "one" "[J" : Cond) ∈ gG := gG_t4 (List.mem_of_getElem? (i := 190) rfl) rfl
theorem mw_4_191 : (.fieldLink RX12 121 "RayRoomModel" "two" "[J" : Cond) ∈ gG := gG_t4 (List.mem_of_getElem? (i := 191) rfl) rfl
theorem mw_4_192 : (.fieldLink RX12 124 "RayRoomModel" "product" "[J" : Cond) ∈ gG := gG_t4 (List.mem_of_getElem? (i := 192) rfl) rfl
theorem mw_4_193 : (.fieldLink RX12 127 "RayRoomModel" "squares" "[J" : Cond) ∈ gG := gG_t4 (List.mem_of_getElem? (i := 193) rfl) rfl
theorem mw_4_194 : (.fieldLink RX12 130 "RayRoomModel" "isSeen" "[Z" : Cond) ∈ gG := gG_t4 (List.mem_of_getElem? (i := 194) rfl) rfl
theorem mw_4_195 : (.fieldLink RX12 133 "RayRoomModel" "way" "[J" : Cond) ∈ gG := gG_t4 (List.mem_of_getElem? (i := 195) rfl) rfl
theorem mw_4_196 : (.lays RX12 "RayRoomModel" "points" "I" : Cond) ∈ gG := gG_t4 (List.mem_of_getElem? (i := 196) rfl) rfl
theorem mw_4_198 : (.laysFinal RX12 "RayRoomModel" "point" "[I" : Cond) ∈ gG := gG_t4 (List.mem_of_getElem? (i := 198) rfl) rfl
theorem mw_4_200 : (.lays RX12 "RayRoomModel" "triangles" "I" : Cond) ∈ gG := gG_t4 (List.mem_of_getElem? (i := 200) rfl) rfl
theorem mw_4_202 : (.laysFinal RX12 "RayRoomModel" "corner" "[I" : Cond) ∈ gG := gG_t4 (List.mem_of_getElem? (i := 202) rfl) rfl
theorem mw_4_204 : (.laysFinal RX12 "RayRoomModel" "normal" "[J" : Cond) ∈ gG := gG_t4 (List.mem_of_getElem? (i := 204) rfl) rfl
theorem mw_4_206 : (.laysFinal RX12 "RayRoomModel" "tone" "[I" : Cond) ∈ gG := gG_t4 (List.mem_of_getElem? (i := 206) rfl) rfl
theorem mw_4_208 : (.laysFinal RX12 "RayRoomModel" "eye" "[I" : Cond) ∈ gG := gG_t4 (List.mem_of_getElem? (i := 208) rfl) rfl
theorem mw_4_210 : (.laysFinal RX12 "RayRoomModel" "axis" "[J" : Cond) ∈ gG := gG_t4 (List.mem_of_getElem? (i := 210) rfl) rfl
theorem mw_4_212 : (.lays RX12 "RayRoomModel" "wide" "I" : Cond) ∈ gG := gG_t4 (List.mem_of_getElem? (i := 212) rfl) rfl
theorem mw_4_214 : (.lays RX12 "RayRoomModel" "high" "I" : Cond) ∈ gG := gG_t4 (List.mem_of_getElem? (i := 214) rfl) rfl
theorem mw_4_216 : (.laysFinal RX12 "RayRoomModel" "light" "[I" : Cond) ∈ gG := gG_t4 (List.mem_of_getElem? (i := 216) rfl) rfl
theorem mw_4_218 : (.laysFinal RX12 "RayRoomModel" "strength" "[I" : Cond) ∈ gG := gG_t4 (List.mem_of_getElem? (i := 218) rfl) rfl
theorem mw_4_220 : (.laysFinal RX12 "RayRoomModel" "table" "[I" : Cond) ∈ gG := gG_t4 (List.mem_of_getElem? (i := 220) rfl) rfl
theorem mw_4_222 : (.lays RX12 "RayRoomModel" "ambient" "I" : Cond) ∈ gG := gG_t4 (List.mem_of_getElem? (i := 222) rfl) rfl
theorem mw_4_224 : (.lays RX12 "RayRoomModel" "back" "I" : Cond) ∈ gG := gG_t4 (List.mem_of_getElem? (i := 224) rfl) rfl
theorem mw_4_226 : (.laysFinal RX12 "RayRoomModel" "cross" "[J" : Cond) ∈ gG := gG_t4 (List.mem_of_getElem? (i := 226) rfl) rfl
theorem mw_4_228 : (.laysFinal RX12 "RayRoomModel" "moved" "[I" : Cond) ∈ gG := gG_t4 (List.mem_of_getElem? (i := 228) rfl) rfl
theorem mw_4_230 : (.lays RX12 "RayRoomModel" "nodes" "I" : Cond) ∈ gG := gG_t4 (List.mem_of_getElem? (i := 230) rfl) rfl
theorem mw_4_232 : (.lays RX12 "RayRoomModel" "least" "I" : Cond) ∈ gG := gG_t4 (List.mem_of_getElem? (i := 232) rfl) rfl
theorem mw_4_234 : (.laysFinal RX12 "RayRoomModel" "nFirst" "[I" : Cond) ∈ gG := gG_t4 (List.mem_of_getElem? (i := 234) rfl) rfl
theorem mw_4_236 : (.laysFinal RX12 "RayRoomModel" "nMany" "[I" : Cond) ∈ gG := gG_t4 (List.mem_of_getElem? (i := 236) rfl) rfl
theorem mw_4_238 : (.laysFinal RX12 "RayRoomModel" "nLow" "[I" : Cond) ∈ gG := gG_t4 (List.mem_of_getElem? (i := 238) rfl) rfl
theorem mw_5_0 : (.laysFinal RX12 "RayRoomModel" "nHigh" "[I" : Cond) ∈ gG := gG_t5 (List.mem_of_getElem? (i := 0) rfl) rfl
theorem mw_5_2 : (.laysFinal RX12 "RayRoomModel" "nAbove" "[I" : Cond) ∈ gG := gG_t5 (List.mem_of_getElem? (i := 2) rfl) rfl
theorem mw_5_4 : (.laysFinal RX12 "RayRoomModel" "nDepth" "[I" : Cond) ∈ gG := gG_t5 (List.mem_of_getElem? (i := 4) rfl) rfl
theorem mw_5_6 : (.laysFinal RX12 "RayRoomModel" "box" "[I" : Cond) ∈ gG := gG_t5 (List.mem_of_getElem? (i := 6) rfl) rfl
theorem mw_5_8 : (.laysFinal RX12 "RayRoomModel" "order" "[I" : Cond) ∈ gG := gG_t5 (List.mem_of_getElem? (i := 8) rfl) rfl
theorem mw_5_10 : (.laysFinal RX12 "RayRoomModel" "other" "[I" : Cond) ∈ gG := gG_t5 (List.mem_of_getElem? (i := 10) rfl) rfl
theorem mw_5_12 : (.laysFinal RX12 "RayRoomModel" "todo" "[I" : Cond) ∈ gG := gG_t5 (List.mem_of_getElem? (i := 12) rfl) rfl
theorem mw_5_14 : (.laysFinal RX12 "RayRoomModel" "d" "[J" : Cond) ∈ gG := gG_t5 (List.mem_of_getElem? (i := 14) rfl) rfl
theorem mw_5_16 : (.lays RX12 "RayRoomModel" "above" "J" : Cond) ∈ gG := gG_t5 (List.mem_of_getElem? (i := 16) rfl) rfl
theorem mw_5_18 : (.lays RX12 "RayRoomModel" "below" "J" : Cond) ∈ gG := gG_t5 (List.mem_of_getElem? (i := 18) rfl) rfl
theorem mw_5_20 : (.laysFinal RX12 "RayRoomModel" "weight" "[J" : Cond) ∈ gG := gG_t5 (List.mem_of_getElem? (i := 20) rfl) rfl
theorem mw_5_22 : (.laysFinal RX12 "RayRoomModel" "from" "[J" : Cond) ∈ gG := gG_t5 (List.mem_of_getElem? (i := 22) rfl) rfl
theorem mw_5_24 : (.laysFinal RX12 "RayRoomModel" "along" "[J" : Cond) ∈ gG := gG_t5 (List.mem_of_getElem? (i := 24) rfl) rfl
theorem mw_5_26 : (.laysFinal RX12 "RayRoomModel" "seen" "[J" : Cond) ∈ gG := gG_t5 (List.mem_of_getElem? (i := 26) rfl) rfl
theorem mw_5_28 : (.lays RX12 "RayRoomModel" "first" "I" : Cond) ∈ gG := gG_t5 (List.mem_of_getElem? (i := 28) rfl) rfl
theorem mw_5_30 : (.lays RX12 "RayRoomModel" "firstAbove" "J" : Cond) ∈ gG := gG_t5 (List.mem_of_getElem? (i := 30) rfl) rfl
theorem mw_5_32 : (.lays RX12 "RayRoomModel" "firstBelow" "J" : Cond) ∈ gG := gG_t5 (List.mem_of_getElem? (i := 32) rfl) rfl
theorem mw_5_34 : (.laysFinal RX12 "RayRoomModel" "firstWeight" "[J" : Cond) ∈ gG := gG_t5 (List.mem_of_getElem? (i := 34) rfl) rfl
theorem mw_5_36 : (.lays RX12 "RayRoomModel" "atHand" "Z" : Cond) ∈ gG := gG_t5 (List.mem_of_getElem? (i := 36) rfl) rfl
theorem mw_5_38 : (.laysFinal RX12 "RayRoomModel" "hand" "[J" : Cond) ∈ gG := gG_t5 (List.mem_of_getElem? (i := 38) rfl) rfl
theorem mw_5_40 : (.laysFinal RX12 "RayRoomModel" "place" "[J" : Cond) ∈ gG := gG_t5 (List.mem_of_getElem? (i := 40) rfl) rfl
theorem mw_5_42 : (.lays RX12 "RayRoomModel" "crossings" "I" : Cond) ∈ gG := gG_t5 (List.mem_of_getElem? (i := 42) rfl) rfl
theorem mw_5_44 : (.laysFinal RX12 "RayRoomModel" "crossed" "[I" : Cond) ∈ gG := gG_t5 (List.mem_of_getElem? (i := 44) rfl) rfl
theorem mw_5_46 : (.laysFinal RX12 "RayRoomModel" "crossAbove" "[J" : Cond) ∈ gG := gG_t5 (List.mem_of_getElem? (i := 46) rfl) rfl
theorem mw_5_48 : (.laysFinal RX12 "RayRoomModel" "crossBelow" "[J" : Cond) ∈ gG := gG_t5 (List.mem_of_getElem? (i := 48) rfl) rfl
theorem mw_5_50 : (.laysFinal RX12 "RayRoomModel" "met" "[Z" : Cond) ∈ gG := gG_t5 (List.mem_of_getElem? (i := 50) rfl) rfl
theorem mw_5_52 : (.laysFinal RX12 "RayRoomModel" "one" "[J" : Cond) ∈ gG := gG_t5 (List.mem_of_getElem? (i := 52) rfl) rfl
theorem mw_5_54 : (.laysFinal RX12 "RayRoomModel" "two" "[J" : Cond) ∈ gG := gG_t5 (List.mem_of_getElem? (i := 54) rfl) rfl
theorem mw_5_56 : (.laysFinal RX12 "RayRoomModel" "product" "[J" : Cond) ∈ gG := gG_t5 (List.mem_of_getElem? (i := 56) rfl) rfl
theorem mw_5_58 : (.laysFinal RX12 "RayRoomModel" "squares" "[J" : Cond) ∈ gG := gG_t5 (List.mem_of_getElem? (i := 58) rfl) rfl
theorem mw_5_60 : (.laysFinal RX12 "RayRoomModel" "isSeen" "[Z" : Cond) ∈ gG := gG_t5 (List.mem_of_getElem? (i := 60) rfl) rfl
theorem mw_5_62 : (.laysFinal RX12 "RayRoomModel" "way" "[J" : Cond) ∈ gG := gG_t5 (List.mem_of_getElem? (i := 62) rfl) rfl
theorem mw_5_65 : (.methodLink R_law 17 yX12_point : Cond) ∈ gG := gG_t5 (List.mem_of_getElem? (i := 65) rfl) rfl
theorem mw_5_66 : (.instanceMethod yX12_point : Cond) ∈ gG := gG_t5 (List.mem_of_getElem? (i := 66) rfl) rfl
theorem mw_5_67 : (.selects RX12 yX12_point yX12_point : Cond) ∈ gG := gG_t5 (List.mem_of_getElem? (i := 67) rfl) rfl
theorem mw_5_68 : (.code yX12_point cX12_point 4 (some .int) : Cond) ∈ gG := gG_t5 (List.mem_of_getElem? (i := 68) rfl) rfl
theorem mw_5_69 : (.methodLink RX12 144 yX12_isPlace : Cond) ∈ gG := gG_t5 (List.mem_of_getElem? (i := 69) rfl) rfl
theorem mw_5_70 : (.static yX12_isPlace : Cond) ∈ gG := gG_t5 (List.mem_of_getElem? (i := 70) rfl) rfl
theorem mw_5_71 : (.code yX12_isPlace cX12_isPlace 1 (some .boolean) : Cond) ∈ gG := gG_t5 (List.mem_of_getElem? (i := 71) rfl) rfl
theorem mw_5_72 : (.constantLong RX12 136 (-255) : Cond) ∈ gG := gG_t5 (List.mem_of_getElem? (i := 72) rfl) rfl
theorem mw_5_73 : (.constantLong RX12 138 (255) : Cond) ∈ gG := gG_t5 (List.mem_of_getElem? (i := 73) rfl) rfl
theorem mw_5_74 : (.methodLink RX12 140 yX12_in : Cond) ∈ gG := gG_t5 (List.mem_of_getElem? (i := 74) rfl) rfl
theorem mw_5_75 : (.static yX12_in : Cond) ∈ gG := gG_t5 (List.mem_of_getElem? (i := 75) rfl) rfl
theorem mw_5_76 : (.code yX12_in cX12_in 6 (some .boolean) : Cond) ∈ gG := gG_t5 (List.mem_of_getElem? (i := 76) rfl) rfl
theorem mw_5_77 : (.methodLink R_law 32 yX12_drop : Cond) ∈ gG := gG_t5 (List.mem_of_getElem? (i := 77) rfl) rfl
theorem mw_5_78 : (.instanceMethod yX12_drop : Cond) ∈ gG := gG_t5 (List.mem_of_getElem? (i := 78) rfl) rfl
theorem mw_5_79 : (.selects RX12 yX12_drop yX12_drop : Cond) ∈ gG := gG_t5 (List.mem_of_getElem? (i := 79) rfl) rfl
theorem mw_5_80 : (.code yX12_drop cX12_drop 2 (some .int) : Cond) ∈ gG := gG_t5 (List.mem_of_getElem? (i := 80) rfl) rfl
theorem mw_5_81 : (.methodLink R_law 22 yX12_triangle : Cond) ∈ gG := gG_t5 (List.mem_of_getElem? (i := 81) rfl) rfl
theorem mw_5_82 : (.instanceMethod yX12_triangle : Cond) ∈ gG := gG_t5 (List.mem_of_getElem? (i := 82) rfl) rfl
theorem mw_5_83 : (.selects RX12 yX12_triangle yX12_triangle : Cond) ∈ gG := gG_t5 (List.mem_of_getElem? (i := 83) rfl) rfl
theorem mw_5_84 : (.code yX12_triangle cX12_triangle 3 (some .int) : Cond) ∈ gG := gG_t5 (List.mem_of_getElem? (i := 84) rfl) rfl
theorem mw_5_85 : (.methodLink RX12 154 yX12_crossOf : Cond) ∈ gG := gG_t5 (List.mem_of_getElem? (i := 85) rfl) rfl
theorem mw_5_87 : (.instanceMethod yX12_crossOf : Cond) ∈ gG := gG_t5 (List.mem_of_getElem? (i := 87) rfl) rfl
theorem mw_5_88 : (.code yX12_crossOf cX12_crossOf 15 (some .boolean) : Cond) ∈ gG := gG_t5 (List.mem_of_getElem? (i := 88) rfl) rfl
theorem mw_5_89 : (.methodLink R_law 27 yX12_move : Cond) ∈ gG := gG_t5 (List.mem_of_getElem? (i := 89) rfl) rfl
theorem mw_5_90 : (.instanceMethod yX12_move : Cond) ∈ gG := gG_t5 (List.mem_of_getElem? (i := 90) rfl) rfl
theorem mw_5_91 : (.selects RX12 yX12_move yX12_move : Cond) ∈ gG := gG_t5 (List.mem_of_getElem? (i := 91) rfl) rfl
theorem mw_5_92 : (.code yX12_move cX12_move 4 (some .int) : Cond) ∈ gG := gG_t5 (List.mem_of_getElem? (i := 92) rfl) rfl
theorem mw_5_93 : (.constantLong RX12 161 (2) : Cond) ∈ gG := gG_t5 (List.mem_of_getElem? (i := 93) rfl) rfl
theorem mw_5_94 : (.methodLink R_law 36 yX12_eye : Cond) ∈ gG := gG_t5 (List.mem_of_getElem? (i := 94) rfl) rfl
theorem mw_5_95 : (.instanceMethod yX12_eye : Cond) ∈ gG := gG_t5 (List.mem_of_getElem? (i := 95) rfl) rfl
theorem mw_5_96 : (.selects RX12 yX12_eye yX12_eye : Cond) ∈ gG := gG_t5 (List.mem_of_getElem? (i := 96) rfl) rfl
theorem mw_5_97 : (.code yX12_eye cX12_eye 2 (some .int) : Cond) ∈ gG := gG_t5 (List.mem_of_getElem? (i := 97) rfl) rfl
theorem mw_5_98 : (.methodLink R_law 41 yX12_axis : Cond) ∈ gG := gG_t5 (List.mem_of_getElem? (i := 98) rfl) rfl
theorem mw_5_99 : (.instanceMethod yX12_axis : Cond) ∈ gG := gG_t5 (List.mem_of_getElem? (i := 99) rfl) rfl
theorem mw_5_100 : (.selects RX12 yX12_axis yX12_axis : Cond) ∈ gG := gG_t5 (List.mem_of_getElem? (i := 100) rfl) rfl
theorem mw_5_101 : (.code yX12_axis cX12_axis 11 (some .int) : Cond) ∈ gG := gG_t5 (List.mem_of_getElem? (i := 101) rfl) rfl
theorem mw_5_102 : (.methodLink RX12 167 yX12_setAxis : Cond) ∈ gG := gG_t5 (List.mem_of_getElem? (i := 102) rfl) rfl
theorem mw_5_104 : (.instanceMethod yX12_setAxis : Cond) ∈ gG := gG_t5 (List.mem_of_getElem? (i := 104) rfl) rfl
theorem mw_5_105 : (.code yX12_setAxis cX12_setAxis 8 (none) : Cond) ∈ gG := gG_t5 (List.mem_of_getElem? (i := 105) rfl) rfl
theorem mw_5_106 : (.methodLink RX12 171 yX12_areRays : Cond) ∈ gG := gG_t5 (List.mem_of_getElem? (i := 106) rfl) rfl
theorem mw_5_108 : (.instanceMethod yX12_areRays : Cond) ∈ gG := gG_t5 (List.mem_of_getElem? (i := 108) rfl) rfl
theorem mw_5_109 : (.code yX12_areRays cX12_areRays 10 (some .boolean) : Cond) ∈ gG := gG_t5 (List.mem_of_getElem? (i := 109) rfl) rfl
theorem mw_5_110 : (.constantLong RX12 163 (-1023) : Cond) ∈ gG := gG_t5 (List.mem_of_getElem? (i := 110) rfl) rfl
theorem mw_5_111 : (.constantLong RX12 165 (1023) : Cond) ∈ gG := gG_t5 (List.mem_of_getElem? (i := 111) rfl) rfl
theorem mw_5_112 : (.methodLink R_law 45 yX12_size : Cond) ∈ gG := gG_t5 (List.mem_of_getElem? (i := 112) rfl) rfl
theorem mw_5_113 : (.instanceMethod yX12_size : Cond) ∈ gG := gG_t5 (List.mem_of_getElem? (i := 113) rfl) rfl
theorem mw_5_114 : (.selects RX12 yX12_size yX12_size : Cond) ∈ gG := gG_t5 (List.mem_of_getElem? (i := 114) rfl) rfl
theorem mw_5_115 : (.code yX12_size cX12_size 3 (some .int) : Cond) ∈ gG := gG_t5 (List.mem_of_getElem? (i := 115) rfl) rfl
theorem mw_5_116 : (.constantLong RX12 175 (32) : Cond) ∈ gG := gG_t5 (List.mem_of_getElem? (i := 116) rfl) rfl
theorem mw_5_117 : (.methodLink R_law 49 yX12_light : Cond) ∈ gG := gG_t5 (List.mem_of_getElem? (i := 117) rfl) rfl
theorem mw_5_118 : (.instanceMethod yX12_light : Cond) ∈ gG := gG_t5 (List.mem_of_getElem? (i := 118) rfl) rfl
theorem mw_5_119 : (.selects RX12 yX12_light yX12_light : Cond) ∈ gG := gG_t5 (List.mem_of_getElem? (i := 119) rfl) rfl
theorem mw_5_120 : (.code yX12_light cX12_light 4 (some .int) : Cond) ∈ gG := gG_t5 (List.mem_of_getElem? (i := 120) rfl) rfl
theorem mw_5_121 : (.constantLong RX12 177 (3) : Cond) ∈ gG := gG_t5 (List.mem_of_getElem? (i := 121) rfl) rfl
theorem mw_5_122 : (.methodLink R_law 53 yX12_set : Cond) ∈ gG := gG_t5 (List.mem_of_getElem? (i := 122) rfl) rfl
theorem mw_5_123 : (.instanceMethod yX12_set : Cond) ∈ gG := gG_t5 (List.mem_of_getElem? (i := 123) rfl) rfl
theorem mw_5_124 : (.selects RX12 yX12_set yX12_set : Cond) ∈ gG := gG_t5 (List.mem_of_getElem? (i := 124) rfl) rfl
theorem mw_5_125 : (.code yX12_set cX12_set 6 (some .int) : Cond) ∈ gG := gG_t5 (List.mem_of_getElem? (i := 125) rfl) rfl
theorem mw_5_126 : (.constantLong RX12 179 (15) : Cond) ∈ gG := gG_t5 (List.mem_of_getElem? (i := 126) rfl) rfl
theorem mw_5_127 : (.methodLink R_law 57 yX12_build : Cond) ∈ gG := gG_t5 (List.mem_of_getElem? (i := 127) rfl) rfl
theorem mw_5_128 : (.instanceMethod yX12_build : Cond) ∈ gG := gG_t5 (List.mem_of_getElem? (i := 128) rfl) rfl
theorem mw_5_129 : (.selects RX12 yX12_build yX12_build : Cond) ∈ gG := gG_t5 (List.mem_of_getElem? (i := 129) rfl) rfl
theorem mw_5_130 : (.code yX12_build cX12_build 6 (some .int) : Cond) ∈ gG := gG_t5 (List.mem_of_getElem? (i := 130) rfl) rfl
theorem mw_5_131 : (.constantLong RX12 195 (8) : Cond) ∈ gG := gG_t5 (List.mem_of_getElem? (i := 131) rfl) rfl
theorem mw_5_132 : (.methodLink RX12 197 yX12_newNode : Cond) ∈ gG := gG_t5 (List.mem_of_getElem? (i := 132) rfl) rfl
theorem mw_5_134 : (.instanceMethod yX12_newNode : Cond) ∈ gG := gG_t5 (List.mem_of_getElem? (i := 134) rfl) rfl
theorem mw_5_135 : (.code yX12_newNode cX12_newNode 4 (none) : Cond) ∈ gG := gG_t5 (List.mem_of_getElem? (i := 135) rfl) rfl
theorem mw_5_136 : (.methodLink RX12 201 yX12_boxOf : Cond) ∈ gG := gG_t5 (List.mem_of_getElem? (i := 136) rfl) rfl
theorem mw_5_138 : (.instanceMethod yX12_boxOf : Cond) ∈ gG := gG_t5 (List.mem_of_getElem? (i := 138) rfl) rfl
theorem mw_5_139 : (.code yX12_boxOf cX12_boxOf 8 (none) : Cond) ∈ gG := gG_t5 (List.mem_of_getElem? (i := 139) rfl) rfl
theorem mw_5_140 : (.methodLink RX12 205 yX12_sort : Cond) ∈ gG := gG_t5 (List.mem_of_getElem? (i := 140) rfl) rfl
theorem mw_5_142 : (.instanceMethod yX12_sort : Cond) ∈ gG := gG_t5 (List.mem_of_getElem? (i := 142) rfl) rfl
theorem mw_5_143 : (.code yX12_sort cX12_sort 9 (none) : Cond) ∈ gG := gG_t5 (List.mem_of_getElem? (i := 143) rfl) rfl
theorem mw_5_144 : (.methodLink RX12 187 yX12_middle : Cond) ∈ gG := gG_t5 (List.mem_of_getElem? (i := 144) rfl) rfl
theorem mw_5_146 : (.instanceMethod yX12_middle : Cond) ∈ gG := gG_t5 (List.mem_of_getElem? (i := 146) rfl) rfl
theorem mw_5_147 : (.code yX12_middle cX12_middle 3 (some .int) : Cond) ∈ gG := gG_t5 (List.mem_of_getElem? (i := 147) rfl) rfl
theorem mw_5_148 : (.methodLink RX12 191 yX12_isBehind : Cond) ∈ gG := gG_t5 (List.mem_of_getElem? (i := 148) rfl) rfl
theorem mw_5_150 : (.instanceMethod yX12_isBehind : Cond) ∈ gG := gG_t5 (List.mem_of_getElem? (i := 150) rfl) rfl
theorem mw_5_151 : (.code yX12_isBehind cX12_isBehind 4 (some .boolean) : Cond) ∈ gG := gG_t5 (List.mem_of_getElem? (i := 151) rfl) rfl
theorem mw_5_152 : (.methodLink R_law 61 yX12_refit : Cond) ∈ gG := gG_t5 (List.mem_of_getElem? (i := 152) rfl) rfl
theorem mw_5_153 : (.instanceMethod yX12_refit : Cond) ∈ gG := gG_t5 (List.mem_of_getElem? (i := 153) rfl) rfl
theorem mw_5_154 : (.selects RX12 yX12_refit yX12_refit : Cond) ∈ gG := gG_t5 (List.mem_of_getElem? (i := 154) rfl) rfl
theorem mw_5_155 : (.code yX12_refit cX12_refit 5 (some .int) : Cond) ∈ gG := gG_t5 (List.mem_of_getElem? (i := 155) rfl) rfl
theorem mw_5_156 : (.methodLink R_law 65 yX12_node : Cond) ∈ gG := gG_t5 (List.mem_of_getElem? (i := 156) rfl) rfl
theorem mw_5_157 : (.instanceMethod yX12_node : Cond) ∈ gG := gG_t5 (List.mem_of_getElem? (i := 157) rfl) rfl
theorem mw_5_158 : (.selects RX12 yX12_node yX12_node : Cond) ∈ gG := gG_t5 (List.mem_of_getElem? (i := 158) rfl) rfl
theorem mw_5_159 : (.code yX12_node cX12_node 3 (some .int) : Cond) ∈ gG := gG_t5 (List.mem_of_getElem? (i := 159) rfl) rfl
theorem mw_5_160 : (.constantLong RX12 208 (10) : Cond) ∈ gG := gG_t5 (List.mem_of_getElem? (i := 160) rfl) rfl
theorem mw_5_161 : (.methodLink R_law 69 yX12_order : Cond) ∈ gG := gG_t5 (List.mem_of_getElem? (i := 161) rfl) rfl
theorem mw_5_162 : (.instanceMethod yX12_order : Cond) ∈ gG := gG_t5 (List.mem_of_getElem? (i := 162) rfl) rfl
theorem mw_5_163 : (.selects RX12 yX12_order yX12_order : Cond) ∈ gG := gG_t5 (List.mem_of_getElem? (i := 163) rfl) rfl
theorem mw_5_164 : (.code yX12_order cX12_order 2 (some .int) : Cond) ∈ gG := gG_t5 (List.mem_of_getElem? (i := 164) rfl) rfl
theorem mw_5_165 : (.methodLink R_law 73 yX12_hit : Cond) ∈ gG := gG_t5 (List.mem_of_getElem? (i := 165) rfl) rfl
theorem mw_5_166 : (.instanceMethod yX12_hit : Cond) ∈ gG := gG_t5 (List.mem_of_getElem? (i := 166) rfl) rfl
theorem mw_5_167 : (.selects RX12 yX12_hit yX12_hit : Cond) ∈ gG := gG_t5 (List.mem_of_getElem? (i := 167) rfl) rfl
theorem mw_5_168 : (.code yX12_hit cX12_hit 8 (some .int) : Cond) ∈ gG := gG_t5 (List.mem_of_getElem? (i := 168) rfl) rfl
theorem mw_5_169 : (.methodLink RX12 244 yX12_isPixel : Cond) ∈ gG := gG_t5 (List.mem_of_getElem? (i := 169) rfl) rfl
theorem mw_5_171 : (.instanceMethod yX12_isPixel : Cond) ∈ gG := gG_t5 (List.mem_of_getElem? (i := 171) rfl) rfl
theorem mw_5_172 : (.code yX12_isPixel cX12_isPixel 3 (some .boolean) : Cond) ∈ gG := gG_t5 (List.mem_of_getElem? (i := 172) rfl) rfl
theorem mw_5_173 : (.methodLink RX12 247 yX12_findFirst : Cond) ∈ gG := gG_t5 (List.mem_of_getElem? (i := 173) rfl) rfl
theorem mw_5_175 : (.instanceMethod yX12_findFirst : Cond) ∈ gG := gG_t5 (List.mem_of_getElem? (i := 175) rfl) rfl
theorem mw_5_176 : (.code yX12_findFirst cX12_findFirst 9 (none) : Cond) ∈ gG := gG_t5 (List.mem_of_getElem? (i := 176) rfl) rfl
theorem mw_5_177 : (.methodLink RX12 224 yX12_rayOf : Cond) ∈ gG := gG_t5 (List.mem_of_getElem? (i := 177) rfl) rfl
theorem mw_5_179 : (.instanceMethod yX12_rayOf : Cond) ∈ gG := gG_t5 (List.mem_of_getElem? (i := 179) rfl) rfl
theorem mw_5_180 : (.code yX12_rayOf cX12_rayOf 4 (none) : Cond) ∈ gG := gG_t5 (List.mem_of_getElem? (i := 180) rfl) rfl
theorem mw_5_181 : (.methodLink RX12 231 yX12_looks : Cond) ∈ gG := gG_t5 (List.mem_of_getElem? (i := 181) rfl) rfl
theorem mw_5_183 : (.instanceMethod yX12_looks : Cond) ∈ gG := gG_t5 (List.mem_of_getElem? (i := 183) rfl) rfl
theorem mw_5_184 : (.code yX12_looks cX12_looks 3 (some .boolean) : Cond) ∈ gG := gG_t5 (List.mem_of_getElem? (i := 184) rfl) rfl
theorem mw_5_185 : (.methodLink RX12 221 yX12_hits : Cond) ∈ gG := gG_t5 (List.mem_of_getElem? (i := 185) rfl) rfl
theorem mw_5_187 : (.instanceMethod yX12_hits : Cond) ∈ gG := gG_t5 (List.mem_of_getElem? (i := 187) rfl) rfl
theorem mw_5_188 : (.code yX12_hits cX12_hits 4 (some .boolean) : Cond) ∈ gG := gG_t5 (List.mem_of_getElem? (i := 188) rfl) rfl
theorem mw_5_189 : (.methodLink RX12 217 yX12_triple : Cond) ∈ gG := gG_t5 (List.mem_of_getElem? (i := 189) rfl) rfl
theorem mw_5_191 : (.instanceMethod yX12_triple : Cond) ∈ gG := gG_t5 (List.mem_of_getElem? (i := 191) rfl) rfl
theorem mw_5_192 : (.code yX12_triple cX12_triple 3 (some .long) : Cond) ∈ gG := gG_t5 (List.mem_of_getElem? (i := 192) rfl) rfl
theorem mw_5_193 : (.methodLink RX12 240 yX12_common : Cond) ∈ gG := gG_t5 (List.mem_of_getElem? (i := 193) rfl) rfl
theorem mw_5_194 : (.static yX12_common : Cond) ∈ gG := gG_t5 (List.mem_of_getElem? (i := 194) rfl) rfl
theorem mw_5_195 : (.code yX12_common cX12_common 10 (some .long) : Cond) ∈ gG := gG_t5 (List.mem_of_getElem? (i := 195) rfl) rfl
theorem mw_5_196 : (.methodLink RX12 254 yX12_findPlace : Cond) ∈ gG := gG_t5 (List.mem_of_getElem? (i := 196) rfl) rfl
theorem mw_5_198 : (.instanceMethod yX12_findPlace : Cond) ∈ gG := gG_t5 (List.mem_of_getElem? (i := 198) rfl) rfl
theorem mw_5_199 : (.code yX12_findPlace cX12_findPlace 4 (none) : Cond) ∈ gG := gG_t5 (List.mem_of_getElem? (i := 199) rfl) rfl
theorem mw_5_200 : (.methodLink R_law 78 yX12_told : Cond) ∈ gG := gG_t5 (List.mem_of_getElem? (i := 200) rfl) rfl
theorem mw_5_201 : (.instanceMethod yX12_told : Cond) ∈ gG := gG_t5 (List.mem_of_getElem? (i := 201) rfl) rfl
theorem mw_5_202 : (.selects RX12 yX12_told yX12_told : Cond) ∈ gG := gG_t5 (List.mem_of_getElem? (i := 202) rfl) rfl
theorem mw_5_203 : (.code yX12_told cX12_told 2 (some .long) : Cond) ∈ gG := gG_t5 (List.mem_of_getElem? (i := 203) rfl) rfl
theorem mw_5_204 : (.constantLong RX12 257 (-9000000000000000000) : Cond) ∈ gG := gG_t5 (List.mem_of_getElem? (i := 204) rfl) rfl
theorem mw_5_205 : (.methodLink R_law 82 yX12_cross : Cond) ∈ gG := gG_t5 (List.mem_of_getElem? (i := 205) rfl) rfl
theorem mw_5_206 : (.instanceMethod yX12_cross : Cond) ∈ gG := gG_t5 (List.mem_of_getElem? (i := 206) rfl) rfl
theorem mw_5_207 : (.selects RX12 yX12_cross yX12_cross : Cond) ∈ gG := gG_t5 (List.mem_of_getElem? (i := 207) rfl) rfl
theorem mw_5_208 : (.code yX12_cross cX12_cross 9 (some .int) : Cond) ∈ gG := gG_t5 (List.mem_of_getElem? (i := 208) rfl) rfl
theorem mw_5_209 : (.methodLink R_law 86 yX12_crossing : Cond) ∈ gG := gG_t5 (List.mem_of_getElem? (i := 209) rfl) rfl
theorem mw_5_210 : (.instanceMethod yX12_crossing : Cond) ∈ gG := gG_t5 (List.mem_of_getElem? (i := 210) rfl) rfl
theorem mw_5_211 : (.selects RX12 yX12_crossing yX12_crossing : Cond) ∈ gG := gG_t5 (List.mem_of_getElem? (i := 211) rfl) rfl
theorem mw_5_212 : (.code yX12_crossing cX12_crossing 2 (some .int) : Cond) ∈ gG := gG_t5 (List.mem_of_getElem? (i := 212) rfl) rfl
theorem mw_5_213 : (.methodLink R_law 90 yX12_meets : Cond) ∈ gG := gG_t5 (List.mem_of_getElem? (i := 213) rfl) rfl
theorem mw_5_214 : (.instanceMethod yX12_meets : Cond) ∈ gG := gG_t5 (List.mem_of_getElem? (i := 214) rfl) rfl
theorem mw_5_215 : (.selects RX12 yX12_meets yX12_meets : Cond) ∈ gG := gG_t5 (List.mem_of_getElem? (i := 215) rfl) rfl
theorem mw_5_216 : (.code yX12_meets cX12_meets 8 (some .int) : Cond) ∈ gG := gG_t5 (List.mem_of_getElem? (i := 216) rfl) rfl
theorem mw_5_217 : (.methodLink RX12 262 yX12_meetsBox : Cond) ∈ gG := gG_t5 (List.mem_of_getElem? (i := 217) rfl) rfl
theorem mw_5_219 : (.instanceMethod yX12_meetsBox : Cond) ∈ gG := gG_t5 (List.mem_of_getElem? (i := 219) rfl) rfl
theorem mw_5_220 : (.code yX12_meetsBox cX12_meetsBox 21 (some .boolean) : Cond) ∈ gG := gG_t5 (List.mem_of_getElem? (i := 220) rfl) rfl
theorem mw_5_221 : (.methodLink R_law 94 yX12_lit : Cond) ∈ gG := gG_t5 (List.mem_of_getElem? (i := 221) rfl) rfl
theorem mw_5_222 : (.instanceMethod yX12_lit : Cond) ∈ gG := gG_t5 (List.mem_of_getElem? (i := 222) rfl) rfl
theorem mw_5_223 : (.selects RX12 yX12_lit yX12_lit : Cond) ∈ gG := gG_t5 (List.mem_of_getElem? (i := 223) rfl) rfl
theorem mw_5_224 : (.code yX12_lit cX12_lit 4 (some .int) : Cond) ∈ gG := gG_t5 (List.mem_of_getElem? (i := 224) rfl) rfl
theorem mw_5_225 : (.methodLink RX12 294 yX12_litBy : Cond) ∈ gG := gG_t5 (List.mem_of_getElem? (i := 225) rfl) rfl
theorem mw_5_227 : (.instanceMethod yX12_litBy : Cond) ∈ gG := gG_t5 (List.mem_of_getElem? (i := 227) rfl) rfl
theorem mw_5_228 : (.code yX12_litBy cX12_litBy 2 (some .int) : Cond) ∈ gG := gG_t5 (List.mem_of_getElem? (i := 228) rfl) rfl
theorem mw_5_229 : (.methodLink RX12 284 yX12_isTowards : Cond) ∈ gG := gG_t5 (List.mem_of_getElem? (i := 229) rfl) rfl
theorem mw_5_231 : (.instanceMethod yX12_isTowards : Cond) ∈ gG := gG_t5 (List.mem_of_getElem? (i := 231) rfl) rfl
theorem mw_5_232 : (.code yX12_isTowards cX12_isTowards 3 (some .boolean) : Cond) ∈ gG := gG_t5 (List.mem_of_getElem? (i := 232) rfl) rfl
theorem mw_5_233 : (.methodLink RX12 265 yX12_sideOf : Cond) ∈ gG := gG_t5 (List.mem_of_getElem? (i := 233) rfl) rfl
theorem mw_5_235 : (.instanceMethod yX12_sideOf : Cond) ∈ gG := gG_t5 (List.mem_of_getElem? (i := 235) rfl) rfl
theorem mw_5_236 : (.code yX12_sideOf cX12_sideOf 7 (some .int) : Cond) ∈ gG := gG_t5 (List.mem_of_getElem? (i := 236) rfl) rfl
theorem mw_5_237 : (.methodLink RX12 287 yX12_between : Cond) ∈ gG := gG_t5 (List.mem_of_getElem? (i := 237) rfl) rfl
theorem mw_5_239 : (.instanceMethod yX12_between : Cond) ∈ gG := gG_t5 (List.mem_of_getElem? (i := 239) rfl) rfl
theorem mw_6_0 : (.code yX12_between cX12_between 7 (some .int) : Cond) ∈ gG := gG_t6 (List.mem_of_getElem? (i := 0) rfl) rfl
theorem mw_6_1 : (.methodLink RX12 291 yX12_levelOf : Cond) ∈ gG := gG_t6 (List.mem_of_getElem? (i := 1) rfl) rfl
theorem mw_6_3 : (.instanceMethod yX12_levelOf : Cond) ∈ gG := gG_t6 (List.mem_of_getElem? (i := 3) rfl) rfl
theorem mw_6_4 : (.code yX12_levelOf cX12_levelOf 11 (some .int) : Cond) ∈ gG := gG_t6 (List.mem_of_getElem? (i := 4) rfl) rfl
theorem mw_6_5 : (.methodLink RX12 278 yX12_addSquare : Cond) ∈ gG := gG_t6 (List.mem_of_getElem? (i := 5) rfl) rfl
theorem mw_6_7 : (.instanceMethod yX12_addSquare : Cond) ∈ gG := gG_t6 (List.mem_of_getElem? (i := 7) rfl) rfl
theorem mw_6_8 : (.code yX12_addSquare cX12_addSquare 10 (none) : Cond) ∈ gG := gG_t6 (List.mem_of_getElem? (i := 8) rfl) rfl
theorem mw_6_9 : (.methodLink RX12 271 yX12_isNumber : Cond) ∈ gG := gG_t6 (List.mem_of_getElem? (i := 9) rfl) rfl
theorem mw_6_10 : (.static yX12_isNumber : Cond) ∈ gG := gG_t6 (List.mem_of_getElem? (i := 10) rfl) rfl
theorem mw_6_11 : (.code yX12_isNumber cX12_isNumber 4 (none) : Cond) ∈ gG := gG_t6 (List.mem_of_getElem? (i := 11) rfl) rfl
theorem mw_6_12 : (.constantLong RX12 269 (1073741823) : Cond) ∈ gG := gG_t6 (List.mem_of_getElem? (i := 12) rfl) rfl
theorem mw_6_13 : (.methodLink RX12 275 yX12_times : Cond) ∈ gG := gG_t6 (List.mem_of_getElem? (i := 13) rfl) rfl
theorem mw_6_15 : (.instanceMethod yX12_times : Cond) ∈ gG := gG_t6 (List.mem_of_getElem? (i := 15) rfl) rfl
theorem mw_6_16 : (.code yX12_times cX12_times 12 (none) : Cond) ∈ gG := gG_t6 (List.mem_of_getElem? (i := 16) rfl) rfl
theorem mw_6_17 : (.constantLong RX12 282 (225) : Cond) ∈ gG := gG_t6 (List.mem_of_getElem? (i := 17) rfl) rfl
theorem mw_6_18 : (.methodLink R_law 98 yX12_shadow : Cond) ∈ gG := gG_t6 (List.mem_of_getElem? (i := 18) rfl) rfl
theorem mw_6_19 : (.instanceMethod yX12_shadow : Cond) ∈ gG := gG_t6 (List.mem_of_getElem? (i := 19) rfl) rfl
theorem mw_6_20 : (.selects RX12 yX12_shadow yX12_shadow : Cond) ∈ gG := gG_t6 (List.mem_of_getElem? (i := 20) rfl) rfl
theorem mw_6_21 : (.code yX12_shadow cX12_shadow 4 (some .int) : Cond) ∈ gG := gG_t6 (List.mem_of_getElem? (i := 21) rfl) rfl
theorem mw_6_22 : (.methodLink R_law 102 yX12_pixel : Cond) ∈ gG := gG_t6 (List.mem_of_getElem? (i := 22) rfl) rfl
theorem mw_6_23 : (.instanceMethod yX12_pixel : Cond) ∈ gG := gG_t6 (List.mem_of_getElem? (i := 23) rfl) rfl
theorem mw_6_24 : (.selects RX12 yX12_pixel yX12_pixel : Cond) ∈ gG := gG_t6 (List.mem_of_getElem? (i := 24) rfl) rfl
theorem mw_6_25 : (.code yX12_pixel cX12_pixel 3 (some .int) : Cond) ∈ gG := gG_t6 (List.mem_of_getElem? (i := 25) rfl) rfl
theorem mw_6_26 : (.methodLink RX12 297 yX12_pixelOf : Cond) ∈ gG := gG_t6 (List.mem_of_getElem? (i := 26) rfl) rfl
theorem mw_6_28 : (.instanceMethod yX12_pixelOf : Cond) ∈ gG := gG_t6 (List.mem_of_getElem? (i := 28) rfl) rfl
theorem mw_6_29 : (.code yX12_pixelOf cX12_pixelOf 6 (some .int) : Cond) ∈ gG := gG_t6 (List.mem_of_getElem? (i := 29) rfl) rfl
theorem mw_6_30 : (.methodLink R_law 106 yX12_picture : Cond) ∈ gG := gG_t6 (List.mem_of_getElem? (i := 30) rfl) rfl
theorem mw_6_31 : (.instanceMethod yX12_picture : Cond) ∈ gG := gG_t6 (List.mem_of_getElem? (i := 31) rfl) rfl
theorem mw_6_32 : (.selects RX12 yX12_picture yX12_picture : Cond) ∈ gG := gG_t6 (List.mem_of_getElem? (i := 32) rfl) rfl
theorem mw_6_33 : (.code yX12_picture cX12_picture 8 (some .int) : Cond) ∈ gG := gG_t6 (List.mem_of_getElem? (i := 33) rfl) rfl
theorem mw_6_34 : (.methodLink R_law 110 yX12_seen : Cond) ∈ gG := gG_t6 (List.mem_of_getElem? (i := 34) rfl) rfl
theorem mw_6_35 : (.instanceMethod yX12_seen : Cond) ∈ gG := gG_t6 (List.mem_of_getElem? (i := 35) rfl) rfl
theorem mw_6_36 : (.selects RX12 yX12_seen yX12_seen : Cond) ∈ gG := gG_t6 (List.mem_of_getElem? (i := 36) rfl) rfl
theorem mw_6_37 : (.code yX12_seen cX12_seen 4 (some .int) : Cond) ∈ gG := gG_t6 (List.mem_of_getElem? (i := 37) rfl) rfl
theorem mw_6_38 : (.methodLink R_law 114 yX12_facing : Cond) ∈ gG := gG_t6 (List.mem_of_getElem? (i := 38) rfl) rfl
theorem mw_6_39 : (.instanceMethod yX12_facing : Cond) ∈ gG := gG_t6 (List.mem_of_getElem? (i := 39) rfl) rfl
theorem mw_6_40 : (.selects RX12 yX12_facing yX12_facing : Cond) ∈ gG := gG_t6 (List.mem_of_getElem? (i := 40) rfl) rfl
theorem mw_6_41 : (.code yX12_facing cX12_facing 2 (some .int) : Cond) ∈ gG := gG_t6 (List.mem_of_getElem? (i := 41) rfl) rfl
theorem mw_6_42 : (.methodLink R_law 118 yX12_touched : Cond) ∈ gG := gG_t6 (List.mem_of_getElem? (i := 42) rfl) rfl
theorem mw_6_43 : (.instanceMethod yX12_touched : Cond) ∈ gG := gG_t6 (List.mem_of_getElem? (i := 43) rfl) rfl
theorem mw_6_44 : (.selects RX12 yX12_touched yX12_touched : Cond) ∈ gG := gG_t6 (List.mem_of_getElem? (i := 44) rfl) rfl
theorem mw_6_45 : (.code yX12_touched cX12_touched 4 (some .int) : Cond) ∈ gG := gG_t6 (List.mem_of_getElem? (i := 45) rfl) rfl
theorem mw_6_46 : (.methodLink RX12 311 yX12_touches : Cond) ∈ gG := gG_t6 (List.mem_of_getElem? (i := 46) rfl) rfl
theorem mw_6_48 : (.instanceMethod yX12_touches : Cond) ∈ gG := gG_t6 (List.mem_of_getElem? (i := 48) rfl) rfl
theorem mw_6_49 : (.code yX12_touches cX12_touches 11 (some .boolean) : Cond) ∈ gG := gG_t6 (List.mem_of_getElem? (i := 49) rfl) rfl
theorem mw_6_50 : (.methodLink RX12 304 yX12_wayIs : Cond) ∈ gG := gG_t6 (List.mem_of_getElem? (i := 50) rfl) rfl
theorem mw_6_52 : (.instanceMethod yX12_wayIs : Cond) ∈ gG := gG_t6 (List.mem_of_getElem? (i := 52) rfl) rfl
theorem mw_6_53 : (.code yX12_wayIs cX12_wayIs 7 (none) : Cond) ∈ gG := gG_t6 (List.mem_of_getElem? (i := 53) rfl) rfl
theorem mw_6_54 : (.methodLink RX12 308 yX12_areApart : Cond) ∈ gG := gG_t6 (List.mem_of_getElem? (i := 54) rfl) rfl
theorem mw_6_56 : (.instanceMethod yX12_areApart : Cond) ∈ gG := gG_t6 (List.mem_of_getElem? (i := 56) rfl) rfl
theorem mw_6_57 : (.code yX12_areApart cX12_areApart 15 (some .boolean) : Cond) ∈ gG := gG_t6 (List.mem_of_getElem? (i := 57) rfl) rfl
theorem mw_6_58 : (.constantLong RX12 300 (4000000000000000000) : Cond) ∈ gG := gG_t6 (List.mem_of_getElem? (i := 58) rfl) rfl
theorem mw_6_59 : (.constantLong RX12 302 (-4000000000000000000) : Cond) ∈ gG := gG_t6 (List.mem_of_getElem? (i := 59) rfl) rfl
theorem mw_6_60 : (.methodLink R_law 122 yX12_shared : Cond) ∈ gG := gG_t6 (List.mem_of_getElem? (i := 60) rfl) rfl
theorem mw_6_61 : (.instanceMethod yX12_shared : Cond) ∈ gG := gG_t6 (List.mem_of_getElem? (i := 61) rfl) rfl
theorem mw_6_62 : (.selects RX12 yX12_shared yX12_shared : Cond) ∈ gG := gG_t6 (List.mem_of_getElem? (i := 62) rfl) rfl
theorem mw_6_63 : (.code yX12_shared cX12_shared 8 (some .int) : Cond) ∈ gG := gG_t6 (List.mem_of_getElem? (i := 63) rfl) rfl
theorem mw_6_64 : (.methodLink R_law 126 yX12_count : Cond) ∈ gG := gG_t6 (List.mem_of_getElem? (i := 64) rfl) rfl
theorem mw_6_65 : (.instanceMethod yX12_count : Cond) ∈ gG := gG_t6 (List.mem_of_getElem? (i := 65) rfl) rfl
theorem mw_6_66 : (.selects RX12 yX12_count yX12_count : Cond) ∈ gG := gG_t6 (List.mem_of_getElem? (i := 66) rfl) rfl
theorem mw_6_67 : (.code yX12_count cX12_count 4 (some .int) : Cond) ∈ gG := gG_t6 (List.mem_of_getElem? (i := 67) rfl) rfl
theorem mws_0 : (.selects RX5 yX5_tryCorner yX5_tryCorner : Cond) ∈ gG := gG_sel (List.mem_of_getElem? (i := 0) rfl) rfl
theorem mws_1 : (.selects RX5 yX5_trialIsFlat yX5_trialIsFlat : Cond) ∈ gG := gG_sel (List.mem_of_getElem? (i := 1) rfl) rfl
theorem mws_2 : (.selects RX5 yX5_storeTrial yX5_storeTrial : Cond) ∈ gG := gG_sel (List.mem_of_getElem? (i := 2) rfl) rfl
theorem mws_3 : (.selects RX9 yX9_branch yX9_branch : Cond) ∈ gG := gG_sel (List.mem_of_getElem? (i := 3) rfl) rfl
theorem mws_4 : (.selects RX9 yX9_fitBox yX9_fitBox : Cond) ∈ gG := gG_sel (List.mem_of_getElem? (i := 4) rfl) rfl
theorem mws_5 : (.selects RX9 yX9_widestAxis yX9_widestAxis : Cond) ∈ gG := gG_sel (List.mem_of_getElem? (i := 5) rfl) rfl
theorem mws_6 : (.selects RX9 yX9_spreadAlong yX9_spreadAlong : Cond) ∈ gG := gG_sel (List.mem_of_getElem? (i := 6) rfl) rfl
theorem mws_7 : (.selects RX9 yX9_sortAlong yX9_sortAlong : Cond) ∈ gG := gG_sel (List.mem_of_getElem? (i := 7) rfl) rfl
theorem mws_8 : (.selects RX11 yX11_look yX11_look : Cond) ∈ gG := gG_sel (List.mem_of_getElem? (i := 8) rfl) rfl
theorem mws_9 : (.selects RX7 yX7_comesToPlane yX7_comesToPlane : Cond) ∈ gG := gG_sel (List.mem_of_getElem? (i := 9) rfl) rfl
theorem mws_10 : (.selects RX7 yX7_isInside yX7_isInside : Cond) ∈ gG := gG_sel (List.mem_of_getElem? (i := 10) rfl) rfl
theorem mws_11 : (.selects RX9 yX9_reachesBox yX9_reachesBox : Cond) ∈ gG := gG_sel (List.mem_of_getElem? (i := 11) rfl) rfl
theorem mws_12 : (.selects RX11 yX11_levelOf yX11_levelOf : Cond) ∈ gG := gG_sel (List.mem_of_getElem? (i := 12) rfl) rfl
theorem mws_13 : (.selects RX11 yX11_isOnEyeSide yX11_isOnEyeSide : Cond) ∈ gG := gG_sel (List.mem_of_getElem? (i := 13) rfl) rfl
theorem mws_14 : (.selects RX11 yX11_eyeSide yX11_eyeSide : Cond) ∈ gG := gG_sel (List.mem_of_getElem? (i := 14) rfl) rfl
theorem mws_15 : (.selects RX11 yX11_lampSide yX11_lampSide : Cond) ∈ gG := gG_sel (List.mem_of_getElem? (i := 15) rfl) rfl
theorem mws_16 : (.selects RX11 yX11_blocker yX11_blocker : Cond) ∈ gG := gG_sel (List.mem_of_getElem? (i := 16) rfl) rfl
theorem mws_17 : (.selects RX11 yX11_colour yX11_colour : Cond) ∈ gG := gG_sel (List.mem_of_getElem? (i := 17) rfl) rfl
theorem mws_18 : (.selects RX11 yX11_unmarkAll yX11_unmarkAll : Cond) ∈ gG := gG_sel (List.mem_of_getElem? (i := 18) rfl) rfl
theorem mws_19 : (.selects RX11 yX11_pickMarked yX11_pickMarked : Cond) ∈ gG := gG_sel (List.mem_of_getElem? (i := 19) rfl) rfl
theorem mws_20 : (.selects RX0 yX0_isPartedAlong yX0_isPartedAlong : Cond) ∈ gG := gG_sel (List.mem_of_getElem? (i := 20) rfl) rfl
theorem mws_21 : (.selects RX5 yX5_isSamePlace yX5_isSamePlace : Cond) ∈ gG := gG_sel (List.mem_of_getElem? (i := 21) rfl) rfl
theorem mws_22 : (.selects RX12 yX12_crossOf yX12_crossOf : Cond) ∈ gG := gG_sel (List.mem_of_getElem? (i := 22) rfl) rfl
theorem mws_23 : (.selects RX12 yX12_setAxis yX12_setAxis : Cond) ∈ gG := gG_sel (List.mem_of_getElem? (i := 23) rfl) rfl
theorem mws_24 : (.selects RX12 yX12_areRays yX12_areRays : Cond) ∈ gG := gG_sel (List.mem_of_getElem? (i := 24) rfl) rfl
theorem mws_25 : (.selects RX12 yX12_newNode yX12_newNode : Cond) ∈ gG := gG_sel (List.mem_of_getElem? (i := 25) rfl) rfl
theorem mws_26 : (.selects RX12 yX12_boxOf yX12_boxOf : Cond) ∈ gG := gG_sel (List.mem_of_getElem? (i := 26) rfl) rfl
theorem mws_27 : (.selects RX12 yX12_sort yX12_sort : Cond) ∈ gG := gG_sel (List.mem_of_getElem? (i := 27) rfl) rfl
theorem mws_28 : (.selects RX12 yX12_middle yX12_middle : Cond) ∈ gG := gG_sel (List.mem_of_getElem? (i := 28) rfl) rfl
theorem mws_29 : (.selects RX12 yX12_isBehind yX12_isBehind : Cond) ∈ gG := gG_sel (List.mem_of_getElem? (i := 29) rfl) rfl
theorem mws_30 : (.selects RX12 yX12_isPixel yX12_isPixel : Cond) ∈ gG := gG_sel (List.mem_of_getElem? (i := 30) rfl) rfl
theorem mws_31 : (.selects RX12 yX12_findFirst yX12_findFirst : Cond) ∈ gG := gG_sel (List.mem_of_getElem? (i := 31) rfl) rfl
theorem mws_32 : (.selects RX12 yX12_rayOf yX12_rayOf : Cond) ∈ gG := gG_sel (List.mem_of_getElem? (i := 32) rfl) rfl
theorem mws_33 : (.selects RX12 yX12_looks yX12_looks : Cond) ∈ gG := gG_sel (List.mem_of_getElem? (i := 33) rfl) rfl
theorem mws_34 : (.selects RX12 yX12_hits yX12_hits : Cond) ∈ gG := gG_sel (List.mem_of_getElem? (i := 34) rfl) rfl
theorem mws_35 : (.selects RX12 yX12_triple yX12_triple : Cond) ∈ gG := gG_sel (List.mem_of_getElem? (i := 35) rfl) rfl
theorem mws_36 : (.selects RX12 yX12_findPlace yX12_findPlace : Cond) ∈ gG := gG_sel (List.mem_of_getElem? (i := 36) rfl) rfl
theorem mws_37 : (.selects RX12 yX12_meetsBox yX12_meetsBox : Cond) ∈ gG := gG_sel (List.mem_of_getElem? (i := 37) rfl) rfl
theorem mws_38 : (.selects RX12 yX12_litBy yX12_litBy : Cond) ∈ gG := gG_sel (List.mem_of_getElem? (i := 38) rfl) rfl
theorem mws_39 : (.selects RX12 yX12_isTowards yX12_isTowards : Cond) ∈ gG := gG_sel (List.mem_of_getElem? (i := 39) rfl) rfl
theorem mws_40 : (.selects RX12 yX12_sideOf yX12_sideOf : Cond) ∈ gG := gG_sel (List.mem_of_getElem? (i := 40) rfl) rfl
theorem mws_41 : (.selects RX12 yX12_between yX12_between : Cond) ∈ gG := gG_sel (List.mem_of_getElem? (i := 41) rfl) rfl
theorem mws_42 : (.selects RX12 yX12_levelOf yX12_levelOf : Cond) ∈ gG := gG_sel (List.mem_of_getElem? (i := 42) rfl) rfl
theorem mws_43 : (.selects RX12 yX12_addSquare yX12_addSquare : Cond) ∈ gG := gG_sel (List.mem_of_getElem? (i := 43) rfl) rfl
theorem mws_44 : (.selects RX12 yX12_times yX12_times : Cond) ∈ gG := gG_sel (List.mem_of_getElem? (i := 44) rfl) rfl
theorem mws_45 : (.selects RX12 yX12_pixelOf yX12_pixelOf : Cond) ∈ gG := gG_sel (List.mem_of_getElem? (i := 45) rfl) rfl
theorem mws_46 : (.selects RX12 yX12_touches yX12_touches : Cond) ∈ gG := gG_sel (List.mem_of_getElem? (i := 46) rfl) rfl
theorem mws_47 : (.selects RX12 yX12_wayIs yX12_wayIs : Cond) ∈ gG := gG_sel (List.mem_of_getElem? (i := 47) rfl) rfl
theorem mws_48 : (.selects RX12 yX12_areApart yX12_areApart : Cond) ∈ gG := gG_sel (List.mem_of_getElem? (i := 48) rfl) rfl
theorem inG_0 : ∀ w ∈ u_ws RX0 TX0 2, w ∈ gG := show ∀ w ∈ ([.laysFinal RX0 "RayRoom$Box" "middle" "[J", .laysFinal RX0 "RayRoom$Box" "reach" "[J"] : List Cond), w ∈ gG from List.forall_mem_cons.mpr ⟨mw_2_36, List.forall_mem_cons.mpr ⟨mw_2_38, fun _ h => absurd h List.not_mem_nil⟩⟩
theorem inG_1 : ∀ w ∈ u_ws RX1 TX1 5, w ∈ gG := show ∀ w ∈ ([.laysFinal RX1 "RayRoom$Camera" "eye" "[I", .laysFinal RX1 "RayRoom$Camera" "axes" "[I", .laysFinal RX1 "RayRoom$Camera" "trial" "[I", .lays RX1 "RayRoom$Camera" "w" "I", .lays RX1 "RayRoom$Camera" "h" "I"] : List Cond), w ∈ gG from List.forall_mem_cons.mpr ⟨mw_1_77, List.forall_mem_cons.mpr ⟨mw_1_79, List.forall_mem_cons.mpr ⟨mw_1_81, List.forall_mem_cons.mpr ⟨mw_1_83, List.forall_mem_cons.mpr ⟨mw_1_85, fun _ h => absurd h List.not_mem_nil⟩⟩⟩⟩⟩
theorem inG_2 : ∀ w ∈ u_ws RX2 TX2 4, w ∈ gG := show ∀ w ∈ ([.laysFinal RX2 "RayRoom$Crossings" "triangles" "[I", .laysFinal RX2 "RayRoom$Crossings" "far" "[J", .laysFinal RX2 "RayRoom$Crossings" "over" "[J", .lays RX2 "RayRoom$Crossings" "many" "I"] : List Cond), w ∈ gG from List.forall_mem_cons.mpr ⟨mw_1_155, List.forall_mem_cons.mpr ⟨mw_1_157, List.forall_mem_cons.mpr ⟨mw_1_159, List.forall_mem_cons.mpr ⟨mw_1_161, fun _ h => absurd h List.not_mem_nil⟩⟩⟩⟩
theorem inG_3 : ∀ w ∈ u_ws RX3 TX3 4, w ∈ gG := show ∀ w ∈ ([.laysFinal RX3 "RayRoom$Hit" "time" "[J", .laysFinal RX3 "RayRoom$Hit" "place" "[J", .laysFinal RX3 "RayRoom$Hit" "weights" "[J", .lays RX3 "RayRoom$Hit" "which" "I"] : List Cond), w ∈ gG from List.forall_mem_cons.mpr ⟨mw_1_177, List.forall_mem_cons.mpr ⟨mw_1_179, List.forall_mem_cons.mpr ⟨mw_1_181, List.forall_mem_cons.mpr ⟨mw_1_183, fun _ h => absurd h List.not_mem_nil⟩⟩⟩⟩
theorem inG_4 : ∀ w ∈ u_ws RX4 TX4 4, w ∈ gG := show ∀ w ∈ ([.laysFinal RX4 "RayRoom$Lamps" "places" "[I", .laysFinal RX4 "RayRoom$Lamps" "strengths" "[I", .laysFinal RX4 "RayRoom$Lamps" "values" "[I", .lays RX4 "RayRoom$Lamps" "ambient" "I"] : List Cond), w ∈ gG from List.forall_mem_cons.mpr ⟨mw_1_98, List.forall_mem_cons.mpr ⟨mw_1_100, List.forall_mem_cons.mpr ⟨mw_1_102, List.forall_mem_cons.mpr ⟨mw_1_104, fun _ h => absurd h List.not_mem_nil⟩⟩⟩⟩
theorem inG_5 : ∀ w ∈ u_ws RX5 TX5 6, w ∈ gG := show ∀ w ∈ ([.laysFinal RX5 "RayRoom$Mesh" "corners" "[I", .laysFinal RX5 "RayRoom$Mesh" "normals" "[I", .laysFinal RX5 "RayRoom$Mesh" "tones" "[I", .laysFinal RX5 "RayRoom$Mesh" "trial" "[I", .laysFinal RX5 "RayRoom$Mesh" "trialNormal" "[I", .lays RX5 "RayRoom$Mesh" "many" "I"] : List Cond), w ∈ gG from List.forall_mem_cons.mpr ⟨mw_1_50, List.forall_mem_cons.mpr ⟨mw_1_52, List.forall_mem_cons.mpr ⟨mw_1_54, List.forall_mem_cons.mpr ⟨mw_1_56, List.forall_mem_cons.mpr ⟨mw_1_58, List.forall_mem_cons.mpr ⟨mw_1_60, fun _ h => absurd h List.not_mem_nil⟩⟩⟩⟩⟩⟩
theorem inG_6 : ∀ w ∈ u_ws RX6 TX6 2, w ∈ gG := show ∀ w ∈ ([.laysFinal RX6 "RayRoom$Points" "coordinates" "[I", .lays RX6 "RayRoom$Points" "many" "I"] : List Cond), w ∈ gG from List.forall_mem_cons.mpr ⟨mw_1_32, List.forall_mem_cons.mpr ⟨mw_1_34, fun _ h => absurd h List.not_mem_nil⟩⟩
theorem inG_7 : ∀ w ∈ u_ws RX7 TX7 8, w ∈ gG := show ∀ w ∈ ([.laysFinal RX7 "RayRoom$Ray" "from" "[J", .laysFinal RX7 "RayRoom$Ray" "along" "[J", .lays RX7 "RayRoom$Ray" "turn" "J", .lays RX7 "RayRoom$Ray" "far" "J", .lays RX7 "RayRoom$Ray" "over" "J", .lays RX7 "RayRoom$Ray" "weightA" "J", .lays RX7 "RayRoom$Ray" "weightB" "J", .lays RX7 "RayRoom$Ray" "weightC" "J"] : List Cond), w ∈ gG from List.forall_mem_cons.mpr ⟨mw_1_216, List.forall_mem_cons.mpr ⟨mw_1_218, List.forall_mem_cons.mpr ⟨mw_1_220, List.forall_mem_cons.mpr ⟨mw_1_222, List.forall_mem_cons.mpr ⟨mw_1_224, List.forall_mem_cons.mpr ⟨mw_1_226, List.forall_mem_cons.mpr ⟨mw_1_228, List.forall_mem_cons.mpr ⟨mw_1_230, fun _ h => absurd h List.not_mem_nil⟩⟩⟩⟩⟩⟩⟩⟩
theorem inG_8 : ∀ w ∈ u_ws RX8 TX8 6, w ∈ gG := show ∀ w ∈ ([.laysFinal RX8 "RayRoom$Slope" "factor" "LRayRoom$Wide;", .laysFinal RX8 "RayRoom$Slope" "square" "LRayRoom$Wide;", .laysFinal RX8 "RayRoom$Slope" "waySquare" "LRayRoom$Wide;", .laysFinal RX8 "RayRoom$Slope" "riseSquare" "LRayRoom$Wide;", .laysFinal RX8 "RayRoom$Slope" "unit" "LRayRoom$Wide;", .laysFinal RX8 "RayRoom$Slope" "bound" "LRayRoom$Wide;"] : List Cond), w ∈ gG from List.forall_mem_cons.mpr ⟨mw_2_15, List.forall_mem_cons.mpr ⟨mw_2_17, List.forall_mem_cons.mpr ⟨mw_2_19, List.forall_mem_cons.mpr ⟨mw_2_21, List.forall_mem_cons.mpr ⟨mw_2_23, List.forall_mem_cons.mpr ⟨mw_2_25, fun _ h => absurd h List.not_mem_nil⟩⟩⟩⟩⟩⟩
theorem inG_9 : ∀ w ∈ u_ws RX9 TX9 10, w ∈ gG := show ∀ w ∈ ([.laysFinal RX9 "RayRoom$Tree" "order" "[I", .laysFinal RX9 "RayRoom$Tree" "first" "[I", .laysFinal RX9 "RayRoom$Tree" "many" "[I", .laysFinal RX9 "RayRoom$Tree" "lower" "[I", .laysFinal RX9 "RayRoom$Tree" "upper" "[I", .laysFinal RX9 "RayRoom$Tree" "above" "[I", .laysFinal RX9 "RayRoom$Tree" "bounds" "[I", .laysFinal RX9 "RayRoom$Tree" "met" "[Z", .lays RX9 "RayRoom$Tree" "nodes" "I", .lays RX9 "RayRoom$Tree" "deepest" "I"] : List Cond), w ∈ gG from List.forall_mem_cons.mpr ⟨mw_1_123, List.forall_mem_cons.mpr ⟨mw_1_125, List.forall_mem_cons.mpr ⟨mw_1_127, List.forall_mem_cons.mpr ⟨mw_1_129, List.forall_mem_cons.mpr ⟨mw_1_131, List.forall_mem_cons.mpr ⟨mw_1_133, List.forall_mem_cons.mpr ⟨mw_1_135, List.forall_mem_cons.mpr ⟨mw_1_137, List.forall_mem_cons.mpr ⟨mw_1_139, List.forall_mem_cons.mpr ⟨mw_1_141, fun _ h => absurd h List.not_mem_nil⟩⟩⟩⟩⟩⟩⟩⟩⟩⟩
theorem inG_10 : ∀ w ∈ u_ws RX10 TX10 1, w ∈ gG := show ∀ w ∈ ([.laysFinal RX10 "RayRoom$Wide" "limbs" "[J"] : List Cond), w ∈ gG from List.forall_mem_cons.mpr ⟨mw_2_6, fun _ h => absurd h List.not_mem_nil⟩
theorem inG_11 : ∀ w ∈ u_ws RX11 TX11 14, w ∈ gG := show ∀ w ∈ ([.laysFinal RX11 "RayRoom" "points" "LRayRoom$Points;", .laysFinal RX11 "RayRoom" "mesh" "LRayRoom$Mesh;", .laysFinal RX11 "RayRoom" "camera" "LRayRoom$Camera;", .laysFinal RX11 "RayRoom" "lamps" "LRayRoom$Lamps;", .laysFinal RX11 "RayRoom" "tree" "LRayRoom$Tree;", .laysFinal RX11 "RayRoom" "crossings" "LRayRoom$Crossings;", .laysFinal RX11 "RayRoom" "atHand" "LRayRoom$Hit;", .laysFinal RX11 "RayRoom" "view" "LRayRoom$Hit;", .laysFinal RX11 "RayRoom" "sight" "LRayRoom$Ray;", .laysFinal RX11 "RayRoom" "shade" "LRayRoom$Ray;", .laysFinal RX11 "RayRoom" "slope" "LRayRoom$Slope;", .laysFinal RX11 "RayRoom" "box" "LRayRoom$Box;", .laysFinal RX11 "RayRoom" "marked" "[Z", .lays RX11 "RayRoom" "back" "I"] : List Cond), w ∈ gG from List.forall_mem_cons.mpr ⟨mw_2_55, List.forall_mem_cons.mpr ⟨mw_2_57, List.forall_mem_cons.mpr ⟨mw_2_59, List.forall_mem_cons.mpr ⟨mw_2_61, List.forall_mem_cons.mpr ⟨mw_2_63, List.forall_mem_cons.mpr ⟨mw_2_65, List.forall_mem_cons.mpr ⟨mw_2_67, List.forall_mem_cons.mpr ⟨mw_2_69, List.forall_mem_cons.mpr ⟨mw_2_71, List.forall_mem_cons.mpr ⟨mw_2_73, List.forall_mem_cons.mpr ⟨mw_2_75, List.forall_mem_cons.mpr ⟨mw_2_77, List.forall_mem_cons.mpr ⟨mw_2_79, List.forall_mem_cons.mpr ⟨mw_2_81, fun _ h => absurd h List.not_mem_nil⟩⟩⟩⟩⟩⟩⟩⟩⟩⟩⟩⟩⟩⟩
theorem inG_12 : ∀ w ∈ u_ws RX12 TX12 54, w ∈ gG := show ∀ w ∈ ([.lays RX12 "RayRoomModel" "points" "I", .laysFinal RX12 "RayRoomModel" "point" "[I", .lays RX12 "RayRoomModel" "triangles" "I", .laysFinal RX12 "RayRoomModel" "corner" "[I", .laysFinal RX12 "RayRoomModel" "normal" "[J", .laysFinal RX12 "RayRoomModel" "tone" "[I", .laysFinal RX12 "RayRoomModel" "eye" "[I", .laysFinal RX12 "RayRoomModel" "axis" "[J", .lays RX12 "RayRoomModel" "wide" "I", .lays RX12 "RayRoomModel" "high" "I", .laysFinal RX12 "RayRoomModel" "light" "[I", .laysFinal RX12 "RayRoomModel" "strength" "[I", .laysFinal RX12 "RayRoomModel" "table" "[I", .lays RX12 "RayRoomModel" "ambient" "I", .lays RX12 "RayRoomModel" "back" "I", .laysFinal RX12 "RayRoomModel" "cross" "[J", .laysFinal RX12 "RayRoomModel" "moved" "[I", .lays RX12 "RayRoomModel" "nodes" "I", .lays RX12 "RayRoomModel" "least" "I", .laysFinal RX12 "RayRoomModel" "nFirst" "[I", .laysFinal RX12 "RayRoomModel" "nMany" "[I", .laysFinal RX12 "RayRoomModel" "nLow" "[I", .laysFinal RX12 "RayRoomModel" "nHigh" "[I", .laysFinal RX12 "RayRoomModel" "nAbove" "[I", .laysFinal RX12 "RayRoomModel" "nDepth" "[I", .laysFinal RX12 "RayRoomModel" "box" "[I", .laysFinal RX12 "RayRoomModel" "order" "[I", .laysFinal RX12 "RayRoomModel" "other" "[I", .laysFinal RX12 "RayRoomModel" "todo" "[I", .laysFinal RX12 "RayRoomModel" "d" "[J", .lays RX12 "RayRoomModel" "above" "J", .lays RX12 "RayRoomModel" "below" "J", .laysFinal RX12 "RayRoomModel" "weight" "[J", .laysFinal RX12 "RayRoomModel" "from" "[J", .laysFinal RX12 "RayRoomModel" "along" "[J", .laysFinal RX12 "RayRoomModel" "seen" "[J", .lays RX12 "RayRoomModel" "first" "I", .lays RX12 "RayRoomModel" "firstAbove" "J", .lays RX12 "RayRoomModel" "firstBelow" "J", .laysFinal RX12 "RayRoomModel" "firstWeight" "[J", .lays RX12 "RayRoomModel" "atHand" "Z", .laysFinal RX12 "RayRoomModel" "hand" "[J", .laysFinal RX12 "RayRoomModel" "place" "[J", .lays RX12 "RayRoomModel" "crossings" "I", .laysFinal RX12 "RayRoomModel" "crossed" "[I", .laysFinal RX12 "RayRoomModel" "crossAbove" "[J", .laysFinal RX12 "RayRoomModel" "crossBelow" "[J", .laysFinal RX12 "RayRoomModel" "met" "[Z", .laysFinal RX12 "RayRoomModel" "one" "[J", .laysFinal RX12 "RayRoomModel" "two" "[J", .laysFinal RX12 "RayRoomModel" "product" "[J", .laysFinal RX12 "RayRoomModel" "squares" "[J", .laysFinal RX12 "RayRoomModel" "isSeen" "[Z", .laysFinal RX12 "RayRoomModel" "way" "[J"] : List Cond), w ∈ gG from List.forall_mem_cons.mpr ⟨mw_4_196, List.forall_mem_cons.mpr ⟨mw_4_198, List.forall_mem_cons.mpr ⟨mw_4_200, List.forall_mem_cons.mpr ⟨mw_4_202, List.forall_mem_cons.mpr ⟨mw_4_204, List.forall_mem_cons.mpr ⟨mw_4_206, List.forall_mem_cons.mpr ⟨mw_4_208, List.forall_mem_cons.mpr ⟨mw_4_210, List.forall_mem_cons.mpr ⟨mw_4_212, List.forall_mem_cons.mpr ⟨mw_4_214, List.forall_mem_cons.mpr ⟨mw_4_216, List.forall_mem_cons.mpr ⟨mw_4_218, List.forall_mem_cons.mpr ⟨mw_4_220, List.forall_mem_cons.mpr ⟨mw_4_222, List.forall_mem_cons.mpr ⟨mw_4_224, List.forall_mem_cons.mpr ⟨mw_4_226, List.forall_mem_cons.mpr ⟨mw_4_228, List.forall_mem_cons.mpr ⟨mw_4_230, List.forall_mem_cons.mpr ⟨mw_4_232, List.forall_mem_cons.mpr ⟨mw_4_234, List.forall_mem_cons.mpr ⟨mw_4_236, List.forall_mem_cons.mpr ⟨mw_4_238, List.forall_mem_cons.mpr ⟨mw_5_0, List.forall_mem_cons.mpr ⟨mw_5_2, List.forall_mem_cons.mpr ⟨mw_5_4, List.forall_mem_cons.mpr ⟨mw_5_6, List.forall_mem_cons.mpr ⟨mw_5_8, List.forall_mem_cons.mpr ⟨mw_5_10, List.forall_mem_cons.mpr ⟨mw_5_12, List.forall_mem_cons.mpr ⟨mw_5_14, List.forall_mem_cons.mpr ⟨mw_5_16, List.forall_mem_cons.mpr ⟨mw_5_18, List.forall_mem_cons.mpr ⟨mw_5_20, List.forall_mem_cons.mpr ⟨mw_5_22, List.forall_mem_cons.mpr ⟨mw_5_24, List.forall_mem_cons.mpr ⟨mw_5_26, List.forall_mem_cons.mpr ⟨mw_5_28, List.forall_mem_cons.mpr ⟨mw_5_30, List.forall_mem_cons.mpr ⟨mw_5_32, List.forall_mem_cons.mpr ⟨mw_5_34, List.forall_mem_cons.mpr ⟨mw_5_36, List.forall_mem_cons.mpr ⟨mw_5_38, List.forall_mem_cons.mpr ⟨mw_5_40, List.forall_mem_cons.mpr ⟨mw_5_42, List.forall_mem_cons.mpr ⟨mw_5_44, List.forall_mem_cons.mpr ⟨mw_5_46, List.forall_mem_cons.mpr ⟨mw_5_48, List.forall_mem_cons.mpr ⟨mw_5_50, List.forall_mem_cons.mpr ⟨mw_5_52, List.forall_mem_cons.mpr ⟨mw_5_54, List.forall_mem_cons.mpr ⟨mw_5_56, List.forall_mem_cons.mpr ⟨mw_5_58, List.forall_mem_cons.mpr ⟨mw_5_60, List.forall_mem_cons.mpr ⟨mw_5_62, fun _ h => absurd h List.not_mem_nil⟩⟩⟩⟩⟩⟩⟩⟩⟩⟩⟩⟩⟩⟩⟩⟩⟩⟩⟩⟩⟩⟩⟩⟩⟩⟩⟩⟩⟩⟩⟩⟩⟩⟩⟩⟩⟩⟩⟩⟩⟩⟩⟩⟩⟩⟩⟩⟩⟩⟩⟩⟩⟩⟩
def gW (y : MethodName) (c : ByteArray) (n : Nat) (r : Option FieldType) : List Cond := .code y c n r :: gG
theorem gW_in {y : MethodName} {c : ByteArray} {n : Nat} {r : Option FieldType} {y0 : MethodName} {c0 : ByteArray} {n0 : Nat} {r0 : Option FieldType} (h : Cond.code y c n r ∈ gG) : GoodIn (gW y0 c0 n0 r0) (gW y c n r) := fun w hw => by
  rcases List.mem_cons.mp hw with e | e
  · subst e; exact ⟨List.mem_cons_of_mem _ h, gG_good _ h⟩
  · exact ⟨List.mem_cons_of_mem _ e, gG_good _ e⟩
theorem gW_w {y0 : MethodName} {c0 : ByteArray} {n0 : Nat} {r0 : Option FieldType} {ws : List Cond} (h : ∀ w ∈ ws, w ∈ gG) : GoodIn (gW y0 c0 n0 r0) ws := fun w hw => ⟨List.mem_cons_of_mem _ (h w hw), gG_good _ (h w hw)⟩
theorem gW_app {Ts a b : List Cond} (ha : GoodIn Ts a) (hb : GoodIn Ts b) : GoodIn Ts (a ++ b) := fun w h => (List.mem_append.mp h).elim (ha w) (hb w)
theorem gV {own C : String} {idx : Nat} {y : MethodName} {c : ByteArray} {n : Nat} {r : Option FieldType} {y0 : MethodName} {c0 : ByteArray} {n0 : Nat} {r0 : Option FieldType} (h1 : Cond.methodLink own idx y ∈ gG) (h2 : Cond.instanceMethod y ∈ gG) (h3 : Cond.selects C y y ∈ gG) (h4 : Cond.initialized C ∈ gG) (h5 : Cond.code y c n r ∈ gG) :
    GoodIn (gW y0 c0 n0 r0) (wsV own idx C y (gW y c n r)) := gW_app (gW_w (List.forall_mem_cons.mpr ⟨h1, List.forall_mem_cons.mpr ⟨h2, List.forall_mem_cons.mpr ⟨h3, List.forall_mem_cons.mpr ⟨h4, fun _ h => absurd h List.not_mem_nil⟩⟩⟩⟩)) (gW_in h5)
theorem gS {own : String} {idx : Nat} {y : MethodName} {c : ByteArray} {n : Nat} {r : Option FieldType} {y0 : MethodName} {c0 : ByteArray} {n0 : Nat} {r0 : Option FieldType} (h1 : Cond.methodLink own idx y ∈ gG) (h2 : Cond.static y ∈ gG) (h4 : Cond.initialized y.cls ∈ gG) (h5 : Cond.code y c n r ∈ gG) :
    GoodIn (gW y0 c0 n0 r0) (va_wsS own idx y (gW y c n r)) := gW_app (gW_w (List.forall_mem_cons.mpr ⟨h1, List.forall_mem_cons.mpr ⟨h2, List.forall_mem_cons.mpr ⟨h4, fun _ h => absurd h List.not_mem_nil⟩⟩⟩)) (gW_in h5)
