/-! membership of the tables' words, by their places -/
def goTb : List Cond := lw_tbl.filter goodWord
theorem wl_1 {w : Cond} (h : w ∈ tables_1_1) : w ∈ lw_tbl := List.mem_append_right _ (List.mem_append_left _ h)
theorem wt_1 {w : Cond} (h : w ∈ tables_1_1) (g : goodWord w = true) : w ∈ goTb := List.mem_filter.mpr ⟨List.mem_append_right _ (List.mem_append_left _ h), g⟩
theorem wl_2 {w : Cond} (h : w ∈ tables_1_2) : w ∈ lw_tbl := List.mem_append_right _ (List.mem_append_right _ (List.mem_append_left _ h))
theorem wt_2 {w : Cond} (h : w ∈ tables_1_2) (g : goodWord w = true) : w ∈ goTb := List.mem_filter.mpr ⟨List.mem_append_right _ (List.mem_append_right _ (List.mem_append_left _ h)), g⟩
theorem wl_3 {w : Cond} (h : w ∈ tables_1_3) : w ∈ lw_tbl := List.mem_append_right _ (List.mem_append_right _ (List.mem_append_right _ (List.mem_append_left _ h)))
theorem wt_3 {w : Cond} (h : w ∈ tables_1_3) (g : goodWord w = true) : w ∈ goTb := List.mem_filter.mpr ⟨List.mem_append_right _ (List.mem_append_right _ (List.mem_append_right _ (List.mem_append_left _ h))), g⟩
theorem wl_4 {w : Cond} (h : w ∈ tables_1_4) : w ∈ lw_tbl := List.mem_append_right _ (List.mem_append_right _ (List.mem_append_right _ (List.mem_append_right _ (List.mem_append_left _ h))))
theorem wt_4 {w : Cond} (h : w ∈ tables_1_4) (g : goodWord w = true) : w ∈ goTb := List.mem_filter.mpr ⟨List.mem_append_right _ (List.mem_append_right _ (List.mem_append_right _ (List.mem_append_right _ (List.mem_append_left _ h)))), g⟩
theorem wl_5 {w : Cond} (h : w ∈ tables_1_5) : w ∈ lw_tbl := List.mem_append_right _ (List.mem_append_right _ (List.mem_append_right _ (List.mem_append_right _ (List.mem_append_right _ (List.mem_append_left _ h)))))
theorem wt_5 {w : Cond} (h : w ∈ tables_1_5) (g : goodWord w = true) : w ∈ goTb := List.mem_filter.mpr ⟨List.mem_append_right _ (List.mem_append_right _ (List.mem_append_right _ (List.mem_append_right _ (List.mem_append_right _ (List.mem_append_left _ h))))), g⟩
theorem wl_6 {w : Cond} (h : w ∈ tables_1_6) : w ∈ lw_tbl := List.mem_append_right _ (List.mem_append_right _ (List.mem_append_right _ (List.mem_append_right _ (List.mem_append_right _ (List.mem_append_right _ (List.mem_append_left _ h))))))
theorem wt_6 {w : Cond} (h : w ∈ tables_1_6) (g : goodWord w = true) : w ∈ goTb := List.mem_filter.mpr ⟨List.mem_append_right _ (List.mem_append_right _ (List.mem_append_right _ (List.mem_append_right _ (List.mem_append_right _ (List.mem_append_right _ (List.mem_append_left _ h)))))), g⟩
theorem wl_7 {w : Cond} (h : w ∈ tables_1_7) : w ∈ lw_tbl := List.mem_append_right _ (List.mem_append_right _ (List.mem_append_right _ (List.mem_append_right _ (List.mem_append_right _ (List.mem_append_right _ (List.mem_append_right _ (List.mem_append_left _ h)))))))
theorem wt_7 {w : Cond} (h : w ∈ tables_1_7) (g : goodWord w = true) : w ∈ goTb := List.mem_filter.mpr ⟨List.mem_append_right _ (List.mem_append_right _ (List.mem_append_right _ (List.mem_append_right _ (List.mem_append_right _ (List.mem_append_right _ (List.mem_append_right _ (List.mem_append_left _ h))))))), g⟩
theorem wl_8 {w : Cond} (h : w ∈ tables_1_8) : w ∈ lw_tbl := List.mem_append_right _ (List.mem_append_right _ (List.mem_append_right _ (List.mem_append_right _ (List.mem_append_right _ (List.mem_append_right _ (List.mem_append_right _ (List.mem_append_right _ (List.mem_append_left _ h))))))))
theorem wt_8 {w : Cond} (h : w ∈ tables_1_8) (g : goodWord w = true) : w ∈ goTb := List.mem_filter.mpr ⟨List.mem_append_right _ (List.mem_append_right _ (List.mem_append_right _ (List.mem_append_right _ (List.mem_append_right _ (List.mem_append_right _ (List.mem_append_right _ (List.mem_append_right _ (List.mem_append_left _ h)))))))), g⟩
theorem wl_9 {w : Cond} (h : w ∈ tables_1_9) : w ∈ lw_tbl := List.mem_append_right _ (List.mem_append_right _ (List.mem_append_right _ (List.mem_append_right _ (List.mem_append_right _ (List.mem_append_right _ (List.mem_append_right _ (List.mem_append_right _ (List.mem_append_right _ (List.mem_append_left _ h)))))))))
theorem wt_9 {w : Cond} (h : w ∈ tables_1_9) (g : goodWord w = true) : w ∈ goTb := List.mem_filter.mpr ⟨List.mem_append_right _ (List.mem_append_right _ (List.mem_append_right _ (List.mem_append_right _ (List.mem_append_right _ (List.mem_append_right _ (List.mem_append_right _ (List.mem_append_right _ (List.mem_append_right _ (List.mem_append_left _ h))))))))), g⟩
theorem wl_10 {w : Cond} (h : w ∈ tables_1_10) : w ∈ lw_tbl := List.mem_append_right _ (List.mem_append_right _ (List.mem_append_right _ (List.mem_append_right _ (List.mem_append_right _ (List.mem_append_right _ (List.mem_append_right _ (List.mem_append_right _ (List.mem_append_right _ (List.mem_append_right _ (List.mem_append_left _ h))))))))))
theorem wt_10 {w : Cond} (h : w ∈ tables_1_10) (g : goodWord w = true) : w ∈ goTb := List.mem_filter.mpr ⟨List.mem_append_right _ (List.mem_append_right _ (List.mem_append_right _ (List.mem_append_right _ (List.mem_append_right _ (List.mem_append_right _ (List.mem_append_right _ (List.mem_append_right _ (List.mem_append_right _ (List.mem_append_right _ (List.mem_append_left _ h)))))))))), g⟩
theorem wl_11 {w : Cond} (h : w ∈ tables_1_11) : w ∈ lw_tbl := List.mem_append_right _ (List.mem_append_right _ (List.mem_append_right _ (List.mem_append_right _ (List.mem_append_right _ (List.mem_append_right _ (List.mem_append_right _ (List.mem_append_right _ (List.mem_append_right _ (List.mem_append_right _ (List.mem_append_right _ (h)))))))))))
theorem wt_11 {w : Cond} (h : w ∈ tables_1_11) (g : goodWord w = true) : w ∈ goTb := List.mem_filter.mpr ⟨List.mem_append_right _ (List.mem_append_right _ (List.mem_append_right _ (List.mem_append_right _ (List.mem_append_right _ (List.mem_append_right _ (List.mem_append_right _ (List.mem_append_right _ (List.mem_append_right _ (List.mem_append_right _ (List.mem_append_right _ (h))))))))))), g⟩
theorem win_RL : Cond.initialized RL ∈ goTb := wt_1 (List.mem_of_getElem? (i := 0) rfl) rfl
theorem win_RX12 : Cond.initialized RX12 ∈ goTb := wt_1 (List.mem_of_getElem? (i := 1) rfl) rfl
theorem win_RX11 : Cond.initialized RX11 ∈ goTb := wt_1 (List.mem_of_getElem? (i := 2) rfl) rfl
theorem win_RX1 : Cond.initialized RX1 ∈ goTb := wt_1 (List.mem_of_getElem? (i := 3) rfl) rfl
theorem win_RX6 : Cond.initialized RX6 ∈ goTb := wt_1 (List.mem_of_getElem? (i := 4) rfl) rfl
theorem win_RX5 : Cond.initialized RX5 ∈ goTb := wt_1 (List.mem_of_getElem? (i := 5) rfl) rfl
theorem win_RX7 : Cond.initialized RX7 ∈ goTb := wt_1 (List.mem_of_getElem? (i := 6) rfl) rfl
theorem win_RX2 : Cond.initialized RX2 ∈ goTb := wt_1 (List.mem_of_getElem? (i := 7) rfl) rfl
theorem win_RX9 : Cond.initialized RX9 ∈ goTb := wt_1 (List.mem_of_getElem? (i := 8) rfl) rfl
theorem win_RJ0 : Cond.initialized RJ0 ∈ goTb := wt_1 (List.mem_of_getElem? (i := 9) rfl) rfl
theorem win_RJ1 : Cond.initialized RJ1 ∈ goTb := wt_1 (List.mem_of_getElem? (i := 10) rfl) rfl
theorem win_RJ3 : Cond.initialized RJ3 ∈ goTb := wt_1 (List.mem_of_getElem? (i := 11) rfl) rfl
theorem win_RJ2 : Cond.initialized RJ2 ∈ goTb := wt_1 (List.mem_of_getElem? (i := 12) rfl) rfl
theorem win_RX4 : Cond.initialized RX4 ∈ goTb := wt_1 (List.mem_of_getElem? (i := 13) rfl) rfl
theorem win_RX3 : Cond.initialized RX3 ∈ goTb := wt_1 (List.mem_of_getElem? (i := 14) rfl) rfl
theorem win_RX8 : Cond.initialized RX8 ∈ goTb := wt_1 (List.mem_of_getElem? (i := 15) rfl) rfl
theorem win_RX14 : Cond.initialized RX14 ∈ goTb := wt_1 (List.mem_of_getElem? (i := 16) rfl) rfl
theorem win_RJ7 : Cond.initialized RJ7 ∈ goTb := wt_1 (List.mem_of_getElem? (i := 17) rfl) rfl
theorem win_RJ9 : Cond.initialized RJ9 ∈ goTb := wt_1 (List.mem_of_getElem? (i := 18) rfl) rfl
theorem win_RJx29ce0 : Cond.initialized RJx29ce0 ∈ goTb := wt_1 (List.mem_of_getElem? (i := 19) rfl) rfl
theorem win_RX10 : Cond.initialized RX10 ∈ goTb := wt_1 (List.mem_of_getElem? (i := 20) rfl) rfl
theorem win_RX0 : Cond.initialized RX0 ∈ goTb := wt_1 (List.mem_of_getElem? (i := 21) rfl) rfl
theorem win_RJ10 : Cond.initialized RJ10 ∈ goTb := wt_1 (List.mem_of_getElem? (i := 22) rfl) rfl
theorem win_RX13 : Cond.initialized RX13 ∈ goTb := wt_1 (List.mem_of_getElem? (i := 23) rfl) rfl
theorem win_RJ6 : Cond.initialized RJ6 ∈ goTb := wt_1 (List.mem_of_getElem? (i := 24) rfl) rfl
theorem wcl_RL_8 : Cond.classLink RL 8 RX12 ∈ goTb := wt_1 (List.mem_of_getElem? (i := 29) rfl) rfl
theorem wia_RX12 : Cond.instantiable RX12 9 ∈ goTb := wt_1 (List.mem_of_getElem? (i := 30) rfl) rfl
theorem wml_RL_15 : Cond.methodLink RL 15 yX12_init ∈ goTb := wt_1 (List.mem_of_getElem? (i := 31) rfl) rfl
theorem wim_X12_init : Cond.instanceMethod yX12_init ∈ goTb := wt_1 (List.mem_of_getElem? (i := 32) rfl) rfl
theorem wco_X12_init : Cond.code yX12_init cX12_init 1 (Option.none : Option Jvm.ClassFile.FieldType) ∈ goTb := wt_1 (List.mem_of_getElem? (i := 33) rfl) rfl
theorem wml_RX12_1 : Cond.methodLink RX12 1 objectInit ∈ goTb := wt_1 (List.mem_of_getElem? (i := 34) rfl) rfl
theorem wim_objectInit : Cond.instanceMethod objectInit ∈ goTb := wt_1 (List.mem_of_getElem? (i := 35) rfl) rfl
theorem wco_objectInit : Cond.code objectInit ⟨#[0xb1]⟩ 1 none ∈ goTb := wt_1 (List.mem_of_getElem? (i := 36) rfl) rfl
theorem wcl_RX12_7 : Cond.classLink RX12 7 RX11 ∈ goTb := wt_1 (List.mem_of_getElem? (i := 37) rfl) rfl
theorem wia_RX11 : Cond.instantiable RX11 9 ∈ goTb := wt_1 (List.mem_of_getElem? (i := 38) rfl) rfl
theorem wmn_RX12_9 : Cond.methodLinkNest RX12 9 yX11_init "GoatCourt" ∈ lw_tbl := wl_1 (List.mem_of_getElem? (i := 39) rfl)
theorem wim_X11_init : Cond.instanceMethod yX11_init ∈ goTb := wt_1 (List.mem_of_getElem? (i := 40) rfl) rfl
theorem wco_X11_init : Cond.code yX11_init cX11_init 1 (Option.none : Option Jvm.ClassFile.FieldType) ∈ goTb := wt_1 (List.mem_of_getElem? (i := 41) rfl) rfl
theorem wml_RX11_3 : Cond.methodLink RX11 3 objectInit ∈ goTb := wt_1 (List.mem_of_getElem? (i := 42) rfl) rfl
theorem wfl_RX11_9 : Cond.fieldLink RX11 9 "GoatCourt$Tape" "bytes" "[B" ∈ goTb := wt_1 (List.mem_of_getElem? (i := 43) rfl) rfl
theorem wfl_RX12_58 : Cond.fieldLink RX12 58 "GoatCourt$Tape" "count" "I" ∈ goTb := wt_1 (List.mem_of_getElem? (i := 44) rfl) rfl
theorem wfl_RX11_15 : Cond.fieldLink RX11 15 "GoatCourt$Tape" "count" "I" ∈ goTb := wt_1 (List.mem_of_getElem? (i := 45) rfl) rfl
theorem wfl_RX11_25 : Cond.fieldLink RX11 25 "GoatCourt$Tape" "end" "I" ∈ goTb := wt_1 (List.mem_of_getElem? (i := 46) rfl) rfl
theorem wfl_RX11_28 : Cond.fieldLink RX11 28 "GoatCourt$Tape" "next" "I" ∈ goTb := wt_1 (List.mem_of_getElem? (i := 47) rfl) rfl
theorem wfl_RX9_81 : Cond.fieldLink RX9 81 "GoatCourt$Tape" "kind" "I" ∈ goTb := wt_1 (List.mem_of_getElem? (i := 48) rfl) rfl
theorem wfl_RX11_37 : Cond.fieldLink RX11 37 "GoatCourt$Tape" "kind" "I" ∈ goTb := wt_1 (List.mem_of_getElem? (i := 49) rfl) rfl
theorem wfl_RX11_34 : Cond.fieldLink RX11 34 "GoatCourt$Tape" "start" "I" ∈ goTb := wt_1 (List.mem_of_getElem? (i := 50) rfl) rfl
theorem wfl_RX9_330 : Cond.fieldLink RX9 330 "GoatCourt$Tape" "start" "I" ∈ goTb := wt_1 (List.mem_of_getElem? (i := 51) rfl) rfl
theorem wfl_RX11_61 : Cond.fieldLink RX11 61 "GoatCourt$Tape" "letters" "I" ∈ goTb := wt_1 (List.mem_of_getElem? (i := 52) rfl) rfl
theorem wfl_RX9_262 : Cond.fieldLink RX9 262 "GoatCourt$Tape" "letters" "I" ∈ goTb := wt_1 (List.mem_of_getElem? (i := 53) rfl) rfl
theorem wfl_RX11_53 : Cond.fieldLink RX11 53 "GoatCourt$Tape" "code" "J" ∈ goTb := wt_1 (List.mem_of_getElem? (i := 54) rfl) rfl
theorem wfl_RX9_335 : Cond.fieldLink RX9 335 "GoatCourt$Tape" "code" "J" ∈ goTb := wt_1 (List.mem_of_getElem? (i := 55) rfl) rfl
theorem wfl_RX9_176 : Cond.fieldLink RX9 176 "GoatCourt$Tape" "whole" "I" ∈ goTb := wt_1 (List.mem_of_getElem? (i := 56) rfl) rfl
theorem wfl_RX11_64 : Cond.fieldLink RX11 64 "GoatCourt$Tape" "whole" "I" ∈ goTb := wt_1 (List.mem_of_getElem? (i := 57) rfl) rfl
theorem war_byte : Cond.arrayClass .byte ∈ goTb := wt_1 (List.mem_of_getElem? (i := 77) rfl) rfl
theorem wcl_RX12_16 : Cond.classLink RX12 16 RX1 ∈ goTb := wt_1 (List.mem_of_getElem? (i := 78) rfl) rfl
theorem wia_RX1 : Cond.instantiable RX1 6 ∈ goTb := wt_1 (List.mem_of_getElem? (i := 79) rfl) rfl
theorem wmn_RX12_18 : Cond.methodLinkNest RX12 18 yX1_init "GoatCourt" ∈ lw_tbl := wl_1 (List.mem_of_getElem? (i := 80) rfl)
theorem wim_X1_init : Cond.instanceMethod yX1_init ∈ goTb := wt_1 (List.mem_of_getElem? (i := 81) rfl) rfl
theorem wco_X1_init : Cond.code yX1_init cX1_init 1 (Option.none : Option Jvm.ClassFile.FieldType) ∈ goTb := wt_1 (List.mem_of_getElem? (i := 82) rfl) rfl
theorem wml_RX1_3 : Cond.methodLink RX1 3 objectInit ∈ goTb := wt_1 (List.mem_of_getElem? (i := 83) rfl) rfl
theorem wfl_RX1_11 : Cond.fieldLink RX1 11 "GoatCourt$Acts" "now" "[I" ∈ goTb := wt_1 (List.mem_of_getElem? (i := 84) rfl) rfl
theorem wfl_RX3_47 : Cond.fieldLink RX3 47 "GoatCourt$Acts" "now" "[I" ∈ goTb := wt_1 (List.mem_of_getElem? (i := 85) rfl) rfl
theorem wfl_RX4_90 : Cond.fieldLink RX4 90 "GoatCourt$Acts" "now" "[I" ∈ goTb := wt_1 (List.mem_of_getElem? (i := 86) rfl) rfl
theorem wfl_RX12_147 : Cond.fieldLink RX12 147 "GoatCourt$Acts" "now" "[I" ∈ goTb := wt_1 (List.mem_of_getElem? (i := 87) rfl) rfl
theorem wfl_RX1_15 : Cond.fieldLink RX1 15 "GoatCourt$Acts" "latest" "[I" ∈ goTb := wt_1 (List.mem_of_getElem? (i := 88) rfl) rfl
theorem wfl_RX1_18 : Cond.fieldLink RX1 18 "GoatCourt$Acts" "marked" "[I" ∈ goTb := wt_1 (List.mem_of_getElem? (i := 89) rfl) rfl
theorem wfl_RX1_27 : Cond.fieldLink RX1 27 "GoatCourt$Acts" "undoable" "I" ∈ goTb := wt_1 (List.mem_of_getElem? (i := 90) rfl) rfl
theorem wfl_RX12_388 : Cond.fieldLink RX12 388 "GoatCourt$Acts" "undoable" "I" ∈ goTb := wt_1 (List.mem_of_getElem? (i := 91) rfl) rfl
theorem wfl_RX1_31 : Cond.fieldLink RX1 31 "GoatCourt$Acts" "marks" "I" ∈ goTb := wt_1 (List.mem_of_getElem? (i := 92) rfl) rfl
theorem wfl_RX12_391 : Cond.fieldLink RX12 391 "GoatCourt$Acts" "marks" "I" ∈ goTb := wt_1 (List.mem_of_getElem? (i := 93) rfl) rfl
theorem wfl_RX1_34 : Cond.fieldLink RX1 34 "GoatCourt$Acts" "version" "I" ∈ goTb := wt_1 (List.mem_of_getElem? (i := 94) rfl) rfl
theorem wfl_RX4_47 : Cond.fieldLink RX4 47 "GoatCourt$Acts" "version" "I" ∈ goTb := wt_1 (List.mem_of_getElem? (i := 95) rfl) rfl
theorem war_int : Cond.arrayClass .int ∈ goTb := wt_1 (List.mem_of_getElem? (i := 109) rfl) rfl
theorem wcl_RX12_23 : Cond.classLink RX12 23 RX6 ∈ goTb := wt_1 (List.mem_of_getElem? (i := 110) rfl) rfl
theorem wia_RX6 : Cond.instantiable RX6 18 ∈ goTb := wt_1 (List.mem_of_getElem? (i := 111) rfl) rfl
theorem wmn_RX12_25 : Cond.methodLinkNest RX12 25 yX6_init "GoatCourt" ∈ lw_tbl := wl_1 (List.mem_of_getElem? (i := 112) rfl)
theorem wim_X6_init : Cond.instanceMethod yX6_init ∈ goTb := wt_1 (List.mem_of_getElem? (i := 113) rfl) rfl
theorem wco_X6_init : Cond.code yX6_init cX6_init 1 (Option.none : Option Jvm.ClassFile.FieldType) ∈ goTb := wt_1 (List.mem_of_getElem? (i := 114) rfl) rfl
theorem wml_RX6_3 : Cond.methodLink RX6 3 objectInit ∈ goTb := wt_1 (List.mem_of_getElem? (i := 115) rfl) rfl
theorem wcl_RX6_36 : Cond.classLink RX6 36 RX5 ∈ goTb := wt_1 (List.mem_of_getElem? (i := 116) rfl) rfl
theorem wia_RX5 : Cond.instantiable RX5 13 ∈ goTb := wt_1 (List.mem_of_getElem? (i := 117) rfl) rfl
theorem wmn_RX6_38 : Cond.methodLinkNest RX6 38 yX5_init "GoatCourt" ∈ lw_tbl := wl_1 (List.mem_of_getElem? (i := 118) rfl)
theorem wim_X5_init : Cond.instanceMethod yX5_init ∈ goTb := wt_1 (List.mem_of_getElem? (i := 119) rfl) rfl
theorem wco_X5_init : Cond.code yX5_init cX5_init 1 (Option.none : Option Jvm.ClassFile.FieldType) ∈ goTb := wt_1 (List.mem_of_getElem? (i := 120) rfl) rfl
theorem wml_RX5_3 : Cond.methodLink RX5 3 objectInit ∈ goTb := wt_1 (List.mem_of_getElem? (i := 121) rfl) rfl
theorem wfl_RX5_45 : Cond.fieldLink RX5 45 "GoatCourt$Herd" "count" "I" ∈ goTb := wt_1 (List.mem_of_getElem? (i := 122) rfl) rfl
theorem wfl_RX3_89 : Cond.fieldLink RX3 89 "GoatCourt$Herd" "count" "I" ∈ goTb := wt_1 (List.mem_of_getElem? (i := 123) rfl) rfl
theorem wfl_RX9_226 : Cond.fieldLink RX9 226 "GoatCourt$Herd" "count" "I" ∈ goTb := wt_1 (List.mem_of_getElem? (i := 124) rfl) rfl
theorem wfl_RX4_122 : Cond.fieldLink RX4 122 "GoatCourt$Herd" "count" "I" ∈ goTb := wt_1 (List.mem_of_getElem? (i := 125) rfl) rfl
theorem wfl_RX12_381 : Cond.fieldLink RX12 381 "GoatCourt$Herd" "count" "I" ∈ goTb := wt_1 (List.mem_of_getElem? (i := 126) rfl) rfl
theorem wfl_RX5_49 : Cond.fieldLink RX5 49 "GoatCourt$Herd" "clues" "I" ∈ goTb := wt_1 (List.mem_of_getElem? (i := 127) rfl) rfl
theorem wfl_RX4_79 : Cond.fieldLink RX4 79 "GoatCourt$Herd" "clues" "I" ∈ goTb := wt_1 (List.mem_of_getElem? (i := 128) rfl) rfl
theorem wfl_RX12_163 : Cond.fieldLink RX12 163 "GoatCourt$Herd" "clues" "I" ∈ goTb := wt_1 (List.mem_of_getElem? (i := 129) rfl) rfl
theorem wfl_RX5_9 : Cond.fieldLink RX5 9 "GoatCourt$Herd" "kind" "[I" ∈ goTb := wt_1 (List.mem_of_getElem? (i := 130) rfl) rfl
theorem wfl_RX3_126 : Cond.fieldLink RX3 126 "GoatCourt$Herd" "kind" "[I" ∈ goTb := wt_1 (List.mem_of_getElem? (i := 131) rfl) rfl
theorem wfl_RX12_122 : Cond.fieldLink RX12 122 "GoatCourt$Herd" "kind" "[I" ∈ goTb := wt_1 (List.mem_of_getElem? (i := 132) rfl) rfl
theorem wfl_RX9_254 : Cond.fieldLink RX9 254 "GoatCourt$Herd" "kind" "[I" ∈ goTb := wt_1 (List.mem_of_getElem? (i := 133) rfl) rfl
theorem wfl_RX5_15 : Cond.fieldLink RX5 15 "GoatCourt$Herd" "mother" "[I" ∈ goTb := wt_1 (List.mem_of_getElem? (i := 134) rfl) rfl
theorem wfl_RX3_132 : Cond.fieldLink RX3 132 "GoatCourt$Herd" "mother" "[I" ∈ goTb := wt_1 (List.mem_of_getElem? (i := 135) rfl) rfl
theorem wfl_RX12_127 : Cond.fieldLink RX12 127 "GoatCourt$Herd" "mother" "[I" ∈ goTb := wt_1 (List.mem_of_getElem? (i := 136) rfl) rfl
theorem wfl_RX9_246 : Cond.fieldLink RX9 246 "GoatCourt$Herd" "mother" "[I" ∈ goTb := wt_1 (List.mem_of_getElem? (i := 137) rfl) rfl
theorem wfl_RX5_18 : Cond.fieldLink RX5 18 "GoatCourt$Herd" "start" "[I" ∈ goTb := wt_1 (List.mem_of_getElem? (i := 138) rfl) rfl
theorem wfl_RX3_73 : Cond.fieldLink RX3 73 "GoatCourt$Herd" "start" "[I" ∈ goTb := wt_1 (List.mem_of_getElem? (i := 139) rfl) rfl
theorem wfl_RX12_130 : Cond.fieldLink RX12 130 "GoatCourt$Herd" "start" "[I" ∈ goTb := wt_1 (List.mem_of_getElem? (i := 140) rfl) rfl
theorem wfl_RX9_239 : Cond.fieldLink RX9 239 "GoatCourt$Herd" "start" "[I" ∈ goTb := wt_1 (List.mem_of_getElem? (i := 141) rfl) rfl
theorem wfl_RX5_21 : Cond.fieldLink RX5 21 "GoatCourt$Herd" "trust" "[I" ∈ goTb := wt_1 (List.mem_of_getElem? (i := 142) rfl) rfl
theorem wfl_RX12_133 : Cond.fieldLink RX12 133 "GoatCourt$Herd" "trust" "[I" ∈ goTb := wt_1 (List.mem_of_getElem? (i := 143) rfl) rfl
theorem wfl_RX9_244 : Cond.fieldLink RX9 244 "GoatCourt$Herd" "trust" "[I" ∈ goTb := wt_1 (List.mem_of_getElem? (i := 144) rfl) rfl
theorem wfl_RX4_133 : Cond.fieldLink RX4 133 "GoatCourt$Herd" "trust" "[I" ∈ goTb := wt_1 (List.mem_of_getElem? (i := 145) rfl) rfl
theorem wfl_RX5_24 : Cond.fieldLink RX5 24 "GoatCourt$Herd" "fears" "[I" ∈ goTb := wt_1 (List.mem_of_getElem? (i := 146) rfl) rfl
theorem wfl_RX12_136 : Cond.fieldLink RX12 136 "GoatCourt$Herd" "fears" "[I" ∈ goTb := wt_1 (List.mem_of_getElem? (i := 147) rfl) rfl
theorem wfl_RX9_277 : Cond.fieldLink RX9 277 "GoatCourt$Herd" "fears" "[I" ∈ goTb := wt_1 (List.mem_of_getElem? (i := 148) rfl) rfl
theorem wfl_RX5_27 : Cond.fieldLink RX5 27 "GoatCourt$Herd" "order" "[I" ∈ goTb := wt_1 (List.mem_of_getElem? (i := 149) rfl) rfl
theorem wfl_RX3_142 : Cond.fieldLink RX3 142 "GoatCourt$Herd" "order" "[I" ∈ goTb := wt_1 (List.mem_of_getElem? (i := 150) rfl) rfl
theorem wfl_RX12_160 : Cond.fieldLink RX12 160 "GoatCourt$Herd" "order" "[I" ∈ goTb := wt_1 (List.mem_of_getElem? (i := 151) rfl) rfl
theorem wfl_RX9_271 : Cond.fieldLink RX9 271 "GoatCourt$Herd" "order" "[I" ∈ goTb := wt_1 (List.mem_of_getElem? (i := 152) rfl) rfl
theorem wfl_RX5_30 : Cond.fieldLink RX5 30 "GoatCourt$Herd" "orderSize" "[I" ∈ goTb := wt_1 (List.mem_of_getElem? (i := 153) rfl) rfl
theorem wfl_RX12_153 : Cond.fieldLink RX12 153 "GoatCourt$Herd" "orderSize" "[I" ∈ goTb := wt_1 (List.mem_of_getElem? (i := 154) rfl) rfl
theorem wfl_RX3_152 : Cond.fieldLink RX3 152 "GoatCourt$Herd" "orderSize" "[I" ∈ goTb := wt_1 (List.mem_of_getElem? (i := 155) rfl) rfl
theorem wfl_RX9_274 : Cond.fieldLink RX9 274 "GoatCourt$Herd" "orderSize" "[I" ∈ goTb := wt_1 (List.mem_of_getElem? (i := 156) rfl) rfl
theorem wfl_RX5_33 : Cond.fieldLink RX5 33 "GoatCourt$Herd" "clueSort" "[I" ∈ goTb := wt_1 (List.mem_of_getElem? (i := 157) rfl) rfl
theorem wfl_RX12_166 : Cond.fieldLink RX12 166 "GoatCourt$Herd" "clueSort" "[I" ∈ goTb := wt_1 (List.mem_of_getElem? (i := 158) rfl) rfl
theorem wfl_RX3_167 : Cond.fieldLink RX3 167 "GoatCourt$Herd" "clueSort" "[I" ∈ goTb := wt_1 (List.mem_of_getElem? (i := 159) rfl) rfl
theorem wfl_RX5_36 : Cond.fieldLink RX5 36 "GoatCourt$Herd" "clueGoat" "[I" ∈ goTb := wt_1 (List.mem_of_getElem? (i := 160) rfl) rfl
theorem wfl_RX12_169 : Cond.fieldLink RX12 169 "GoatCourt$Herd" "clueGoat" "[I" ∈ goTb := wt_1 (List.mem_of_getElem? (i := 161) rfl) rfl
theorem wfl_RX3_158 : Cond.fieldLink RX3 158 "GoatCourt$Herd" "clueGoat" "[I" ∈ goTb := wt_1 (List.mem_of_getElem? (i := 162) rfl) rfl
theorem wfl_RX5_39 : Cond.fieldLink RX5 39 "GoatCourt$Herd" "cluePlace" "[I" ∈ goTb := wt_1 (List.mem_of_getElem? (i := 163) rfl) rfl
theorem wfl_RX12_172 : Cond.fieldLink RX12 172 "GoatCourt$Herd" "cluePlace" "[I" ∈ goTb := wt_1 (List.mem_of_getElem? (i := 164) rfl) rfl
theorem wfl_RX3_161 : Cond.fieldLink RX3 161 "GoatCourt$Herd" "cluePlace" "[I" ∈ goTb := wt_1 (List.mem_of_getElem? (i := 165) rfl) rfl
theorem wfl_RX5_42 : Cond.fieldLink RX5 42 "GoatCourt$Herd" "clueWhat" "[I" ∈ goTb := wt_1 (List.mem_of_getElem? (i := 166) rfl) rfl
theorem wfl_RX12_175 : Cond.fieldLink RX12 175 "GoatCourt$Herd" "clueWhat" "[I" ∈ goTb := wt_1 (List.mem_of_getElem? (i := 167) rfl) rfl
theorem wfl_RX3_164 : Cond.fieldLink RX3 164 "GoatCourt$Herd" "clueWhat" "[I" ∈ goTb := wt_1 (List.mem_of_getElem? (i := 168) rfl) rfl
theorem wcl_RX6_43 : Cond.classLink RX6 43 RX7 ∈ goTb := wt_1 (List.mem_of_getElem? (i := 196) rfl) rfl
theorem wia_RX7 : Cond.instantiable RX7 7 ∈ goTb := wt_1 (List.mem_of_getElem? (i := 197) rfl) rfl
theorem wmn_RX6_45 : Cond.methodLinkNest RX6 45 yX7_init "GoatCourt" ∈ lw_tbl := wl_1 (List.mem_of_getElem? (i := 198) rfl)
theorem wim_X7_init : Cond.instanceMethod yX7_init ∈ goTb := wt_1 (List.mem_of_getElem? (i := 199) rfl) rfl
theorem wco_X7_init : Cond.code yX7_init cX7_init 1 (Option.none : Option Jvm.ClassFile.FieldType) ∈ goTb := wt_1 (List.mem_of_getElem? (i := 200) rfl) rfl
theorem wml_RX7_3 : Cond.methodLink RX7 3 objectInit ∈ goTb := wt_1 (List.mem_of_getElem? (i := 201) rfl) rfl
theorem wfl_RX7_21 : Cond.fieldLink RX7 21 "GoatCourt$Law" "facts" "I" ∈ goTb := wt_1 (List.mem_of_getElem? (i := 202) rfl) rfl
theorem wfl_RX9_288 : Cond.fieldLink RX9 288 "GoatCourt$Law" "facts" "I" ∈ goTb := wt_1 (List.mem_of_getElem? (i := 203) rfl) rfl
theorem wfl_RX12_382 : Cond.fieldLink RX12 382 "GoatCourt$Law" "facts" "I" ∈ goTb := wt_1 (List.mem_of_getElem? (i := 204) rfl) rfl
theorem wfl_RX7_25 : Cond.fieldLink RX7 25 "GoatCourt$Law" "holding" "I" ∈ goTb := wt_1 (List.mem_of_getElem? (i := 205) rfl) rfl
theorem wfl_RX9_292 : Cond.fieldLink RX9 292 "GoatCourt$Law" "holding" "I" ∈ goTb := wt_1 (List.mem_of_getElem? (i := 206) rfl) rfl
theorem wfl_RX12_299 : Cond.fieldLink RX12 299 "GoatCourt$Law" "holding" "I" ∈ goTb := wt_1 (List.mem_of_getElem? (i := 207) rfl) rfl
theorem wfl_RX7_28 : Cond.fieldLink RX7 28 "GoatCourt$Law" "rules" "I" ∈ goTb := wt_1 (List.mem_of_getElem? (i := 208) rfl) rfl
theorem wfl_RX12_385 : Cond.fieldLink RX12 385 "GoatCourt$Law" "rules" "I" ∈ goTb := wt_1 (List.mem_of_getElem? (i := 209) rfl) rfl
theorem wfl_RX7_31 : Cond.fieldLink RX7 31 "GoatCourt$Law" "steps" "I" ∈ goTb := wt_1 (List.mem_of_getElem? (i := 210) rfl) rfl
theorem wfl_RX12_307 : Cond.fieldLink RX12 307 "GoatCourt$Law" "steps" "I" ∈ goTb := wt_1 (List.mem_of_getElem? (i := 211) rfl) rfl
theorem wfl_RX7_9 : Cond.fieldLink RX7 9 "GoatCourt$Law" "heads" "[I" ∈ goTb := wt_1 (List.mem_of_getElem? (i := 212) rfl) rfl
theorem wfl_RX7_15 : Cond.fieldLink RX7 15 "GoatCourt$Law" "bodies" "[I" ∈ goTb := wt_1 (List.mem_of_getElem? (i := 213) rfl) rfl
theorem wfl_RX7_18 : Cond.fieldLink RX7 18 "GoatCourt$Law" "proof" "[I" ∈ goTb := wt_1 (List.mem_of_getElem? (i := 214) rfl) rfl
theorem wcl_RX6_50 : Cond.classLink RX6 50 RX2 ∈ goTb := wt_1 (List.mem_of_getElem? (i := 230) rfl) rfl
theorem wia_RX2 : Cond.instantiable RX2 5 ∈ goTb := wt_1 (List.mem_of_getElem? (i := 231) rfl) rfl
theorem wmn_RX6_52 : Cond.methodLinkNest RX6 52 yX2_init "GoatCourt" ∈ lw_tbl := wl_1 (List.mem_of_getElem? (i := 232) rfl)
theorem wim_X2_init : Cond.instanceMethod yX2_init ∈ goTb := wt_1 (List.mem_of_getElem? (i := 233) rfl) rfl
theorem wco_X2_init : Cond.code yX2_init cX2_init 1 (Option.none : Option Jvm.ClassFile.FieldType) ∈ goTb := wt_1 (List.mem_of_getElem? (i := 234) rfl) rfl
theorem wml_RX2_3 : Cond.methodLink RX2 3 objectInit ∈ goTb := wt_1 (List.mem_of_getElem? (i := 235) rfl) rfl
theorem wfl_RX2_28 : Cond.fieldLink RX2 28 "GoatCourt$Courts" "count" "I" ∈ goTb := wt_1 (List.mem_of_getElem? (i := 236) rfl) rfl
theorem wfl_RX6_90 : Cond.fieldLink RX6 90 "GoatCourt$Courts" "count" "I" ∈ goTb := wt_1 (List.mem_of_getElem? (i := 237) rfl) rfl
theorem wfl_RX9_312 : Cond.fieldLink RX9 312 "GoatCourt$Courts" "count" "I" ∈ goTb := wt_1 (List.mem_of_getElem? (i := 238) rfl) rfl
theorem wfl_RX12_339 : Cond.fieldLink RX12 339 "GoatCourt$Courts" "count" "I" ∈ goTb := wt_1 (List.mem_of_getElem? (i := 239) rfl) rfl
theorem wfl_RX2_9 : Cond.fieldLink RX2 9 "GoatCourt$Courts" "costs" "[I" ∈ goTb := wt_2 (List.mem_of_getElem? (i := 0) rfl) rfl
theorem wfl_RX9_317 : Cond.fieldLink RX9 317 "GoatCourt$Courts" "costs" "[I" ∈ goTb := wt_2 (List.mem_of_getElem? (i := 1) rfl) rfl
theorem wfl_RX2_15 : Cond.fieldLink RX2 15 "GoatCourt$Courts" "wins" "[I" ∈ goTb := wt_2 (List.mem_of_getElem? (i := 2) rfl) rfl
theorem wfl_RX9_321 : Cond.fieldLink RX9 321 "GoatCourt$Courts" "wins" "[I" ∈ goTb := wt_2 (List.mem_of_getElem? (i := 3) rfl) rfl
theorem wfl_RX2_18 : Cond.fieldLink RX2 18 "GoatCourt$Courts" "least" "[J" ∈ goTb := wt_2 (List.mem_of_getElem? (i := 4) rfl) rfl
theorem wfl_RX2_22 : Cond.fieldLink RX2 22 "GoatCourt$Courts" "firstOf" "[I" ∈ goTb := wt_2 (List.mem_of_getElem? (i := 5) rfl) rfl
theorem war_long : Cond.arrayClass .long ∈ goTb := wt_2 (List.mem_of_getElem? (i := 17) rfl) rfl
theorem wfl_RX6_57 : Cond.fieldLink RX6 57 "GoatCourt$Hill" "hours" "I" ∈ goTb := wt_2 (List.mem_of_getElem? (i := 18) rfl) rfl
theorem wfl_RX3_100 : Cond.fieldLink RX3 100 "GoatCourt$Hill" "hours" "I" ∈ goTb := wt_2 (List.mem_of_getElem? (i := 19) rfl) rfl
theorem wfl_RX4_59 : Cond.fieldLink RX4 59 "GoatCourt$Hill" "hours" "I" ∈ goTb := wt_2 (List.mem_of_getElem? (i := 20) rfl) rfl
theorem wfl_RX9_179 : Cond.fieldLink RX9 179 "GoatCourt$Hill" "hours" "I" ∈ goTb := wt_2 (List.mem_of_getElem? (i := 21) rfl) rfl
theorem wfl_RX12_218 : Cond.fieldLink RX12 218 "GoatCourt$Hill" "hours" "I" ∈ goTb := wt_2 (List.mem_of_getElem? (i := 22) rfl) rfl
theorem wfl_RX6_61 : Cond.fieldLink RX6 61 "GoatCourt$Hill" "plants" "I" ∈ goTb := wt_2 (List.mem_of_getElem? (i := 23) rfl) rfl
theorem wfl_RX9_183 : Cond.fieldLink RX9 183 "GoatCourt$Hill" "plants" "I" ∈ goTb := wt_2 (List.mem_of_getElem? (i := 24) rfl) rfl
theorem wfl_RX3_174 : Cond.fieldLink RX3 174 "GoatCourt$Hill" "plants" "I" ∈ goTb := wt_2 (List.mem_of_getElem? (i := 25) rfl) rfl
theorem wfl_RX12_372 : Cond.fieldLink RX12 372 "GoatCourt$Hill" "plants" "I" ∈ goTb := wt_2 (List.mem_of_getElem? (i := 26) rfl) rfl
theorem wfl_RX6_64 : Cond.fieldLink RX6 64 "GoatCourt$Hill" "places" "I" ∈ goTb := wt_2 (List.mem_of_getElem? (i := 27) rfl) rfl
theorem wfl_RX9_91 : Cond.fieldLink RX9 91 "GoatCourt$Hill" "places" "I" ∈ goTb := wt_2 (List.mem_of_getElem? (i := 28) rfl) rfl
theorem wfl_RX8_73 : Cond.fieldLink RX8 73 "GoatCourt$Hill" "places" "I" ∈ goTb := wt_2 (List.mem_of_getElem? (i := 29) rfl) rfl
theorem wfl_RX3_149 : Cond.fieldLink RX3 149 "GoatCourt$Hill" "places" "I" ∈ goTb := wt_2 (List.mem_of_getElem? (i := 30) rfl) rfl
theorem wfl_RX4_113 : Cond.fieldLink RX4 113 "GoatCourt$Hill" "places" "I" ∈ goTb := wt_2 (List.mem_of_getElem? (i := 31) rfl) rfl
theorem wfl_RX12_375 : Cond.fieldLink RX12 375 "GoatCourt$Hill" "places" "I" ∈ goTb := wt_2 (List.mem_of_getElem? (i := 32) rfl) rfl
theorem wfl_RX6_67 : Cond.fieldLink RX6 67 "GoatCourt$Hill" "paths" "I" ∈ goTb := wt_2 (List.mem_of_getElem? (i := 33) rfl) rfl
theorem wfl_RX3_107 : Cond.fieldLink RX3 107 "GoatCourt$Hill" "paths" "I" ∈ goTb := wt_2 (List.mem_of_getElem? (i := 34) rfl) rfl
theorem wfl_RX12_350 : Cond.fieldLink RX12 350 "GoatCourt$Hill" "paths" "I" ∈ goTb := wt_2 (List.mem_of_getElem? (i := 35) rfl) rfl
theorem wfl_RX6_70 : Cond.fieldLink RX6 70 "GoatCourt$Hill" "people" "I" ∈ goTb := wt_2 (List.mem_of_getElem? (i := 36) rfl) rfl
theorem wfl_RX3_81 : Cond.fieldLink RX3 81 "GoatCourt$Hill" "people" "I" ∈ goTb := wt_2 (List.mem_of_getElem? (i := 37) rfl) rfl
theorem wfl_RX9_212 : Cond.fieldLink RX9 212 "GoatCourt$Hill" "people" "I" ∈ goTb := wt_2 (List.mem_of_getElem? (i := 38) rfl) rfl
theorem wfl_RX12_378 : Cond.fieldLink RX12 378 "GoatCourt$Hill" "people" "I" ∈ goTb := wt_2 (List.mem_of_getElem? (i := 39) rfl) rfl
theorem wfl_RX6_73 : Cond.fieldLink RX6 73 "GoatCourt$Hill" "cases" "I" ∈ goTb := wt_2 (List.mem_of_getElem? (i := 40) rfl) rfl
theorem wfl_RX12_85 : Cond.fieldLink RX12 85 "GoatCourt$Hill" "cases" "I" ∈ goTb := wt_2 (List.mem_of_getElem? (i := 41) rfl) rfl
theorem wfl_RX4_68 : Cond.fieldLink RX4 68 "GoatCourt$Hill" "cases" "I" ∈ goTb := wt_2 (List.mem_of_getElem? (i := 42) rfl) rfl
theorem wfl_RX6_76 : Cond.fieldLink RX6 76 "GoatCourt$Hill" "hasCheese" "Z" ∈ goTb := wt_2 (List.mem_of_getElem? (i := 43) rfl) rfl
theorem wfl_RX9_326 : Cond.fieldLink RX9 326 "GoatCourt$Hill" "hasCheese" "Z" ∈ goTb := wt_2 (List.mem_of_getElem? (i := 44) rfl) rfl
theorem wfl_RX12_319 : Cond.fieldLink RX12 319 "GoatCourt$Hill" "hasCheese" "Z" ∈ goTb := wt_2 (List.mem_of_getElem? (i := 45) rfl) rfl
theorem wfl_RX6_9 : Cond.fieldLink RX6 9 "GoatCourt$Hill" "grows" "[I" ∈ goTb := wt_2 (List.mem_of_getElem? (i := 46) rfl) rfl
theorem wfl_RX3_64 : Cond.fieldLink RX3 64 "GoatCourt$Hill" "grows" "[I" ∈ goTb := wt_2 (List.mem_of_getElem? (i := 47) rfl) rfl
theorem wfl_RX9_191 : Cond.fieldLink RX9 191 "GoatCourt$Hill" "grows" "[I" ∈ goTb := wt_2 (List.mem_of_getElem? (i := 48) rfl) rfl
theorem wfl_RX12_104 : Cond.fieldLink RX12 104 "GoatCourt$Hill" "grows" "[I" ∈ goTb := wt_2 (List.mem_of_getElem? (i := 49) rfl) rfl
theorem wfl_RX6_15 : Cond.fieldLink RX6 15 "GoatCourt$Hill" "nearby" "[I" ∈ goTb := wt_2 (List.mem_of_getElem? (i := 50) rfl) rfl
theorem wfl_RX9_201 : Cond.fieldLink RX9 201 "GoatCourt$Hill" "nearby" "[I" ∈ goTb := wt_2 (List.mem_of_getElem? (i := 51) rfl) rfl
theorem wfl_RX12_112 : Cond.fieldLink RX12 112 "GoatCourt$Hill" "nearby" "[I" ∈ goTb := wt_2 (List.mem_of_getElem? (i := 52) rfl) rfl
theorem wfl_RX6_18 : Cond.fieldLink RX6 18 "GoatCourt$Hill" "pathFrom" "[I" ∈ goTb := wt_2 (List.mem_of_getElem? (i := 53) rfl) rfl
theorem wfl_RX3_113 : Cond.fieldLink RX3 113 "GoatCourt$Hill" "pathFrom" "[I" ∈ goTb := wt_2 (List.mem_of_getElem? (i := 54) rfl) rfl
theorem wfl_RX6_21 : Cond.fieldLink RX6 21 "GoatCourt$Hill" "pathTo" "[I" ∈ goTb := wt_2 (List.mem_of_getElem? (i := 55) rfl) rfl
theorem wfl_RX3_116 : Cond.fieldLink RX3 116 "GoatCourt$Hill" "pathTo" "[I" ∈ goTb := wt_2 (List.mem_of_getElem? (i := 56) rfl) rfl
theorem wfl_RX6_24 : Cond.fieldLink RX6 24 "GoatCourt$Hill" "stories" "[I" ∈ goTb := wt_2 (List.mem_of_getElem? (i := 57) rfl) rfl
theorem wfl_RX9_215 : Cond.fieldLink RX9 215 "GoatCourt$Hill" "stories" "[I" ∈ goTb := wt_2 (List.mem_of_getElem? (i := 58) rfl) rfl
theorem wfl_RX4_116 : Cond.fieldLink RX4 116 "GoatCourt$Hill" "stories" "[I" ∈ goTb := wt_2 (List.mem_of_getElem? (i := 59) rfl) rfl
theorem wfl_RX12_181 : Cond.fieldLink RX12 181 "GoatCourt$Hill" "stories" "[I" ∈ goTb := wt_2 (List.mem_of_getElem? (i := 60) rfl) rfl
theorem wfl_RX6_27 : Cond.fieldLink RX6 27 "GoatCourt$Hill" "weights" "[I" ∈ goTb := wt_2 (List.mem_of_getElem? (i := 61) rfl) rfl
theorem wfl_RX6_30 : Cond.fieldLink RX6 30 "GoatCourt$Hill" "tells" "[I" ∈ goTb := wt_2 (List.mem_of_getElem? (i := 62) rfl) rfl
theorem wfl_RX6_33 : Cond.fieldLink RX6 33 "GoatCourt$Hill" "cheeses" "[I" ∈ goTb := wt_2 (List.mem_of_getElem? (i := 63) rfl) rfl
theorem wfl_RX3_177 : Cond.fieldLink RX3 177 "GoatCourt$Hill" "cheeses" "[I" ∈ goTb := wt_2 (List.mem_of_getElem? (i := 64) rfl) rfl
theorem wfl_RX9_323 : Cond.fieldLink RX9 323 "GoatCourt$Hill" "cheeses" "[I" ∈ goTb := wt_2 (List.mem_of_getElem? (i := 65) rfl) rfl
theorem wfl_RX6_39 : Cond.fieldLink RX6 39 "GoatCourt$Hill" "herd" "LGoatCourt$Herd;" ∈ goTb := wt_2 (List.mem_of_getElem? (i := 66) rfl) rfl
theorem wfl_RX3_69 : Cond.fieldLink RX3 69 "GoatCourt$Hill" "herd" "LGoatCourt$Herd;" ∈ goTb := wt_2 (List.mem_of_getElem? (i := 67) rfl) rfl
theorem wfl_RX4_75 : Cond.fieldLink RX4 75 "GoatCourt$Hill" "herd" "LGoatCourt$Herd;" ∈ goTb := wt_2 (List.mem_of_getElem? (i := 68) rfl) rfl
theorem wfl_RX12_118 : Cond.fieldLink RX12 118 "GoatCourt$Hill" "herd" "LGoatCourt$Herd;" ∈ goTb := wt_2 (List.mem_of_getElem? (i := 69) rfl) rfl
theorem wfl_RX9_222 : Cond.fieldLink RX9 222 "GoatCourt$Hill" "herd" "LGoatCourt$Herd;" ∈ goTb := wt_2 (List.mem_of_getElem? (i := 70) rfl) rfl
theorem wfl_RX6_46 : Cond.fieldLink RX6 46 "GoatCourt$Hill" "law" "LGoatCourt$Law;" ∈ goTb := wt_2 (List.mem_of_getElem? (i := 71) rfl) rfl
theorem wfl_RX9_284 : Cond.fieldLink RX9 284 "GoatCourt$Hill" "law" "LGoatCourt$Law;" ∈ goTb := wt_2 (List.mem_of_getElem? (i := 72) rfl) rfl
theorem wfl_RX12_295 : Cond.fieldLink RX12 295 "GoatCourt$Hill" "law" "LGoatCourt$Law;" ∈ goTb := wt_2 (List.mem_of_getElem? (i := 73) rfl) rfl
theorem wfl_RX6_53 : Cond.fieldLink RX6 53 "GoatCourt$Hill" "courts" "LGoatCourt$Courts;" ∈ goTb := wt_2 (List.mem_of_getElem? (i := 74) rfl) rfl
theorem wfl_RX9_308 : Cond.fieldLink RX9 308 "GoatCourt$Hill" "courts" "LGoatCourt$Courts;" ∈ goTb := wt_2 (List.mem_of_getElem? (i := 75) rfl) rfl
theorem wfl_RX12_329 : Cond.fieldLink RX12 329 "GoatCourt$Hill" "courts" "LGoatCourt$Courts;" ∈ goTb := wt_2 (List.mem_of_getElem? (i := 76) rfl) rfl
theorem wcl_RX12_33 : Cond.classLink RX12 33 RX9 ∈ goTb := wt_2 (List.mem_of_getElem? (i := 114) rfl) rfl
theorem wia_RX9 : Cond.instantiable RX9 12 ∈ goTb := wt_2 (List.mem_of_getElem? (i := 115) rfl) rfl
theorem wml_RX12_35 : Cond.methodLink RX12 35 yX9_init ∈ goTb := wt_2 (List.mem_of_getElem? (i := 116) rfl) rfl
theorem wim_X9_init : Cond.instanceMethod yX9_init ∈ goTb := wt_2 (List.mem_of_getElem? (i := 117) rfl) rfl
theorem wco_X9_init : Cond.code yX9_init cX9_init 4 (Option.none : Option Jvm.ClassFile.FieldType) ∈ goTb := wt_2 (List.mem_of_getElem? (i := 118) rfl) rfl
theorem wml_RX9_3 : Cond.methodLink RX9 3 objectInit ∈ goTb := wt_2 (List.mem_of_getElem? (i := 119) rfl) rfl
theorem wfn_RX9_28 : Cond.fieldLinkNest RX9 28 "GoatCourt" "RESERVED" "[LGoatCourt$Reserved;" "GoatCourt" ∈ lw_tbl := wl_2 (List.mem_of_getElem? (i := 120) rfl)
theorem wml_RX9_49 : Cond.methodLink RX9 49 yX11_codeOf ∈ goTb := wt_2 (List.mem_of_getElem? (i := 122) rfl) rfl
theorem wst_X11_codeOf : Cond.static yX11_codeOf ∈ goTb := wt_2 (List.mem_of_getElem? (i := 123) rfl) rfl
theorem wco_X11_codeOf : Cond.code yX11_codeOf cX11_codeOf 4 (Option.some Jvm.ClassFile.FieldType.long) ∈ goTb := wt_2 (List.mem_of_getElem? (i := 124) rfl) rfl
theorem wml_RX11_71 : Cond.methodLink RX11 71 yJ0_length_8abf5 ∈ goTb := wt_2 (List.mem_of_getElem? (i := 125) rfl) rfl
theorem wim_J0_length_8abf5 : Cond.instanceMethod yJ0_length_8abf5 ∈ goTb := wt_2 (List.mem_of_getElem? (i := 126) rfl) rfl
theorem wse_J0_length_8abf5 : Cond.selects RJ0 yJ0_length_8abf5 yJ0_length_8abf5 ∈ goTb := wt_2 (List.mem_of_getElem? (i := 127) rfl) rfl
theorem wco_J0_length_8abf5 : Cond.code yJ0_length_8abf5 cJ0_length_8abf5 1 (Option.some Jvm.ClassFile.FieldType.int) ∈ goTb := wt_2 (List.mem_of_getElem? (i := 128) rfl) rfl
theorem wml_RJ0_335 : Cond.methodLink RJ0 335 yJ0_coder_7d493 ∈ goTb := wt_2 (List.mem_of_getElem? (i := 129) rfl) rfl
theorem wim_J0_coder_7d493 : Cond.instanceMethod yJ0_coder_7d493 ∈ goTb := wt_2 (List.mem_of_getElem? (i := 130) rfl) rfl
theorem wse_J0_coder_7d493 : Cond.selects RJ0 yJ0_coder_7d493 yJ0_coder_7d493 ∈ goTb := wt_2 (List.mem_of_getElem? (i := 131) rfl) rfl
theorem wco_J0_coder_7d493 : Cond.code yJ0_coder_7d493 cJ0_coder_7d493 1 (Option.some Jvm.ClassFile.FieldType.byte) ∈ goTb := wt_2 (List.mem_of_getElem? (i := 132) rfl) rfl
theorem wfl_RJ0_38 : Cond.fieldLink RJ0 38 "java/lang/String" "COMPACT_STRINGS" "Z" ∈ goTb := wt_2 (List.mem_of_getElem? (i := 133) rfl) rfl
theorem wcJ_RX11_57 : Cond.constantLong RX11 57 (32 : Int64) ∈ goTb := wt_2 (List.mem_of_getElem? (i := 135) rfl) rfl
theorem wml_RX11_77 : Cond.methodLink RX11 77 yJ0_charAt_5068e ∈ goTb := wt_2 (List.mem_of_getElem? (i := 136) rfl) rfl
theorem wim_J0_charAt_5068e : Cond.instanceMethod yJ0_charAt_5068e ∈ goTb := wt_2 (List.mem_of_getElem? (i := 137) rfl) rfl
theorem wse_J0_charAt_5068e : Cond.selects RJ0 yJ0_charAt_5068e yJ0_charAt_5068e ∈ goTb := wt_2 (List.mem_of_getElem? (i := 138) rfl) rfl
theorem wco_J0_charAt_5068e : Cond.code yJ0_charAt_5068e cJ0_charAt_5068e 2 (Option.some Jvm.ClassFile.FieldType.char) ∈ goTb := wt_2 (List.mem_of_getElem? (i := 139) rfl) rfl
theorem wml_RJ0_492 : Cond.methodLink RJ0 492 yJ0_isLatin1_aae02 ∈ goTb := wt_2 (List.mem_of_getElem? (i := 140) rfl) rfl
theorem wim_J0_isLatin1_aae02 : Cond.instanceMethod yJ0_isLatin1_aae02 ∈ goTb := wt_2 (List.mem_of_getElem? (i := 141) rfl) rfl
theorem wse_J0_isLatin1_aae02 : Cond.selects RJ0 yJ0_isLatin1_aae02 yJ0_isLatin1_aae02 ∈ goTb := wt_2 (List.mem_of_getElem? (i := 142) rfl) rfl
theorem wco_J0_isLatin1_aae02 : Cond.code yJ0_isLatin1_aae02 cJ0_isLatin1_aae02 1 (Option.some Jvm.ClassFile.FieldType.boolean) ∈ goTb := wt_2 (List.mem_of_getElem? (i := 143) rfl) rfl
theorem wml_RJ0_495 : Cond.methodLink RJ0 495 yJ1_charAt_3b067 ∈ goTb := wt_2 (List.mem_of_getElem? (i := 144) rfl) rfl
theorem wst_J1_charAt_3b067 : Cond.static yJ1_charAt_3b067 ∈ goTb := wt_2 (List.mem_of_getElem? (i := 145) rfl) rfl
theorem wco_J1_charAt_3b067 : Cond.code yJ1_charAt_3b067 cJ1_charAt_3b067 2 (Option.some Jvm.ClassFile.FieldType.char) ∈ goTb := wt_2 (List.mem_of_getElem? (i := 146) rfl) rfl
theorem wml_RJ1_9 : Cond.methodLink RJ1 9 yJ0_checkIndex_df160 ∈ goTb := wt_2 (List.mem_of_getElem? (i := 147) rfl) rfl
theorem wst_J0_checkIndex_df160 : Cond.static yJ0_checkIndex_df160 ∈ goTb := wt_2 (List.mem_of_getElem? (i := 148) rfl) rfl
theorem wco_J0_checkIndex_df160 : Cond.code yJ0_checkIndex_df160 cJ0_checkIndex_df160 2 (Option.none : Option Jvm.ClassFile.FieldType) ∈ goTb := wt_2 (List.mem_of_getElem? (i := 149) rfl) rfl
theorem wfl_RJ0_1053 : Cond.fieldLink RJ0 1053 "jdk/internal/util/Preconditions" "SIOOBE_FORMATTER" "Ljava/util/function/BiFunction;" ∈ goTb := wt_2 (List.mem_of_getElem? (i := 150) rfl) rfl
theorem wml_RJ0_1059 : Cond.methodLink RJ0 1059 yJ3_checkIndex_8e157 ∈ goTb := wt_2 (List.mem_of_getElem? (i := 152) rfl) rfl
theorem wst_J3_checkIndex_8e157 : Cond.static yJ3_checkIndex_8e157 ∈ goTb := wt_2 (List.mem_of_getElem? (i := 153) rfl) rfl
theorem wco_J3_checkIndex_8e157 : Cond.code yJ3_checkIndex_8e157 cJ3_checkIndex_8e157 3 (Option.some Jvm.ClassFile.FieldType.int) ∈ goTb := wt_2 (List.mem_of_getElem? (i := 154) rfl) rfl
theorem wml_RJ0_498 : Cond.methodLink RJ0 498 yJ2_charAt_3b067 ∈ goTb := wt_2 (List.mem_of_getElem? (i := 155) rfl) rfl
theorem wst_J2_charAt_3b067 : Cond.static yJ2_charAt_3b067 ∈ goTb := wt_2 (List.mem_of_getElem? (i := 156) rfl) rfl
theorem wco_J2_charAt_3b067 : Cond.code yJ2_charAt_3b067 cJ2_charAt_3b067 2 (Option.some Jvm.ClassFile.FieldType.char) ∈ goTb := wt_2 (List.mem_of_getElem? (i := 157) rfl) rfl
theorem wml_RJ2_67 : Cond.methodLink RJ2 67 yJ2_checkIndex_2214a ∈ goTb := wt_2 (List.mem_of_getElem? (i := 158) rfl) rfl
theorem wst_J2_checkIndex_2214a : Cond.static yJ2_checkIndex_2214a ∈ goTb := wt_2 (List.mem_of_getElem? (i := 159) rfl) rfl
theorem wco_J2_checkIndex_2214a : Cond.code yJ2_checkIndex_2214a cJ2_checkIndex_2214a 2 (Option.none : Option Jvm.ClassFile.FieldType) ∈ goTb := wt_2 (List.mem_of_getElem? (i := 160) rfl) rfl
theorem wml_RJ2_48 : Cond.methodLink RJ2 48 yJ2_length_9d52b ∈ goTb := wt_2 (List.mem_of_getElem? (i := 161) rfl) rfl
theorem wst_J2_length_9d52b : Cond.static yJ2_length_9d52b ∈ goTb := wt_2 (List.mem_of_getElem? (i := 162) rfl) rfl
theorem wco_J2_length_9d52b : Cond.code yJ2_length_9d52b cJ2_length_9d52b 1 (Option.some Jvm.ClassFile.FieldType.int) ∈ goTb := wt_2 (List.mem_of_getElem? (i := 163) rfl) rfl
theorem wml_RJ2_414 : Cond.methodLink RJ2 414 yJ0_checkIndex_df160 ∈ goTb := wt_2 (List.mem_of_getElem? (i := 164) rfl) rfl
theorem wml_RJ2_71 : Cond.methodLink RJ2 71 yJ2_getChar_3b067 ∈ goTb := wt_2 (List.mem_of_getElem? (i := 165) rfl) rfl
theorem wst_J2_getChar_3b067 : Cond.static yJ2_getChar_3b067 ∈ goTb := wt_2 (List.mem_of_getElem? (i := 166) rfl) rfl
theorem wco_J2_getChar_3b067 : Cond.code yJ2_getChar_3b067 cJ2_getChar_3b067 2 (Option.some Jvm.ClassFile.FieldType.char) ∈ goTb := wt_2 (List.mem_of_getElem? (i := 167) rfl) rfl
theorem wfl_RJ2_44 : Cond.fieldLink RJ2 44 "java/lang/StringUTF16" "$assertionsDisabled" "Z" ∈ goTb := wt_2 (List.mem_of_getElem? (i := 168) rfl) rfl
theorem wfl_RJ2_59 : Cond.fieldLink RJ2 59 "java/lang/StringUTF16" "HI_BYTE_SHIFT" "I" ∈ goTb := wt_2 (List.mem_of_getElem? (i := 170) rfl) rfl
theorem wfl_RJ2_63 : Cond.fieldLink RJ2 63 "java/lang/StringUTF16" "LO_BYTE_SHIFT" "I" ∈ goTb := wt_2 (List.mem_of_getElem? (i := 172) rfl) rfl
theorem wcJ_RX11_59 : Cond.constantLong RX11 59 (97 : Int64) ∈ goTb := wt_2 (List.mem_of_getElem? (i := 174) rfl) rfl
theorem wfl_RX9_35 : Cond.fieldLink RX9 35 "GoatCourt$Reader" "tape" "LGoatCourt$Tape;" ∈ goTb := wt_2 (List.mem_of_getElem? (i := 175) rfl) rfl
theorem wfl_RX9_11 : Cond.fieldLink RX9 11 "GoatCourt$Reader" "names" "[J" ∈ goTb := wt_2 (List.mem_of_getElem? (i := 176) rfl) rfl
theorem wfl_RX9_15 : Cond.fieldLink RX9 15 "GoatCourt$Reader" "nameSort" "[I" ∈ goTb := wt_2 (List.mem_of_getElem? (i := 177) rfl) rfl
theorem wfl_RX9_19 : Cond.fieldLink RX9 19 "GoatCourt$Reader" "nameNumber" "[I" ∈ goTb := wt_2 (List.mem_of_getElem? (i := 178) rfl) rfl
theorem wfl_RX9_22 : Cond.fieldLink RX9 22 "GoatCourt$Reader" "lines" "[I" ∈ goTb := wt_2 (List.mem_of_getElem? (i := 179) rfl) rfl
theorem wfl_RX9_25 : Cond.fieldLink RX9 25 "GoatCourt$Reader" "facts" "[I" ∈ goTb := wt_2 (List.mem_of_getElem? (i := 180) rfl) rfl
theorem wfl_RX9_32 : Cond.fieldLink RX9 32 "GoatCourt$Reader" "reserved" "[J" ∈ goTb := wt_2 (List.mem_of_getElem? (i := 181) rfl) rfl
theorem wfl_RX9_39 : Cond.fieldLink RX9 39 "GoatCourt$Reader" "into" "LGoatCourt$Hill;" ∈ goTb := wt_2 (List.mem_of_getElem? (i := 182) rfl) rfl
theorem wfl_RX9_60 : Cond.fieldLink RX9 60 "GoatCourt$Reader" "nameCount" "I" ∈ goTb := wt_2 (List.mem_of_getElem? (i := 183) rfl) rfl
theorem wfl_RX9_345 : Cond.fieldLink RX9 345 "GoatCourt$Reader" "newName" "J" ∈ goTb := wt_2 (List.mem_of_getElem? (i := 184) rfl) rfl
theorem wfl_RX9_64 : Cond.fieldLink RX9 64 "GoatCourt$Reader" "fault" "I" ∈ goTb := wt_2 (List.mem_of_getElem? (i := 185) rfl) rfl
theorem wfl_RX12_94 : Cond.fieldLink RX12 94 "GoatCourt$Reader" "place" "I" ∈ goTb := wt_2 (List.mem_of_getElem? (i := 186) rfl) rfl
theorem wfl_RX9_332 : Cond.fieldLink RX9 332 "GoatCourt$Reader" "place" "I" ∈ goTb := wt_2 (List.mem_of_getElem? (i := 187) rfl) rfl
theorem wcl_RX12_42 : Cond.classLink RX12 42 RX4 ∈ goTb := wt_2 (List.mem_of_getElem? (i := 213) rfl) rfl
theorem wia_RX4 : Cond.instantiable RX4 12 ∈ goTb := wt_2 (List.mem_of_getElem? (i := 214) rfl) rfl
theorem wml_RX12_44 : Cond.methodLink RX12 44 yX4_init ∈ goTb := wt_2 (List.mem_of_getElem? (i := 215) rfl) rfl
theorem wim_X4_init : Cond.instanceMethod yX4_init ∈ goTb := wt_2 (List.mem_of_getElem? (i := 216) rfl) rfl
theorem wco_X4_init : Cond.code yX4_init cX4_init 3 (Option.none : Option Jvm.ClassFile.FieldType) ∈ goTb := wt_2 (List.mem_of_getElem? (i := 217) rfl) rfl
theorem wml_RX4_3 : Cond.methodLink RX4 3 objectInit ∈ goTb := wt_2 (List.mem_of_getElem? (i := 218) rfl) rfl
theorem wcl_RX4_30 : Cond.classLink RX4 30 RX3 ∈ goTb := wt_2 (List.mem_of_getElem? (i := 219) rfl) rfl
theorem wia_RX3 : Cond.instantiable RX3 11 ∈ goTb := wt_2 (List.mem_of_getElem? (i := 220) rfl) rfl
theorem wml_RX4_32 : Cond.methodLink RX4 32 yX3_init ∈ goTb := wt_2 (List.mem_of_getElem? (i := 221) rfl) rfl
theorem wim_X3_init : Cond.instanceMethod yX3_init ∈ goTb := wt_2 (List.mem_of_getElem? (i := 222) rfl) rfl
theorem wco_X3_init : Cond.code yX3_init cX3_init 3 (Option.none : Option Jvm.ClassFile.FieldType) ∈ goTb := wt_2 (List.mem_of_getElem? (i := 223) rfl) rfl
theorem wml_RX3_3 : Cond.methodLink RX3 3 objectInit ∈ goTb := wt_2 (List.mem_of_getElem? (i := 224) rfl) rfl
theorem wfl_RX3_39 : Cond.fieldLink RX3 39 "GoatCourt$Day" "acts" "LGoatCourt$Acts;" ∈ goTb := wt_2 (List.mem_of_getElem? (i := 225) rfl) rfl
theorem wfl_RX3_43 : Cond.fieldLink RX3 43 "GoatCourt$Day" "hill" "LGoatCourt$Hill;" ∈ goTb := wt_2 (List.mem_of_getElem? (i := 226) rfl) rfl
theorem wfl_RX8_31 : Cond.fieldLink RX8 31 "GoatCourt$Day" "hill" "LGoatCourt$Hill;" ∈ goTb := wt_2 (List.mem_of_getElem? (i := 227) rfl) rfl
theorem wfl_RX4_46 : Cond.fieldLink RX4 46 "GoatCourt$Day" "hill" "LGoatCourt$Hill;" ∈ goTb := wt_2 (List.mem_of_getElem? (i := 228) rfl) rfl
theorem wfl_RX3_11 : Cond.fieldLink RX3 11 "GoatCourt$Day" "state" "[I" ∈ goTb := wt_2 (List.mem_of_getElem? (i := 229) rfl) rfl
theorem wfl_RX8_85 : Cond.fieldLink RX8 85 "GoatCourt$Day" "state" "[I" ∈ goTb := wt_2 (List.mem_of_getElem? (i := 230) rfl) rfl
theorem wfl_RX12_215 : Cond.fieldLink RX12 215 "GoatCourt$Day" "state" "[I" ∈ goTb := wt_2 (List.mem_of_getElem? (i := 231) rfl) rfl
theorem wfl_RX3_15 : Cond.fieldLink RX3 15 "GoatCourt$Day" "lures" "[I" ∈ goTb := wt_2 (List.mem_of_getElem? (i := 232) rfl) rfl
theorem wfl_RX8_88 : Cond.fieldLink RX8 88 "GoatCourt$Day" "lures" "[I" ∈ goTb := wt_2 (List.mem_of_getElem? (i := 233) rfl) rfl
theorem wfl_RX3_18 : Cond.fieldLink RX3 18 "GoatCourt$Day" "open" "[I" ∈ goTb := wt_2 (List.mem_of_getElem? (i := 234) rfl) rfl
theorem wfl_RX3_21 : Cond.fieldLink RX3 21 "GoatCourt$Day" "peopleFeared" "[I" ∈ goTb := wt_2 (List.mem_of_getElem? (i := 235) rfl) rfl
theorem wfl_RX3_24 : Cond.fieldLink RX3 24 "GoatCourt$Day" "spots" "[I" ∈ goTb := wt_2 (List.mem_of_getElem? (i := 236) rfl) rfl
theorem wfl_RX4_88 : Cond.fieldLink RX4 88 "GoatCourt$Day" "spots" "[I" ∈ goTb := wt_2 (List.mem_of_getElem? (i := 237) rfl) rfl
theorem wfl_RX12_201 : Cond.fieldLink RX12 201 "GoatCourt$Day" "spots" "[I" ∈ goTb := wt_2 (List.mem_of_getElem? (i := 238) rfl) rfl
theorem wfl_RX3_27 : Cond.fieldLink RX3 27 "GoatCourt$Day" "bites" "[I" ∈ goTb := wt_2 (List.mem_of_getElem? (i := 239) rfl) rfl
theorem wfl_RX3_30 : Cond.fieldLink RX3 30 "GoatCourt$Day" "eaten" "[I" ∈ goTb := wt_3 (List.mem_of_getElem? (i := 0) rfl) rfl
theorem wfl_RX12_206 : Cond.fieldLink RX12 206 "GoatCourt$Day" "eaten" "[I" ∈ goTb := wt_3 (List.mem_of_getElem? (i := 1) rfl) rfl
theorem wfl_RX3_33 : Cond.fieldLink RX3 33 "GoatCourt$Day" "dropped" "[I" ∈ goTb := wt_3 (List.mem_of_getElem? (i := 2) rfl) rfl
theorem wfl_RX12_209 : Cond.fieldLink RX12 209 "GoatCourt$Day" "dropped" "[I" ∈ goTb := wt_3 (List.mem_of_getElem? (i := 3) rfl) rfl
theorem wfl_RX3_36 : Cond.fieldLink RX3 36 "GoatCourt$Day" "fled" "[I" ∈ goTb := wt_3 (List.mem_of_getElem? (i := 4) rfl) rfl
theorem wfl_RX12_212 : Cond.fieldLink RX12 212 "GoatCourt$Day" "fled" "[I" ∈ goTb := wt_3 (List.mem_of_getElem? (i := 5) rfl) rfl
theorem wfl_RX4_22 : Cond.fieldLink RX4 22 "GoatCourt$Evidence" "acts" "LGoatCourt$Acts;" ∈ goTb := wt_3 (List.mem_of_getElem? (i := 29) rfl) rfl
theorem wfl_RX4_35 : Cond.fieldLink RX4 35 "GoatCourt$Evidence" "day" "LGoatCourt$Day;" ∈ goTb := wt_3 (List.mem_of_getElem? (i := 30) rfl) rfl
theorem wfl_RX4_26 : Cond.fieldLink RX4 26 "GoatCourt$Evidence" "hill" "LGoatCourt$Hill;" ∈ goTb := wt_3 (List.mem_of_getElem? (i := 31) rfl) rfl
theorem wfl_RX4_9 : Cond.fieldLink RX4 9 "GoatCourt$Evidence" "truths" "[I" ∈ goTb := wt_3 (List.mem_of_getElem? (i := 32) rfl) rfl
theorem wfl_RX4_15 : Cond.fieldLink RX4 15 "GoatCourt$Evidence" "spots" "[B" ∈ goTb := wt_3 (List.mem_of_getElem? (i := 33) rfl) rfl
theorem wfl_RX4_19 : Cond.fieldLink RX4 19 "GoatCourt$Evidence" "tally" "[I" ∈ goTb := wt_3 (List.mem_of_getElem? (i := 34) rfl) rfl
theorem wfl_RX4_39 : Cond.fieldLink RX4 39 "GoatCourt$Evidence" "truthsVersion" "I" ∈ goTb := wt_3 (List.mem_of_getElem? (i := 35) rfl) rfl
theorem wfl_RX4_43 : Cond.fieldLink RX4 43 "GoatCourt$Evidence" "dayVersion" "I" ∈ goTb := wt_3 (List.mem_of_getElem? (i := 36) rfl) rfl
theorem wfl_RX4_52 : Cond.fieldLink RX4 52 "GoatCourt$Evidence" "dayCase" "I" ∈ goTb := wt_3 (List.mem_of_getElem? (i := 37) rfl) rfl
theorem wfl_RX4_152 : Cond.fieldLink RX4 152 "GoatCourt$Evidence" "askedGoat" "I" ∈ goTb := wt_3 (List.mem_of_getElem? (i := 38) rfl) rfl
theorem wfl_RX12_266 : Cond.fieldLink RX12 266 "GoatCourt$Evidence" "askedGoat" "I" ∈ goTb := wt_3 (List.mem_of_getElem? (i := 39) rfl) rfl
theorem wfl_RX4_155 : Cond.fieldLink RX4 155 "GoatCourt$Evidence" "askedHour" "I" ∈ goTb := wt_3 (List.mem_of_getElem? (i := 40) rfl) rfl
theorem wfl_RX12_269 : Cond.fieldLink RX12 269 "GoatCourt$Evidence" "askedHour" "I" ∈ goTb := wt_3 (List.mem_of_getElem? (i := 41) rfl) rfl
theorem wfl_RX4_146 : Cond.fieldLink RX4 146 "GoatCourt$Evidence" "askedMost" "I" ∈ goTb := wt_3 (List.mem_of_getElem? (i := 42) rfl) rfl
theorem wfl_RX12_272 : Cond.fieldLink RX12 272 "GoatCourt$Evidence" "askedMost" "I" ∈ goTb := wt_3 (List.mem_of_getElem? (i := 43) rfl) rfl
theorem wcl_RX12_51 : Cond.classLink RX12 51 RX8 ∈ goTb := wt_3 (List.mem_of_getElem? (i := 69) rfl) rfl
theorem wia_RX8 : Cond.instantiable RX8 10 ∈ goTb := wt_3 (List.mem_of_getElem? (i := 70) rfl) rfl
theorem wml_RX12_53 : Cond.methodLink RX12 53 yX8_init ∈ goTb := wt_3 (List.mem_of_getElem? (i := 71) rfl) rfl
theorem wim_X8_init : Cond.instanceMethod yX8_init ∈ goTb := wt_3 (List.mem_of_getElem? (i := 72) rfl) rfl
theorem wco_X8_init : Cond.code yX8_init cX8_init 3 (Option.none : Option Jvm.ClassFile.FieldType) ∈ goTb := wt_3 (List.mem_of_getElem? (i := 73) rfl) rfl
theorem wml_RX8_3 : Cond.methodLink RX8 3 objectInit ∈ goTb := wt_3 (List.mem_of_getElem? (i := 74) rfl) rfl
theorem wcl_RX8_9 : Cond.classLink RX8 9 RX3 ∈ goTb := wt_3 (List.mem_of_getElem? (i := 75) rfl) rfl
theorem wml_RX8_24 : Cond.methodLink RX8 24 yX3_init ∈ goTb := wt_3 (List.mem_of_getElem? (i := 76) rfl) rfl
theorem wfl_RX8_27 : Cond.fieldLink RX8 27 "GoatCourt$Lure" "day" "LGoatCourt$Day;" ∈ goTb := wt_3 (List.mem_of_getElem? (i := 77) rfl) rfl
theorem wfl_RX8_11 : Cond.fieldLink RX8 11 "GoatCourt$Lure" "plain" "[I" ∈ goTb := wt_3 (List.mem_of_getElem? (i := 78) rfl) rfl
theorem wfl_RX8_17 : Cond.fieldLink RX8 17 "GoatCourt$Lure" "lured" "[I" ∈ goTb := wt_3 (List.mem_of_getElem? (i := 79) rfl) rfl
theorem wfl_RX8_20 : Cond.fieldLink RX8 20 "GoatCourt$Lure" "dull" "[Z" ∈ goTb := wt_3 (List.mem_of_getElem? (i := 80) rfl) rfl
theorem wfl_RX8_35 : Cond.fieldLink RX8 35 "GoatCourt$Lure" "goat" "I" ∈ goTb := wt_3 (List.mem_of_getElem? (i := 81) rfl) rfl
theorem wfl_RX8_39 : Cond.fieldLink RX8 39 "GoatCourt$Lure" "place" "I" ∈ goTb := wt_3 (List.mem_of_getElem? (i := 82) rfl) rfl
theorem wfl_RX8_42 : Cond.fieldLink RX8 42 "GoatCourt$Lure" "hour" "I" ∈ goTb := wt_3 (List.mem_of_getElem? (i := 83) rfl) rfl
theorem wfl_RX8_45 : Cond.fieldLink RX8 45 "GoatCourt$Lure" "sort" "I" ∈ goTb := wt_3 (List.mem_of_getElem? (i := 84) rfl) rfl
theorem wfl_RX8_67 : Cond.fieldLink RX8 67 "GoatCourt$Lure" "firstSpot" "I" ∈ goTb := wt_3 (List.mem_of_getElem? (i := 85) rfl) rfl
theorem wfl_RX12_283 : Cond.fieldLink RX12 283 "GoatCourt$Lure" "firstSpot" "I" ∈ goTb := wt_3 (List.mem_of_getElem? (i := 86) rfl) rfl
theorem wfl_RX8_70 : Cond.fieldLink RX8 70 "GoatCourt$Lure" "secondSpot" "I" ∈ goTb := wt_3 (List.mem_of_getElem? (i := 87) rfl) rfl
theorem wfl_RX12_286 : Cond.fieldLink RX12 286 "GoatCourt$Lure" "secondSpot" "I" ∈ goTb := wt_3 (List.mem_of_getElem? (i := 88) rfl) rfl
theorem war_boolean : Cond.arrayClass .boolean ∈ goTb := wt_3 (List.mem_of_getElem? (i := 110) rfl) rfl
theorem wfl_RX12_10 : Cond.fieldLink RX12 10 "GoatCourt" "tape" "LGoatCourt$Tape;" ∈ goTb := wt_3 (List.mem_of_getElem? (i := 111) rfl) rfl
theorem wfl_RX12_38 : Cond.fieldLink RX12 38 "GoatCourt" "reader" "LGoatCourt$Reader;" ∈ goTb := wt_3 (List.mem_of_getElem? (i := 112) rfl) rfl
theorem wfl_RX12_19 : Cond.fieldLink RX12 19 "GoatCourt" "acts" "LGoatCourt$Acts;" ∈ goTb := wt_3 (List.mem_of_getElem? (i := 113) rfl) rfl
theorem wfl_RX12_47 : Cond.fieldLink RX12 47 "GoatCourt" "evidence" "LGoatCourt$Evidence;" ∈ goTb := wt_3 (List.mem_of_getElem? (i := 114) rfl) rfl
theorem wfl_RX12_54 : Cond.fieldLink RX12 54 "GoatCourt" "lure" "LGoatCourt$Lure;" ∈ goTb := wt_3 (List.mem_of_getElem? (i := 115) rfl) rfl
theorem wfl_RX12_26 : Cond.fieldLink RX12 26 "GoatCourt" "told" "LGoatCourt$Hill;" ∈ goTb := wt_3 (List.mem_of_getElem? (i := 116) rfl) rfl
theorem wfl_RX12_30 : Cond.fieldLink RX12 30 "GoatCourt" "spare" "LGoatCourt$Hill;" ∈ goTb := wt_3 (List.mem_of_getElem? (i := 117) rfl) rfl
theorem wfl_RX12_74 : Cond.fieldLink RX12 74 "GoatCourt" "latestFault" "I" ∈ goTb := wt_3 (List.mem_of_getElem? (i := 118) rfl) rfl
theorem wfl_RX12_91 : Cond.fieldLink RX12 91 "GoatCourt" "troubled" "I" ∈ goTb := wt_3 (List.mem_of_getElem? (i := 119) rfl) rfl
theorem wml_RL_19 : Cond.methodLink RL 19 yX12_feed ∈ goTb := wt_3 (List.mem_of_getElem? (i := 139) rfl) rfl
theorem wim_X12_feed : Cond.instanceMethod yX12_feed ∈ goTb := wt_3 (List.mem_of_getElem? (i := 140) rfl) rfl
theorem wse_X12_feed : Cond.selects RX12 yX12_feed yX12_feed ∈ goTb := wt_3 (List.mem_of_getElem? (i := 141) rfl) rfl
theorem wco_X12_feed : Cond.code yX12_feed cX12_feed 6 (Option.some Jvm.ClassFile.FieldType.int) ∈ goTb := wt_3 (List.mem_of_getElem? (i := 142) rfl) rfl
theorem wml_RX12_62 : Cond.methodLink RX12 62 yX11_add ∈ goTb := wt_3 (List.mem_of_getElem? (i := 143) rfl) rfl
theorem wim_X11_add : Cond.instanceMethod yX11_add ∈ goTb := wt_3 (List.mem_of_getElem? (i := 144) rfl) rfl
theorem wse_X11_add : Cond.selects RX11 yX11_add yX11_add ∈ goTb := wt_3 (List.mem_of_getElem? (i := 145) rfl) rfl
theorem wco_X11_add : Cond.code yX11_add cX11_add 3 (Option.none : Option Jvm.ClassFile.FieldType) ∈ goTb := wt_3 (List.mem_of_getElem? (i := 146) rfl) rfl
theorem wml_RL_24 : Cond.methodLink RL 24 yX12_hill ∈ goTb := wt_3 (List.mem_of_getElem? (i := 147) rfl) rfl
theorem wim_X12_hill : Cond.instanceMethod yX12_hill ∈ goTb := wt_3 (List.mem_of_getElem? (i := 148) rfl) rfl
theorem wse_X12_hill : Cond.selects RX12 yX12_hill yX12_hill ∈ goTb := wt_3 (List.mem_of_getElem? (i := 149) rfl) rfl
theorem wco_X12_hill : Cond.code yX12_hill cX12_hill 3 (Option.some Jvm.ClassFile.FieldType.int) ∈ goTb := wt_3 (List.mem_of_getElem? (i := 150) rfl) rfl
theorem wml_RX12_66 : Cond.methodLink RX12 66 yX12_refuse ∈ goTb := wt_3 (List.mem_of_getElem? (i := 151) rfl) rfl
theorem wim_X12_refuse : Cond.instanceMethod yX12_refuse ∈ goTb := wt_3 (List.mem_of_getElem? (i := 153) rfl) rfl
theorem wco_X12_refuse : Cond.code yX12_refuse cX12_refuse 2 (Option.some Jvm.ClassFile.FieldType.int) ∈ goTb := wt_3 (List.mem_of_getElem? (i := 154) rfl) rfl
theorem wml_RX12_70 : Cond.methodLink RX12 70 yX9_read ∈ goTb := wt_3 (List.mem_of_getElem? (i := 155) rfl) rfl
theorem wim_X9_read : Cond.instanceMethod yX9_read ∈ goTb := wt_3 (List.mem_of_getElem? (i := 156) rfl) rfl
theorem wse_X9_read : Cond.selects RX9 yX9_read yX9_read ∈ goTb := wt_3 (List.mem_of_getElem? (i := 157) rfl) rfl
theorem wco_X9_read : Cond.code yX9_read cX9_read 5 (Option.some Jvm.ClassFile.FieldType.int) ∈ goTb := wt_3 (List.mem_of_getElem? (i := 158) rfl) rfl
theorem wml_RX9_55 : Cond.methodLink RX9 55 yX6_clear ∈ goTb := wt_3 (List.mem_of_getElem? (i := 159) rfl) rfl
theorem wim_X6_clear : Cond.instanceMethod yX6_clear ∈ goTb := wt_3 (List.mem_of_getElem? (i := 160) rfl) rfl
theorem wse_X6_clear : Cond.selects RX6 yX6_clear yX6_clear ∈ goTb := wt_3 (List.mem_of_getElem? (i := 161) rfl) rfl
theorem wco_X6_clear : Cond.code yX6_clear cX6_clear 1 (Option.none : Option Jvm.ClassFile.FieldType) ∈ goTb := wt_3 (List.mem_of_getElem? (i := 162) rfl) rfl
theorem wml_RX6_80 : Cond.methodLink RX6 80 yJ7_fill_53178 ∈ goTb := wt_3 (List.mem_of_getElem? (i := 163) rfl) rfl
theorem wst_J7_fill_53178 : Cond.static yJ7_fill_53178 ∈ goTb := wt_3 (List.mem_of_getElem? (i := 164) rfl) rfl
theorem wco_J7_fill_53178 : Cond.code yJ7_fill_53178 cJ7_fill_53178 4 (Option.none : Option Jvm.ClassFile.FieldType) ∈ goTb := wt_3 (List.mem_of_getElem? (i := 165) rfl) rfl
theorem wml_RX6_86 : Cond.methodLink RX6 86 yX5_clear ∈ goTb := wt_3 (List.mem_of_getElem? (i := 166) rfl) rfl
theorem wim_X5_clear : Cond.instanceMethod yX5_clear ∈ goTb := wt_3 (List.mem_of_getElem? (i := 167) rfl) rfl
theorem wse_X5_clear : Cond.selects RX5 yX5_clear yX5_clear ∈ goTb := wt_3 (List.mem_of_getElem? (i := 168) rfl) rfl
theorem wco_X5_clear : Cond.code yX5_clear cX5_clear 1 (Option.none : Option Jvm.ClassFile.FieldType) ∈ goTb := wt_3 (List.mem_of_getElem? (i := 169) rfl) rfl
theorem wml_RX5_52 : Cond.methodLink RX5 52 yJ7_fill_53178 ∈ goTb := wt_3 (List.mem_of_getElem? (i := 170) rfl) rfl
theorem wml_RX6_89 : Cond.methodLink RX6 89 yX7_clear ∈ goTb := wt_3 (List.mem_of_getElem? (i := 171) rfl) rfl
theorem wim_X7_clear : Cond.instanceMethod yX7_clear ∈ goTb := wt_3 (List.mem_of_getElem? (i := 172) rfl) rfl
theorem wse_X7_clear : Cond.selects RX7 yX7_clear yX7_clear ∈ goTb := wt_3 (List.mem_of_getElem? (i := 173) rfl) rfl
theorem wco_X7_clear : Cond.code yX7_clear cX7_clear 1 (Option.none : Option Jvm.ClassFile.FieldType) ∈ goTb := wt_3 (List.mem_of_getElem? (i := 174) rfl) rfl
theorem wml_RX9_67 : Cond.methodLink RX9 67 yJ7_fill_53178 ∈ goTb := wt_3 (List.mem_of_getElem? (i := 175) rfl) rfl
theorem wml_RX9_73 : Cond.methodLink RX9 73 yX11_rewind ∈ goTb := wt_3 (List.mem_of_getElem? (i := 176) rfl) rfl
theorem wim_X11_rewind : Cond.instanceMethod yX11_rewind ∈ goTb := wt_3 (List.mem_of_getElem? (i := 177) rfl) rfl
theorem wse_X11_rewind : Cond.selects RX11 yX11_rewind yX11_rewind ∈ goTb := wt_3 (List.mem_of_getElem? (i := 178) rfl) rfl
theorem wco_X11_rewind : Cond.code yX11_rewind cX11_rewind 2 (Option.none : Option Jvm.ClassFile.FieldType) ∈ goTb := wt_3 (List.mem_of_getElem? (i := 179) rfl) rfl
theorem wml_RX11_19 : Cond.methodLink RX11 19 yJ9_min_7cf53 ∈ goTb := wt_3 (List.mem_of_getElem? (i := 180) rfl) rfl
theorem wst_J9_min_7cf53 : Cond.static yJ9_min_7cf53 ∈ goTb := wt_3 (List.mem_of_getElem? (i := 181) rfl) rfl
theorem wco_J9_min_7cf53 : Cond.code yJ9_min_7cf53 cJ9_min_7cf53 2 (Option.some Jvm.ClassFile.FieldType.int) ∈ goTb := wt_3 (List.mem_of_getElem? (i := 182) rfl) rfl
theorem wml_RX11_31 : Cond.methodLink RX11 31 yX11_advance ∈ goTb := wt_3 (List.mem_of_getElem? (i := 183) rfl) rfl
theorem wim_X11_advance : Cond.instanceMethod yX11_advance ∈ goTb := wt_3 (List.mem_of_getElem? (i := 184) rfl) rfl
theorem wse_X11_advance : Cond.selects RX11 yX11_advance yX11_advance ∈ goTb := wt_3 (List.mem_of_getElem? (i := 185) rfl) rfl
theorem wco_X11_advance : Cond.code yX11_advance cX11_advance 2 (Option.none : Option Jvm.ClassFile.FieldType) ∈ goTb := wt_3 (List.mem_of_getElem? (i := 186) rfl) rfl
theorem wml_RX11_40 : Cond.methodLink RX11 40 yX11_isLetter ∈ goTb := wt_3 (List.mem_of_getElem? (i := 187) rfl) rfl
theorem wst_X11_isLetter : Cond.static yX11_isLetter ∈ goTb := wt_3 (List.mem_of_getElem? (i := 188) rfl) rfl
theorem wco_X11_isLetter : Cond.code yX11_isLetter cX11_isLetter 1 (Option.some Jvm.ClassFile.FieldType.boolean) ∈ goTb := wt_3 (List.mem_of_getElem? (i := 189) rfl) rfl
theorem wml_RX11_44 : Cond.methodLink RX11 44 yX11_readWord ∈ goTb := wt_3 (List.mem_of_getElem? (i := 190) rfl) rfl
theorem wim_X11_readWord : Cond.instanceMethod yX11_readWord ∈ goTb := wt_3 (List.mem_of_getElem? (i := 192) rfl) rfl
theorem wco_X11_readWord : Cond.code yX11_readWord cX11_readWord 1 (Option.none : Option Jvm.ClassFile.FieldType) ∈ goTb := wt_3 (List.mem_of_getElem? (i := 193) rfl) rfl
theorem wml_RX11_47 : Cond.methodLink RX11 47 yX11_isDigit ∈ goTb := wt_3 (List.mem_of_getElem? (i := 194) rfl) rfl
theorem wst_X11_isDigit : Cond.static yX11_isDigit ∈ goTb := wt_3 (List.mem_of_getElem? (i := 195) rfl) rfl
theorem wco_X11_isDigit : Cond.code yX11_isDigit cX11_isDigit 1 (Option.some Jvm.ClassFile.FieldType.boolean) ∈ goTb := wt_3 (List.mem_of_getElem? (i := 196) rfl) rfl
theorem wml_RX11_50 : Cond.methodLink RX11 50 yX11_readWhole ∈ goTb := wt_3 (List.mem_of_getElem? (i := 197) rfl) rfl
theorem wim_X11_readWhole : Cond.instanceMethod yX11_readWhole ∈ goTb := wt_3 (List.mem_of_getElem? (i := 199) rfl) rfl
theorem wco_X11_readWhole : Cond.code yX11_readWhole cX11_readWhole 1 (Option.none : Option Jvm.ClassFile.FieldType) ∈ goTb := wt_3 (List.mem_of_getElem? (i := 200) rfl) rfl
theorem wml_RX9_77 : Cond.methodLink RX9 77 yX9_line ∈ goTb := wt_3 (List.mem_of_getElem? (i := 201) rfl) rfl
theorem wim_X9_line : Cond.instanceMethod yX9_line ∈ goTb := wt_3 (List.mem_of_getElem? (i := 203) rfl) rfl
theorem wco_X9_line : Cond.code yX9_line cX9_line 2 (Option.some Jvm.ClassFile.FieldType.boolean) ∈ goTb := wt_3 (List.mem_of_getElem? (i := 204) rfl) rfl
theorem wml_RX9_97 : Cond.methodLink RX9 97 yX9_reservedHere ∈ goTb := wt_3 (List.mem_of_getElem? (i := 205) rfl) rfl
theorem wim_X9_reservedHere : Cond.instanceMethod yX9_reservedHere ∈ goTb := wt_3 (List.mem_of_getElem? (i := 207) rfl) rfl
theorem wco_X9_reservedHere : Cond.code yX9_reservedHere cX9_reservedHere 2 (Option.some (Jvm.ClassFile.FieldType.object "GoatCourt$Reserved")) ∈ goTb := wt_3 (List.mem_of_getElem? (i := 208) rfl) rfl
theorem wfl_RX9_339 : Cond.fieldLink RX9 339 "GoatCourt$Reserved" "OTHER" "LGoatCourt$Reserved;" ∈ goTb := wt_3 (List.mem_of_getElem? (i := 209) rfl) rfl
theorem wml_RX9_87 : Cond.methodLink RX9 87 yX9_fail ∈ goTb := wt_3 (List.mem_of_getElem? (i := 211) rfl) rfl
theorem wim_X9_fail : Cond.instanceMethod yX9_fail ∈ goTb := wt_3 (List.mem_of_getElem? (i := 213) rfl) rfl
theorem wco_X9_fail : Cond.code yX9_fail cX9_fail 2 (Option.some Jvm.ClassFile.FieldType.boolean) ∈ goTb := wt_3 (List.mem_of_getElem? (i := 214) rfl) rfl
theorem wfl_RX9_104 : Cond.fieldLink RX9 104 "GoatCourt$Reserved" "HILL" "LGoatCourt$Reserved;" ∈ goTb := wt_3 (List.mem_of_getElem? (i := 215) rfl) rfl
theorem wml_RX9_84 : Cond.methodLink RX9 84 yX11_advance ∈ goTb := wt_3 (List.mem_of_getElem? (i := 217) rfl) rfl
theorem wfl_RX9_111 : Cond.fieldLink RX9 111 "GoatCourt$1" "$SwitchMap$GoatCourt$Reserved" "[I" ∈ goTb := wt_3 (List.mem_of_getElem? (i := 218) rfl) rfl
theorem wml_RX9_116 : Cond.methodLink RX9 116 ⟨RX10, "ordinal", "()I"⟩ ∈ goTb := wt_3 (List.mem_of_getElem? (i := 220) rfl) rfl
theorem wsm_ordinal : Cond.sameMethod RX10 RJx29ce0 "ordinal" "()I" ∈ goTb := wt_3 (List.mem_of_getElem? (i := 221) rfl) rfl
theorem wse_ordinal : Cond.selects RX10 ⟨RX10, "ordinal", "()I"⟩ yJx29ce0_ordinal_8abf5 ∈ goTb := wt_3 (List.mem_of_getElem? (i := 223) rfl) rfl
theorem wim_Jx29ce0_ordinal_8abf5 : Cond.instanceMethod yJx29ce0_ordinal_8abf5 ∈ goTb := wt_3 (List.mem_of_getElem? (i := 224) rfl) rfl
theorem wco_Jx29ce0_ordinal_8abf5 : Cond.code yJx29ce0_ordinal_8abf5 cJx29ce0_ordinal_8abf5 1 (Option.some Jvm.ClassFile.FieldType.int) ∈ goTb := wt_3 (List.mem_of_getElem? (i := 225) rfl) rfl
theorem wml_RX9_120 : Cond.methodLink RX9 120 yX9_hillLine ∈ goTb := wt_3 (List.mem_of_getElem? (i := 226) rfl) rfl
theorem wim_X9_hillLine : Cond.instanceMethod yX9_hillLine ∈ goTb := wt_3 (List.mem_of_getElem? (i := 228) rfl) rfl
theorem wco_X9_hillLine : Cond.code yX9_hillLine cX9_hillLine 1 (Option.some Jvm.ClassFile.FieldType.boolean) ∈ goTb := wt_3 (List.mem_of_getElem? (i := 229) rfl) rfl
theorem wml_RX9_169 : Cond.methodLink RX9 169 yX9_word ∈ goTb := wt_3 (List.mem_of_getElem? (i := 231) rfl) rfl
theorem wim_X9_word : Cond.instanceMethod yX9_word ∈ goTb := wt_3 (List.mem_of_getElem? (i := 233) rfl) rfl
theorem wco_X9_word : Cond.code yX9_word cX9_word 2 (Option.some Jvm.ClassFile.FieldType.boolean) ∈ goTb := wt_3 (List.mem_of_getElem? (i := 234) rfl) rfl
theorem wml_RX9_251 : Cond.methodLink RX9 251 yX11_spells ∈ goTb := wt_3 (List.mem_of_getElem? (i := 235) rfl) rfl
theorem wim_X11_spells : Cond.instanceMethod yX11_spells ∈ goTb := wt_3 (List.mem_of_getElem? (i := 236) rfl) rfl
theorem wse_X11_spells : Cond.selects RX11 yX11_spells yX11_spells ∈ goTb := wt_3 (List.mem_of_getElem? (i := 237) rfl) rfl
theorem wco_X11_spells : Cond.code yX11_spells cX11_spells 2 (Option.some Jvm.ClassFile.FieldType.boolean) ∈ goTb := wt_3 (List.mem_of_getElem? (i := 238) rfl) rfl
theorem wml_RX11_67 : Cond.methodLink RX11 67 yX11_codeOf ∈ goTb := wt_3 (List.mem_of_getElem? (i := 239) rfl) rfl
theorem wml_RX9_172 : Cond.methodLink RX9 172 yX9_wholeIn ∈ goTb := wt_4 (List.mem_of_getElem? (i := 0) rfl) rfl
theorem wim_X9_wholeIn : Cond.instanceMethod yX9_wholeIn ∈ goTb := wt_4 (List.mem_of_getElem? (i := 2) rfl) rfl
theorem wco_X9_wholeIn : Cond.code yX9_wholeIn cX9_wholeIn 3 (Option.some Jvm.ClassFile.FieldType.boolean) ∈ goTb := wt_4 (List.mem_of_getElem? (i := 3) rfl) rfl
theorem wml_RX9_123 : Cond.methodLink RX9 123 yX9_placeLine ∈ goTb := wt_4 (List.mem_of_getElem? (i := 5) rfl) rfl
theorem wim_X9_placeLine : Cond.instanceMethod yX9_placeLine ∈ goTb := wt_4 (List.mem_of_getElem? (i := 7) rfl) rfl
theorem wco_X9_placeLine : Cond.code yX9_placeLine cX9_placeLine 3 (Option.some Jvm.ClassFile.FieldType.boolean) ∈ goTb := wt_4 (List.mem_of_getElem? (i := 8) rfl) rfl
theorem wml_RX9_185 : Cond.methodLink RX9 185 yX9_freshName ∈ goTb := wt_4 (List.mem_of_getElem? (i := 9) rfl) rfl
theorem wim_X9_freshName : Cond.instanceMethod yX9_freshName ∈ goTb := wt_4 (List.mem_of_getElem? (i := 11) rfl) rfl
theorem wco_X9_freshName : Cond.code yX9_freshName cX9_freshName 1 (Option.some Jvm.ClassFile.FieldType.boolean) ∈ goTb := wt_4 (List.mem_of_getElem? (i := 12) rfl) rfl
theorem wml_RX9_342 : Cond.methodLink RX9 342 yX9_find ∈ goTb := wt_4 (List.mem_of_getElem? (i := 13) rfl) rfl
theorem wim_X9_find : Cond.instanceMethod yX9_find ∈ goTb := wt_4 (List.mem_of_getElem? (i := 15) rfl) rfl
theorem wco_X9_find : Cond.code yX9_find cX9_find 2 (Option.some Jvm.ClassFile.FieldType.int) ∈ goTb := wt_4 (List.mem_of_getElem? (i := 16) rfl) rfl
theorem wml_RX9_188 : Cond.methodLink RX9 188 yX9_partIn ∈ goTb := wt_4 (List.mem_of_getElem? (i := 17) rfl) rfl
theorem wim_X9_partIn : Cond.instanceMethod yX9_partIn ∈ goTb := wt_4 (List.mem_of_getElem? (i := 19) rfl) rfl
theorem wco_X9_partIn : Cond.code yX9_partIn cX9_partIn 3 (Option.some Jvm.ClassFile.FieldType.boolean) ∈ goTb := wt_4 (List.mem_of_getElem? (i := 20) rfl) rfl
theorem wml_RX9_194 : Cond.methodLink RX9 194 yX9_tell ∈ goTb := wt_4 (List.mem_of_getElem? (i := 21) rfl) rfl
theorem wim_X9_tell : Cond.instanceMethod yX9_tell ∈ goTb := wt_4 (List.mem_of_getElem? (i := 23) rfl) rfl
theorem wco_X9_tell : Cond.code yX9_tell cX9_tell 3 (Option.some Jvm.ClassFile.FieldType.boolean) ∈ goTb := wt_4 (List.mem_of_getElem? (i := 24) rfl) rfl
theorem wml_RX9_126 : Cond.methodLink RX9 126 yX9_pathLine ∈ goTb := wt_4 (List.mem_of_getElem? (i := 25) rfl) rfl
theorem wim_X9_pathLine : Cond.instanceMethod yX9_pathLine ∈ goTb := wt_4 (List.mem_of_getElem? (i := 27) rfl) rfl
theorem wco_X9_pathLine : Cond.code yX9_pathLine cX9_pathLine 3 (Option.some Jvm.ClassFile.FieldType.boolean) ∈ goTb := wt_4 (List.mem_of_getElem? (i := 28) rfl) rfl
theorem wml_RX9_197 : Cond.methodLink RX9 197 yX9_named ∈ goTb := wt_4 (List.mem_of_getElem? (i := 29) rfl) rfl
theorem wim_X9_named : Cond.instanceMethod yX9_named ∈ goTb := wt_4 (List.mem_of_getElem? (i := 31) rfl) rfl
theorem wco_X9_named : Cond.code yX9_named cX9_named 3 (Option.some Jvm.ClassFile.FieldType.int) ∈ goTb := wt_4 (List.mem_of_getElem? (i := 32) rfl) rfl
theorem wmn_RX9_204 : Cond.methodLinkNest RX9 204 yX12_bit "GoatCourt" ∈ lw_tbl := wl_4 (List.mem_of_getElem? (i := 33) rfl)
theorem wst_X12_bit : Cond.static yX12_bit ∈ goTb := wt_4 (List.mem_of_getElem? (i := 34) rfl) rfl
theorem wco_X12_bit : Cond.code yX12_bit cX12_bit 2 (Option.some Jvm.ClassFile.FieldType.int) ∈ goTb := wt_4 (List.mem_of_getElem? (i := 35) rfl) rfl
theorem wml_RX9_208 : Cond.methodLink RX9 208 yX6_addPath ∈ goTb := wt_4 (List.mem_of_getElem? (i := 36) rfl) rfl
theorem wim_X6_addPath : Cond.instanceMethod yX6_addPath ∈ goTb := wt_4 (List.mem_of_getElem? (i := 37) rfl) rfl
theorem wse_X6_addPath : Cond.selects RX6 yX6_addPath yX6_addPath ∈ goTb := wt_4 (List.mem_of_getElem? (i := 38) rfl) rfl
theorem wco_X6_addPath : Cond.code yX6_addPath cX6_addPath 3 (Option.none : Option Jvm.ClassFile.FieldType) ∈ goTb := wt_4 (List.mem_of_getElem? (i := 39) rfl) rfl
theorem wml_RX9_129 : Cond.methodLink RX9 129 yX9_personLine ∈ goTb := wt_4 (List.mem_of_getElem? (i := 40) rfl) rfl
theorem wim_X9_personLine : Cond.instanceMethod yX9_personLine ∈ goTb := wt_4 (List.mem_of_getElem? (i := 42) rfl) rfl
theorem wco_X9_personLine : Cond.code yX9_personLine cX9_personLine 1 (Option.some Jvm.ClassFile.FieldType.boolean) ∈ goTb := wt_4 (List.mem_of_getElem? (i := 43) rfl) rfl
theorem wml_RX9_132 : Cond.methodLink RX9 132 yX9_storyLine ∈ goTb := wt_4 (List.mem_of_getElem? (i := 44) rfl) rfl
theorem wim_X9_storyLine : Cond.instanceMethod yX9_storyLine ∈ goTb := wt_4 (List.mem_of_getElem? (i := 46) rfl) rfl
theorem wco_X9_storyLine : Cond.code yX9_storyLine cX9_storyLine 4 (Option.some Jvm.ClassFile.FieldType.boolean) ∈ goTb := wt_4 (List.mem_of_getElem? (i := 47) rfl) rfl
theorem wml_RX9_218 : Cond.methodLink RX9 218 yX6_tellFrom ∈ goTb := wt_4 (List.mem_of_getElem? (i := 48) rfl) rfl
theorem wim_X6_tellFrom : Cond.instanceMethod yX6_tellFrom ∈ goTb := wt_4 (List.mem_of_getElem? (i := 49) rfl) rfl
theorem wse_X6_tellFrom : Cond.selects RX6 yX6_tellFrom yX6_tellFrom ∈ goTb := wt_4 (List.mem_of_getElem? (i := 50) rfl) rfl
theorem wco_X6_tellFrom : Cond.code yX6_tellFrom cX6_tellFrom 6 (Option.none : Option Jvm.ClassFile.FieldType) ∈ goTb := wt_4 (List.mem_of_getElem? (i := 51) rfl) rfl
theorem wml_RX9_135 : Cond.methodLink RX9 135 yX9_goatLine ∈ goTb := wt_4 (List.mem_of_getElem? (i := 52) rfl) rfl
theorem wim_X9_goatLine : Cond.instanceMethod yX9_goatLine ∈ goTb := wt_4 (List.mem_of_getElem? (i := 54) rfl) rfl
theorem wco_X9_goatLine : Cond.code yX9_goatLine cX9_goatLine 3 (Option.some Jvm.ClassFile.FieldType.boolean) ∈ goTb := wt_4 (List.mem_of_getElem? (i := 55) rfl) rfl
theorem wml_RX9_229 : Cond.methodLink RX9 229 yX9_kindOf ∈ goTb := wt_4 (List.mem_of_getElem? (i := 56) rfl) rfl
theorem wim_X9_kindOf : Cond.instanceMethod yX9_kindOf ∈ goTb := wt_4 (List.mem_of_getElem? (i := 58) rfl) rfl
theorem wco_X9_kindOf : Cond.code yX9_kindOf cX9_kindOf 3 (Option.some Jvm.ClassFile.FieldType.boolean) ∈ goTb := wt_4 (List.mem_of_getElem? (i := 59) rfl) rfl
theorem wml_RX9_234 : Cond.methodLink RX9 234 yX9_orderOf ∈ goTb := wt_4 (List.mem_of_getElem? (i := 65) rfl) rfl
theorem wim_X9_orderOf : Cond.instanceMethod yX9_orderOf ∈ goTb := wt_4 (List.mem_of_getElem? (i := 67) rfl) rfl
theorem wco_X9_orderOf : Cond.code yX9_orderOf cX9_orderOf 5 (Option.some Jvm.ClassFile.FieldType.boolean) ∈ goTb := wt_4 (List.mem_of_getElem? (i := 68) rfl) rfl
theorem wml_RX9_265 : Cond.methodLink RX9 265 yX11_plantAt ∈ goTb := wt_4 (List.mem_of_getElem? (i := 69) rfl) rfl
theorem wim_X11_plantAt : Cond.instanceMethod yX11_plantAt ∈ goTb := wt_4 (List.mem_of_getElem? (i := 70) rfl) rfl
theorem wse_X11_plantAt : Cond.selects RX11 yX11_plantAt yX11_plantAt ∈ goTb := wt_4 (List.mem_of_getElem? (i := 71) rfl) rfl
theorem wco_X11_plantAt : Cond.code yX11_plantAt cX11_plantAt 2 (Option.some Jvm.ClassFile.FieldType.int) ∈ goTb := wt_4 (List.mem_of_getElem? (i := 72) rfl) rfl
theorem wmn_RX9_268 : Cond.methodLinkNest RX9 268 yX12_within "GoatCourt" ∈ lw_tbl := wl_4 (List.mem_of_getElem? (i := 73) rfl)
theorem wst_X12_within : Cond.static yX12_within ∈ goTb := wt_4 (List.mem_of_getElem? (i := 74) rfl) rfl
theorem wco_X12_within : Cond.code yX12_within cX12_within 2 (Option.some Jvm.ClassFile.FieldType.boolean) ∈ goTb := wt_4 (List.mem_of_getElem? (i := 75) rfl) rfl
theorem wml_RX9_138 : Cond.methodLink RX9 138 yX9_fearLine ∈ goTb := wt_4 (List.mem_of_getElem? (i := 78) rfl) rfl
theorem wim_X9_fearLine : Cond.instanceMethod yX9_fearLine ∈ goTb := wt_4 (List.mem_of_getElem? (i := 80) rfl) rfl
theorem wco_X9_fearLine : Cond.code yX9_fearLine cX9_fearLine 3 (Option.some Jvm.ClassFile.FieldType.boolean) ∈ goTb := wt_4 (List.mem_of_getElem? (i := 81) rfl) rfl
theorem wml_RX9_141 : Cond.methodLink RX9 141 yX9_foundLine ∈ goTb := wt_4 (List.mem_of_getElem? (i := 82) rfl) rfl
theorem wim_X9_foundLine : Cond.instanceMethod yX9_foundLine ∈ goTb := wt_4 (List.mem_of_getElem? (i := 84) rfl) rfl
theorem wco_X9_foundLine : Cond.code yX9_foundLine cX9_foundLine 4 (Option.some Jvm.ClassFile.FieldType.boolean) ∈ goTb := wt_4 (List.mem_of_getElem? (i := 85) rfl) rfl
theorem wml_RX9_280 : Cond.methodLink RX9 280 yX5_addClue ∈ goTb := wt_4 (List.mem_of_getElem? (i := 86) rfl) rfl
theorem wim_X5_addClue : Cond.instanceMethod yX5_addClue ∈ goTb := wt_4 (List.mem_of_getElem? (i := 87) rfl) rfl
theorem wse_X5_addClue : Cond.selects RX5 yX5_addClue yX5_addClue ∈ goTb := wt_4 (List.mem_of_getElem? (i := 88) rfl) rfl
theorem wco_X5_addClue : Cond.code yX5_addClue cX5_addClue 5 (Option.none : Option Jvm.ClassFile.FieldType) ∈ goTb := wt_4 (List.mem_of_getElem? (i := 89) rfl) rfl
theorem wml_RX9_146 : Cond.methodLink RX9 146 yX9_seenLine ∈ goTb := wt_4 (List.mem_of_getElem? (i := 90) rfl) rfl
theorem wim_X9_seenLine : Cond.instanceMethod yX9_seenLine ∈ goTb := wt_4 (List.mem_of_getElem? (i := 92) rfl) rfl
theorem wco_X9_seenLine : Cond.code yX9_seenLine cX9_seenLine 4 (Option.some Jvm.ClassFile.FieldType.boolean) ∈ goTb := wt_4 (List.mem_of_getElem? (i := 93) rfl) rfl
theorem wml_RX9_149 : Cond.methodLink RX9 149 yX9_factLine ∈ goTb := wt_4 (List.mem_of_getElem? (i := 94) rfl) rfl
theorem wim_X9_factLine : Cond.instanceMethod yX9_factLine ∈ goTb := wt_4 (List.mem_of_getElem? (i := 96) rfl) rfl
theorem wco_X9_factLine : Cond.code yX9_factLine cX9_factLine 1 (Option.some Jvm.ClassFile.FieldType.boolean) ∈ goTb := wt_4 (List.mem_of_getElem? (i := 97) rfl) rfl
theorem wml_RX9_152 : Cond.methodLink RX9 152 yX9_holdsLine ∈ goTb := wt_4 (List.mem_of_getElem? (i := 98) rfl) rfl
theorem wim_X9_holdsLine : Cond.instanceMethod yX9_holdsLine ∈ goTb := wt_4 (List.mem_of_getElem? (i := 100) rfl) rfl
theorem wco_X9_holdsLine : Cond.code yX9_holdsLine cX9_holdsLine 2 (Option.some Jvm.ClassFile.FieldType.boolean) ∈ goTb := wt_4 (List.mem_of_getElem? (i := 101) rfl) rfl
theorem wml_RX9_155 : Cond.methodLink RX9 155 yX9_ruleLine ∈ goTb := wt_4 (List.mem_of_getElem? (i := 102) rfl) rfl
theorem wim_X9_ruleLine : Cond.instanceMethod yX9_ruleLine ∈ goTb := wt_4 (List.mem_of_getElem? (i := 104) rfl) rfl
theorem wco_X9_ruleLine : Cond.code yX9_ruleLine cX9_ruleLine 3 (Option.some Jvm.ClassFile.FieldType.boolean) ∈ goTb := wt_4 (List.mem_of_getElem? (i := 105) rfl) rfl
theorem wml_RX9_297 : Cond.methodLink RX9 297 yX9_factList ∈ goTb := wt_4 (List.mem_of_getElem? (i := 107) rfl) rfl
theorem wim_X9_factList : Cond.instanceMethod yX9_factList ∈ goTb := wt_4 (List.mem_of_getElem? (i := 109) rfl) rfl
theorem wco_X9_factList : Cond.code yX9_factList cX9_factList 6 (Option.some Jvm.ClassFile.FieldType.int) ∈ goTb := wt_4 (List.mem_of_getElem? (i := 110) rfl) rfl
theorem wml_RX9_301 : Cond.methodLink RX9 301 yX7_addRule ∈ goTb := wt_4 (List.mem_of_getElem? (i := 111) rfl) rfl
theorem wim_X7_addRule : Cond.instanceMethod yX7_addRule ∈ goTb := wt_4 (List.mem_of_getElem? (i := 112) rfl) rfl
theorem wse_X7_addRule : Cond.selects RX7 yX7_addRule yX7_addRule ∈ goTb := wt_4 (List.mem_of_getElem? (i := 113) rfl) rfl
theorem wco_X7_addRule : Cond.code yX7_addRule cX7_addRule 5 (Option.none : Option Jvm.ClassFile.FieldType) ∈ goTb := wt_4 (List.mem_of_getElem? (i := 114) rfl) rfl
theorem wml_RX9_158 : Cond.methodLink RX9 158 yX9_proofLine ∈ goTb := wt_4 (List.mem_of_getElem? (i := 115) rfl) rfl
theorem wim_X9_proofLine : Cond.instanceMethod yX9_proofLine ∈ goTb := wt_4 (List.mem_of_getElem? (i := 117) rfl) rfl
theorem wco_X9_proofLine : Cond.code yX9_proofLine cX9_proofLine 2 (Option.some Jvm.ClassFile.FieldType.boolean) ∈ goTb := wt_4 (List.mem_of_getElem? (i := 118) rfl) rfl
theorem wml_RX9_305 : Cond.methodLink RX9 305 yX7_setProof ∈ goTb := wt_4 (List.mem_of_getElem? (i := 119) rfl) rfl
theorem wim_X7_setProof : Cond.instanceMethod yX7_setProof ∈ goTb := wt_4 (List.mem_of_getElem? (i := 120) rfl) rfl
theorem wse_X7_setProof : Cond.selects RX7 yX7_setProof yX7_setProof ∈ goTb := wt_4 (List.mem_of_getElem? (i := 121) rfl) rfl
theorem wco_X7_setProof : Cond.code yX7_setProof cX7_setProof 3 (Option.none : Option Jvm.ClassFile.FieldType) ∈ goTb := wt_4 (List.mem_of_getElem? (i := 122) rfl) rfl
theorem wml_RX7_34 : Cond.methodLink RX7 34 arraycopyName ∈ goTb := wt_4 (List.mem_of_getElem? (i := 123) rfl) rfl
theorem wst_arraycopy : Cond.static arraycopyName ∈ goTb := wt_4 (List.mem_of_getElem? (i := 124) rfl) rfl
theorem wna_arraycopy : Cond.native arraycopyName ∈ goTb := wt_4 (List.mem_of_getElem? (i := 125) rfl) rfl
theorem wml_RX9_161 : Cond.methodLink RX9 161 yX9_courtLine ∈ goTb := wt_4 (List.mem_of_getElem? (i := 126) rfl) rfl
theorem wim_X9_courtLine : Cond.instanceMethod yX9_courtLine ∈ goTb := wt_4 (List.mem_of_getElem? (i := 128) rfl) rfl
theorem wco_X9_courtLine : Cond.code yX9_courtLine cX9_courtLine 2 (Option.some Jvm.ClassFile.FieldType.boolean) ∈ goTb := wt_4 (List.mem_of_getElem? (i := 129) rfl) rfl
theorem wml_RX9_164 : Cond.methodLink RX9 164 yX9_cheeseLine ∈ goTb := wt_4 (List.mem_of_getElem? (i := 132) rfl) rfl
theorem wim_X9_cheeseLine : Cond.instanceMethod yX9_cheeseLine ∈ goTb := wt_4 (List.mem_of_getElem? (i := 134) rfl) rfl
theorem wco_X9_cheeseLine : Cond.code yX9_cheeseLine cX9_cheeseLine 2 (Option.some Jvm.ClassFile.FieldType.boolean) ∈ goTb := wt_4 (List.mem_of_getElem? (i := 135) rfl) rfl
theorem wml_RX9_94 : Cond.methodLink RX9 94 yX6_countCases ∈ goTb := wt_4 (List.mem_of_getElem? (i := 136) rfl) rfl
theorem wim_X6_countCases : Cond.instanceMethod yX6_countCases ∈ goTb := wt_4 (List.mem_of_getElem? (i := 137) rfl) rfl
theorem wse_X6_countCases : Cond.selects RX6 yX6_countCases yX6_countCases ∈ goTb := wt_4 (List.mem_of_getElem? (i := 138) rfl) rfl
theorem wco_X6_countCases : Cond.code yX6_countCases cX6_countCases 2 (Option.none : Option Jvm.ClassFile.FieldType) ∈ goTb := wt_4 (List.mem_of_getElem? (i := 139) rfl) rfl
theorem wml_RX12_77 : Cond.methodLink RX12 77 yX1_clear ∈ goTb := wt_4 (List.mem_of_getElem? (i := 140) rfl) rfl
theorem wim_X1_clear : Cond.instanceMethod yX1_clear ∈ goTb := wt_4 (List.mem_of_getElem? (i := 141) rfl) rfl
theorem wse_X1_clear : Cond.selects RX1 yX1_clear yX1_clear ∈ goTb := wt_4 (List.mem_of_getElem? (i := 142) rfl) rfl
theorem wco_X1_clear : Cond.code yX1_clear cX1_clear 1 (Option.none : Option Jvm.ClassFile.FieldType) ∈ goTb := wt_4 (List.mem_of_getElem? (i := 143) rfl) rfl
theorem wml_RX1_21 : Cond.methodLink RX1 21 yJ7_fill_53178 ∈ goTb := wt_4 (List.mem_of_getElem? (i := 144) rfl) rfl
theorem wml_RX12_80 : Cond.methodLink RX12 80 yX4_use ∈ goTb := wt_4 (List.mem_of_getElem? (i := 145) rfl) rfl
theorem wim_X4_use : Cond.instanceMethod yX4_use ∈ goTb := wt_4 (List.mem_of_getElem? (i := 146) rfl) rfl
theorem wse_X4_use : Cond.selects RX4 yX4_use yX4_use ∈ goTb := wt_4 (List.mem_of_getElem? (i := 147) rfl) rfl
theorem wco_X4_use : Cond.code yX4_use cX4_use 2 (Option.none : Option Jvm.ClassFile.FieldType) ∈ goTb := wt_4 (List.mem_of_getElem? (i := 148) rfl) rfl
theorem wml_RX12_84 : Cond.methodLink RX12 84 yX8_use ∈ goTb := wt_4 (List.mem_of_getElem? (i := 149) rfl) rfl
theorem wim_X8_use : Cond.instanceMethod yX8_use ∈ goTb := wt_4 (List.mem_of_getElem? (i := 150) rfl) rfl
theorem wse_X8_use : Cond.selects RX8 yX8_use yX8_use ∈ goTb := wt_4 (List.mem_of_getElem? (i := 151) rfl) rfl
theorem wco_X8_use : Cond.code yX8_use cX8_use 2 (Option.none : Option Jvm.ClassFile.FieldType) ∈ goTb := wt_4 (List.mem_of_getElem? (i := 152) rfl) rfl
theorem wml_RX12_88 : Cond.methodLink RX12 88 yX12_answer ∈ goTb := wt_4 (List.mem_of_getElem? (i := 153) rfl) rfl
theorem wim_X12_answer : Cond.instanceMethod yX12_answer ∈ goTb := wt_4 (List.mem_of_getElem? (i := 155) rfl) rfl
theorem wco_X12_answer : Cond.code yX12_answer cX12_answer 2 (Option.some Jvm.ClassFile.FieldType.int) ∈ goTb := wt_4 (List.mem_of_getElem? (i := 156) rfl) rfl
theorem wml_RL_29 : Cond.methodLink RL 29 yX12_fault ∈ goTb := wt_4 (List.mem_of_getElem? (i := 157) rfl) rfl
theorem wim_X12_fault : Cond.instanceMethod yX12_fault ∈ goTb := wt_4 (List.mem_of_getElem? (i := 158) rfl) rfl
theorem wse_X12_fault : Cond.selects RX12 yX12_fault yX12_fault ∈ goTb := wt_4 (List.mem_of_getElem? (i := 159) rfl) rfl
theorem wco_X12_fault : Cond.code yX12_fault cX12_fault 1 (Option.some Jvm.ClassFile.FieldType.int) ∈ goTb := wt_4 (List.mem_of_getElem? (i := 160) rfl) rfl
theorem wml_RL_34 : Cond.methodLink RL 34 yX12_where ∈ goTb := wt_4 (List.mem_of_getElem? (i := 161) rfl) rfl
theorem wim_X12_where : Cond.instanceMethod yX12_where ∈ goTb := wt_4 (List.mem_of_getElem? (i := 162) rfl) rfl
theorem wse_X12_where : Cond.selects RX12 yX12_where yX12_where ∈ goTb := wt_4 (List.mem_of_getElem? (i := 163) rfl) rfl
theorem wco_X12_where : Cond.code yX12_where cX12_where 1 (Option.some Jvm.ClassFile.FieldType.int) ∈ goTb := wt_4 (List.mem_of_getElem? (i := 164) rfl) rfl
theorem wml_RL_38 : Cond.methodLink RL 38 yX12_plants ∈ goTb := wt_4 (List.mem_of_getElem? (i := 165) rfl) rfl
theorem wim_X12_plants : Cond.instanceMethod yX12_plants ∈ goTb := wt_4 (List.mem_of_getElem? (i := 166) rfl) rfl
theorem wse_X12_plants : Cond.selects RX12 yX12_plants yX12_plants ∈ goTb := wt_4 (List.mem_of_getElem? (i := 167) rfl) rfl
theorem wco_X12_plants : Cond.code yX12_plants cX12_plants 3 (Option.some Jvm.ClassFile.FieldType.int) ∈ goTb := wt_4 (List.mem_of_getElem? (i := 168) rfl) rfl
theorem wml_RX12_97 : Cond.methodLink RX12 97 yX12_isPlace ∈ goTb := wt_4 (List.mem_of_getElem? (i := 169) rfl) rfl
theorem wim_X12_isPlace : Cond.instanceMethod yX12_isPlace ∈ goTb := wt_4 (List.mem_of_getElem? (i := 171) rfl) rfl
theorem wco_X12_isPlace : Cond.code yX12_isPlace cX12_isPlace 2 (Option.some Jvm.ClassFile.FieldType.boolean) ∈ goTb := wt_4 (List.mem_of_getElem? (i := 172) rfl) rfl
theorem wml_RX12_156 : Cond.methodLink RX12 156 yX12_within ∈ goTb := wt_4 (List.mem_of_getElem? (i := 173) rfl) rfl
theorem wml_RX12_101 : Cond.methodLink RX12 101 yX12_isPlant ∈ goTb := wt_4 (List.mem_of_getElem? (i := 174) rfl) rfl
theorem wim_X12_isPlant : Cond.instanceMethod yX12_isPlant ∈ goTb := wt_4 (List.mem_of_getElem? (i := 176) rfl) rfl
theorem wco_X12_isPlant : Cond.code yX12_isPlant cX12_isPlant 2 (Option.some Jvm.ClassFile.FieldType.boolean) ∈ goTb := wt_4 (List.mem_of_getElem? (i := 177) rfl) rfl
theorem wml_RX12_108 : Cond.methodLink RX12 108 yX12_countOf ∈ goTb := wt_4 (List.mem_of_getElem? (i := 178) rfl) rfl
theorem wst_X12_countOf : Cond.static yX12_countOf ∈ goTb := wt_4 (List.mem_of_getElem? (i := 179) rfl) rfl
theorem wco_X12_countOf : Cond.code yX12_countOf cX12_countOf 2 (Option.some Jvm.ClassFile.FieldType.int) ∈ goTb := wt_4 (List.mem_of_getElem? (i := 180) rfl) rfl
theorem wml_RL_43 : Cond.methodLink RL 43 yX12_near ∈ goTb := wt_4 (List.mem_of_getElem? (i := 181) rfl) rfl
theorem wim_X12_near : Cond.instanceMethod yX12_near ∈ goTb := wt_4 (List.mem_of_getElem? (i := 182) rfl) rfl
theorem wse_X12_near : Cond.selects RX12 yX12_near yX12_near ∈ goTb := wt_4 (List.mem_of_getElem? (i := 183) rfl) rfl
theorem wco_X12_near : Cond.code yX12_near cX12_near 2 (Option.some Jvm.ClassFile.FieldType.int) ∈ goTb := wt_4 (List.mem_of_getElem? (i := 184) rfl) rfl
theorem wml_RL_47 : Cond.methodLink RL 47 yX12_goat ∈ goTb := wt_4 (List.mem_of_getElem? (i := 185) rfl) rfl
theorem wim_X12_goat : Cond.instanceMethod yX12_goat ∈ goTb := wt_4 (List.mem_of_getElem? (i := 186) rfl) rfl
theorem wse_X12_goat : Cond.selects RX12 yX12_goat yX12_goat ∈ goTb := wt_4 (List.mem_of_getElem? (i := 187) rfl) rfl
theorem wco_X12_goat : Cond.code yX12_goat cX12_goat 4 (Option.some Jvm.ClassFile.FieldType.int) ∈ goTb := wt_4 (List.mem_of_getElem? (i := 188) rfl) rfl
theorem wml_RX12_115 : Cond.methodLink RX12 115 yX12_isGoat ∈ goTb := wt_4 (List.mem_of_getElem? (i := 189) rfl) rfl
theorem wim_X12_isGoat : Cond.instanceMethod yX12_isGoat ∈ goTb := wt_4 (List.mem_of_getElem? (i := 191) rfl) rfl
theorem wco_X12_isGoat : Cond.code yX12_isGoat cX12_isGoat 2 (Option.some Jvm.ClassFile.FieldType.boolean) ∈ goTb := wt_4 (List.mem_of_getElem? (i := 192) rfl) rfl
theorem wml_RX12_139 : Cond.methodLink RX12 139 yX5_cluesOf ∈ goTb := wt_4 (List.mem_of_getElem? (i := 193) rfl) rfl
theorem wim_X5_cluesOf : Cond.instanceMethod yX5_cluesOf ∈ goTb := wt_4 (List.mem_of_getElem? (i := 194) rfl) rfl
theorem wse_X5_cluesOf : Cond.selects RX5 yX5_cluesOf yX5_cluesOf ∈ goTb := wt_4 (List.mem_of_getElem? (i := 195) rfl) rfl
theorem wco_X5_cluesOf : Cond.code yX5_cluesOf cX5_cluesOf 4 (Option.some Jvm.ClassFile.FieldType.int) ∈ goTb := wt_4 (List.mem_of_getElem? (i := 196) rfl) rfl
theorem wmn_RX5_58 : Cond.methodLinkNest RX5 58 yX12_bit "GoatCourt" ∈ lw_tbl := wl_4 (List.mem_of_getElem? (i := 197) rfl)
theorem wml_RX12_142 : Cond.methodLink RX12 142 yJ6_bitCount_0f7a4 ∈ goTb := wt_4 (List.mem_of_getElem? (i := 198) rfl) rfl
theorem wst_J6_bitCount_0f7a4 : Cond.static yJ6_bitCount_0f7a4 ∈ goTb := wt_4 (List.mem_of_getElem? (i := 199) rfl) rfl
theorem wco_J6_bitCount_0f7a4 : Cond.code yJ6_bitCount_0f7a4 cJ6_bitCount_0f7a4 1 (Option.some Jvm.ClassFile.FieldType.int) ∈ goTb := wt_4 (List.mem_of_getElem? (i := 200) rfl) rfl
theorem wct_RJ6_265 : Cond.constant RJ6 265 (1431655765 : Int32) ∈ goTb := wt_4 (List.mem_of_getElem? (i := 201) rfl) rfl
theorem wct_RJ6_266 : Cond.constant RJ6 266 (858993459 : Int32) ∈ goTb := wt_4 (List.mem_of_getElem? (i := 202) rfl) rfl
theorem wct_RJ6_267 : Cond.constant RJ6 267 (252645135 : Int32) ∈ goTb := wt_4 (List.mem_of_getElem? (i := 203) rfl) rfl
theorem wml_RX12_150 : Cond.methodLink RX12 150 yX12_bit ∈ goTb := wt_4 (List.mem_of_getElem? (i := 204) rfl) rfl
theorem wml_RL_51 : Cond.methodLink RL 51 yX12_likes ∈ goTb := wt_4 (List.mem_of_getElem? (i := 205) rfl) rfl
theorem wim_X12_likes : Cond.instanceMethod yX12_likes ∈ goTb := wt_4 (List.mem_of_getElem? (i := 206) rfl) rfl
theorem wse_X12_likes : Cond.selects RX12 yX12_likes yX12_likes ∈ goTb := wt_4 (List.mem_of_getElem? (i := 207) rfl) rfl
theorem wco_X12_likes : Cond.code yX12_likes cX12_likes 3 (Option.some Jvm.ClassFile.FieldType.int) ∈ goTb := wt_4 (List.mem_of_getElem? (i := 208) rfl) rfl
theorem wml_RL_55 : Cond.methodLink RL 55 yX12_clue ∈ goTb := wt_4 (List.mem_of_getElem? (i := 209) rfl) rfl
theorem wim_X12_clue : Cond.instanceMethod yX12_clue ∈ goTb := wt_4 (List.mem_of_getElem? (i := 210) rfl) rfl
theorem wse_X12_clue : Cond.selects RX12 yX12_clue yX12_clue ∈ goTb := wt_4 (List.mem_of_getElem? (i := 211) rfl) rfl
theorem wco_X12_clue : Cond.code yX12_clue cX12_clue 4 (Option.some Jvm.ClassFile.FieldType.int) ∈ goTb := wt_4 (List.mem_of_getElem? (i := 212) rfl) rfl
theorem wml_RL_59 : Cond.methodLink RL 59 yX12_story ∈ goTb := wt_4 (List.mem_of_getElem? (i := 213) rfl) rfl
theorem wim_X12_story : Cond.instanceMethod yX12_story ∈ goTb := wt_4 (List.mem_of_getElem? (i := 214) rfl) rfl
theorem wse_X12_story : Cond.selects RX12 yX12_story yX12_story ∈ goTb := wt_4 (List.mem_of_getElem? (i := 215) rfl) rfl
theorem wco_X12_story : Cond.code yX12_story cX12_story 4 (Option.some Jvm.ClassFile.FieldType.int) ∈ goTb := wt_4 (List.mem_of_getElem? (i := 216) rfl) rfl
theorem wml_RX12_178 : Cond.methodLink RX12 178 yX12_isPerson ∈ goTb := wt_4 (List.mem_of_getElem? (i := 217) rfl) rfl
theorem wim_X12_isPerson : Cond.instanceMethod yX12_isPerson ∈ goTb := wt_4 (List.mem_of_getElem? (i := 219) rfl) rfl
theorem wco_X12_isPerson : Cond.code yX12_isPerson cX12_isPerson 2 (Option.some Jvm.ClassFile.FieldType.boolean) ∈ goTb := wt_4 (List.mem_of_getElem? (i := 220) rfl) rfl
theorem wml_RX12_184 : Cond.methodLink RX12 184 yX12_isHour ∈ goTb := wt_4 (List.mem_of_getElem? (i := 221) rfl) rfl
theorem wim_X12_isHour : Cond.instanceMethod yX12_isHour ∈ goTb := wt_4 (List.mem_of_getElem? (i := 223) rfl) rfl
theorem wco_X12_isHour : Cond.code yX12_isHour cX12_isHour 2 (Option.some Jvm.ClassFile.FieldType.boolean) ∈ goTb := wt_4 (List.mem_of_getElem? (i := 224) rfl) rfl
theorem wml_RX12_187 : Cond.methodLink RX12 187 yX6_toldPlace ∈ goTb := wt_4 (List.mem_of_getElem? (i := 225) rfl) rfl
theorem wim_X6_toldPlace : Cond.instanceMethod yX6_toldPlace ∈ goTb := wt_4 (List.mem_of_getElem? (i := 226) rfl) rfl
theorem wse_X6_toldPlace : Cond.selects RX6 yX6_toldPlace yX6_toldPlace ∈ goTb := wt_4 (List.mem_of_getElem? (i := 227) rfl) rfl
theorem wco_X6_toldPlace : Cond.code yX6_toldPlace cX6_toldPlace 4 (Option.some Jvm.ClassFile.FieldType.int) ∈ goTb := wt_4 (List.mem_of_getElem? (i := 228) rfl) rfl
theorem wml_RL_64 : Cond.methodLink RL 64 yX12_stories ∈ goTb := wt_4 (List.mem_of_getElem? (i := 229) rfl) rfl
theorem wim_X12_stories : Cond.instanceMethod yX12_stories ∈ goTb := wt_4 (List.mem_of_getElem? (i := 230) rfl) rfl
theorem wse_X12_stories : Cond.selects RX12 yX12_stories yX12_stories ∈ goTb := wt_4 (List.mem_of_getElem? (i := 231) rfl) rfl
theorem wco_X12_stories : Cond.code yX12_stories cX12_stories 2 (Option.some Jvm.ClassFile.FieldType.int) ∈ goTb := wt_4 (List.mem_of_getElem? (i := 232) rfl) rfl
theorem wml_RL_68 : Cond.methodLink RL 68 yX12_caseOf ∈ goTb := wt_4 (List.mem_of_getElem? (i := 233) rfl) rfl
theorem wim_X12_caseOf : Cond.instanceMethod yX12_caseOf ∈ goTb := wt_4 (List.mem_of_getElem? (i := 234) rfl) rfl
theorem wse_X12_caseOf : Cond.selects RX12 yX12_caseOf yX12_caseOf ∈ goTb := wt_4 (List.mem_of_getElem? (i := 235) rfl) rfl
theorem wco_X12_caseOf : Cond.code yX12_caseOf cX12_caseOf 3 (Option.some Jvm.ClassFile.FieldType.int) ∈ goTb := wt_4 (List.mem_of_getElem? (i := 236) rfl) rfl
theorem wml_RX12_191 : Cond.methodLink RX12 191 yX12_isCase ∈ goTb := wt_4 (List.mem_of_getElem? (i := 237) rfl) rfl
theorem wim_X12_isCase : Cond.instanceMethod yX12_isCase ∈ goTb := wt_4 (List.mem_of_getElem? (i := 239) rfl) rfl
theorem wco_X12_isCase : Cond.code yX12_isCase cX12_isCase 2 (Option.some Jvm.ClassFile.FieldType.boolean) ∈ goTb := wt_5 (List.mem_of_getElem? (i := 0) rfl) rfl
theorem wml_RX12_194 : Cond.methodLink RX12 194 yX6_storyIn ∈ goTb := wt_5 (List.mem_of_getElem? (i := 1) rfl) rfl
theorem wim_X6_storyIn : Cond.instanceMethod yX6_storyIn ∈ goTb := wt_5 (List.mem_of_getElem? (i := 2) rfl) rfl
theorem wse_X6_storyIn : Cond.selects RX6 yX6_storyIn yX6_storyIn ∈ goTb := wt_5 (List.mem_of_getElem? (i := 3) rfl) rfl
theorem wco_X6_storyIn : Cond.code yX6_storyIn cX6_storyIn 3 (Option.some Jvm.ClassFile.FieldType.int) ∈ goTb := wt_5 (List.mem_of_getElem? (i := 4) rfl) rfl
theorem wml_RL_72 : Cond.methodLink RL 72 yX12_at ∈ goTb := wt_5 (List.mem_of_getElem? (i := 5) rfl) rfl
theorem wim_X12_at : Cond.instanceMethod yX12_at ∈ goTb := wt_5 (List.mem_of_getElem? (i := 6) rfl) rfl
theorem wse_X12_at : Cond.selects RX12 yX12_at yX12_at ∈ goTb := wt_5 (List.mem_of_getElem? (i := 7) rfl) rfl
theorem wco_X12_at : Cond.code yX12_at cX12_at 4 (Option.some Jvm.ClassFile.FieldType.int) ∈ goTb := wt_5 (List.mem_of_getElem? (i := 8) rfl) rfl
theorem wml_RX12_197 : Cond.methodLink RX12 197 yX4_dayOf ∈ goTb := wt_5 (List.mem_of_getElem? (i := 9) rfl) rfl
theorem wim_X4_dayOf : Cond.instanceMethod yX4_dayOf ∈ goTb := wt_5 (List.mem_of_getElem? (i := 10) rfl) rfl
theorem wse_X4_dayOf : Cond.selects RX4 yX4_dayOf yX4_dayOf ∈ goTb := wt_5 (List.mem_of_getElem? (i := 11) rfl) rfl
theorem wco_X4_dayOf : Cond.code yX4_dayOf cX4_dayOf 2 (Option.some (Jvm.ClassFile.FieldType.object "GoatCourt$Day")) ∈ goTb := wt_5 (List.mem_of_getElem? (i := 12) rfl) rfl
theorem wml_RX4_55 : Cond.methodLink RX4 55 yX3_prepare ∈ goTb := wt_5 (List.mem_of_getElem? (i := 13) rfl) rfl
theorem wim_X3_prepare : Cond.instanceMethod yX3_prepare ∈ goTb := wt_5 (List.mem_of_getElem? (i := 14) rfl) rfl
theorem wse_X3_prepare : Cond.selects RX3 yX3_prepare yX3_prepare ∈ goTb := wt_5 (List.mem_of_getElem? (i := 15) rfl) rfl
theorem wco_X3_prepare : Cond.code yX3_prepare cX3_prepare 5 (Option.none : Option Jvm.ClassFile.FieldType) ∈ goTb := wt_5 (List.mem_of_getElem? (i := 16) rfl) rfl
theorem wml_RX3_52 : Cond.methodLink RX3 52 arraycopyName ∈ goTb := wt_5 (List.mem_of_getElem? (i := 17) rfl) rfl
theorem wml_RX3_58 : Cond.methodLink RX3 58 yJ7_fill_53178 ∈ goTb := wt_5 (List.mem_of_getElem? (i := 18) rfl) rfl
theorem wml_RX3_78 : Cond.methodLink RX3 78 yX3_openPaths ∈ goTb := wt_5 (List.mem_of_getElem? (i := 19) rfl) rfl
theorem wim_X3_openPaths : Cond.instanceMethod yX3_openPaths ∈ goTb := wt_5 (List.mem_of_getElem? (i := 21) rfl) rfl
theorem wco_X3_openPaths : Cond.code yX3_openPaths cX3_openPaths 2 (Option.none : Option Jvm.ClassFile.FieldType) ∈ goTb := wt_5 (List.mem_of_getElem? (i := 22) rfl) rfl
theorem wmn_RX3_110 : Cond.methodLinkNest RX3 110 yX12_bit "GoatCourt" ∈ lw_tbl := wl_5 (List.mem_of_getElem? (i := 23) rfl)
theorem wml_RX3_85 : Cond.methodLink RX3 85 yX6_storyIn ∈ goTb := wt_5 (List.mem_of_getElem? (i := 24) rfl) rfl
theorem wml_RX3_92 : Cond.methodLink RX3 92 yX5_minds ∈ goTb := wt_5 (List.mem_of_getElem? (i := 25) rfl) rfl
theorem wim_X5_minds : Cond.instanceMethod yX5_minds ∈ goTb := wt_5 (List.mem_of_getElem? (i := 26) rfl) rfl
theorem wse_X5_minds : Cond.selects RX5 yX5_minds yX5_minds ∈ goTb := wt_5 (List.mem_of_getElem? (i := 27) rfl) rfl
theorem wco_X5_minds : Cond.code yX5_minds cX5_minds 3 (Option.some Jvm.ClassFile.FieldType.boolean) ∈ goTb := wt_5 (List.mem_of_getElem? (i := 28) rfl) rfl
theorem wml_RX3_96 : Cond.methodLink RX3 96 yX3_fearPerson ∈ goTb := wt_5 (List.mem_of_getElem? (i := 29) rfl) rfl
theorem wim_X3_fearPerson : Cond.instanceMethod yX3_fearPerson ∈ goTb := wt_5 (List.mem_of_getElem? (i := 31) rfl) rfl
theorem wco_X3_fearPerson : Cond.code yX3_fearPerson cX3_fearPerson 5 (Option.none : Option Jvm.ClassFile.FieldType) ∈ goTb := wt_5 (List.mem_of_getElem? (i := 32) rfl) rfl
theorem wml_RX3_103 : Cond.methodLink RX3 103 yX6_toldPlace ∈ goTb := wt_5 (List.mem_of_getElem? (i := 33) rfl) rfl
theorem wml_RX4_64 : Cond.methodLink RX4 64 yX3_play ∈ goTb := wt_5 (List.mem_of_getElem? (i := 34) rfl) rfl
theorem wim_X3_play : Cond.instanceMethod yX3_play ∈ goTb := wt_5 (List.mem_of_getElem? (i := 35) rfl) rfl
theorem wse_X3_play : Cond.selects RX3 yX3_play yX3_play ∈ goTb := wt_5 (List.mem_of_getElem? (i := 36) rfl) rfl
theorem wco_X3_play : Cond.code yX3_play cX3_play 5 (Option.none : Option Jvm.ClassFile.FieldType) ∈ goTb := wt_5 (List.mem_of_getElem? (i := 37) rfl) rfl
theorem wml_RX3_119 : Cond.methodLink RX3 119 yX3_turn ∈ goTb := wt_5 (List.mem_of_getElem? (i := 38) rfl) rfl
theorem wim_X3_turn : Cond.instanceMethod yX3_turn ∈ goTb := wt_5 (List.mem_of_getElem? (i := 40) rfl) rfl
theorem wco_X3_turn : Cond.code yX3_turn cX3_turn 9 (Option.none : Option Jvm.ClassFile.FieldType) ∈ goTb := wt_5 (List.mem_of_getElem? (i := 41) rfl) rfl
theorem wml_RX3_129 : Cond.methodLink RX3 129 yX3_followsMother ∈ goTb := wt_5 (List.mem_of_getElem? (i := 42) rfl) rfl
theorem wim_X3_followsMother : Cond.instanceMethod yX3_followsMother ∈ goTb := wt_5 (List.mem_of_getElem? (i := 44) rfl) rfl
theorem wco_X3_followsMother : Cond.code yX3_followsMother cX3_followsMother 4 (Option.some Jvm.ClassFile.FieldType.boolean) ∈ goTb := wt_5 (List.mem_of_getElem? (i := 45) rfl) rfl
theorem wml_RX3_135 : Cond.methodLink RX3 135 yX3_best ∈ goTb := wt_5 (List.mem_of_getElem? (i := 46) rfl) rfl
theorem wim_X3_best : Cond.instanceMethod yX3_best ∈ goTb := wt_5 (List.mem_of_getElem? (i := 48) rfl) rfl
theorem wco_X3_best : Cond.code yX3_best cX3_best 10 (Option.some Jvm.ClassFile.FieldType.int) ∈ goTb := wt_5 (List.mem_of_getElem? (i := 49) rfl) rfl
theorem wml_RX3_139 : Cond.methodLink RX3 139 yX3_worth ∈ goTb := wt_5 (List.mem_of_getElem? (i := 50) rfl) rfl
theorem wim_X3_worth : Cond.instanceMethod yX3_worth ∈ goTb := wt_5 (List.mem_of_getElem? (i := 52) rfl) rfl
theorem wco_X3_worth : Cond.code yX3_worth cX3_worth 5 (Option.some Jvm.ClassFile.FieldType.int) ∈ goTb := wt_5 (List.mem_of_getElem? (i := 53) rfl) rfl
theorem wml_RX3_145 : Cond.methodLink RX3 145 yX3_eat ∈ goTb := wt_5 (List.mem_of_getElem? (i := 54) rfl) rfl
theorem wim_X3_eat : Cond.instanceMethod yX3_eat ∈ goTb := wt_5 (List.mem_of_getElem? (i := 56) rfl) rfl
theorem wco_X3_eat : Cond.code yX3_eat cX3_eat 6 (Option.none : Option Jvm.ClassFile.FieldType) ∈ goTb := wt_5 (List.mem_of_getElem? (i := 57) rfl) rfl
theorem wmn_RX3_155 : Cond.methodLinkNest RX3 155 yX12_countOf "GoatCourt" ∈ lw_tbl := wl_5 (List.mem_of_getElem? (i := 58) rfl)
theorem wml_RX3_123 : Cond.methodLink RX3 123 yX3_drop ∈ goTb := wt_5 (List.mem_of_getElem? (i := 59) rfl) rfl
theorem wim_X3_drop : Cond.instanceMethod yX3_drop ∈ goTb := wt_5 (List.mem_of_getElem? (i := 61) rfl) rfl
theorem wco_X3_drop : Cond.code yX3_drop cX3_drop 4 (Option.none : Option Jvm.ClassFile.FieldType) ∈ goTb := wt_5 (List.mem_of_getElem? (i := 62) rfl) rfl
theorem wml_RL_76 : Cond.methodLink RL 76 yX12_ate ∈ goTb := wt_5 (List.mem_of_getElem? (i := 63) rfl) rfl
theorem wim_X12_ate : Cond.instanceMethod yX12_ate ∈ goTb := wt_5 (List.mem_of_getElem? (i := 64) rfl) rfl
theorem wse_X12_ate : Cond.selects RX12 yX12_ate yX12_ate ∈ goTb := wt_5 (List.mem_of_getElem? (i := 65) rfl) rfl
theorem wco_X12_ate : Cond.code yX12_ate cX12_ate 4 (Option.some Jvm.ClassFile.FieldType.int) ∈ goTb := wt_5 (List.mem_of_getElem? (i := 66) rfl) rfl
theorem wml_RL_80 : Cond.methodLink RL 80 yX12_drops ∈ goTb := wt_5 (List.mem_of_getElem? (i := 67) rfl) rfl
theorem wim_X12_drops : Cond.instanceMethod yX12_drops ∈ goTb := wt_5 (List.mem_of_getElem? (i := 68) rfl) rfl
theorem wse_X12_drops : Cond.selects RX12 yX12_drops yX12_drops ∈ goTb := wt_5 (List.mem_of_getElem? (i := 69) rfl) rfl
theorem wco_X12_drops : Cond.code yX12_drops cX12_drops 5 (Option.some Jvm.ClassFile.FieldType.int) ∈ goTb := wt_5 (List.mem_of_getElem? (i := 70) rfl) rfl
theorem wml_RL_85 : Cond.methodLink RL 85 yX12_flees ∈ goTb := wt_5 (List.mem_of_getElem? (i := 71) rfl) rfl
theorem wim_X12_flees : Cond.instanceMethod yX12_flees ∈ goTb := wt_5 (List.mem_of_getElem? (i := 72) rfl) rfl
theorem wse_X12_flees : Cond.selects RX12 yX12_flees yX12_flees ∈ goTb := wt_5 (List.mem_of_getElem? (i := 73) rfl) rfl
theorem wco_X12_flees : Cond.code yX12_flees cX12_flees 3 (Option.some Jvm.ClassFile.FieldType.int) ∈ goTb := wt_5 (List.mem_of_getElem? (i := 74) rfl) rfl
theorem wml_RL_89 : Cond.methodLink RL 89 yX12_left ∈ goTb := wt_5 (List.mem_of_getElem? (i := 75) rfl) rfl
theorem wim_X12_left : Cond.instanceMethod yX12_left ∈ goTb := wt_5 (List.mem_of_getElem? (i := 76) rfl) rfl
theorem wse_X12_left : Cond.selects RX12 yX12_left yX12_left ∈ goTb := wt_5 (List.mem_of_getElem? (i := 77) rfl) rfl
theorem wco_X12_left : Cond.code yX12_left cX12_left 4 (Option.some Jvm.ClassFile.FieldType.int) ∈ goTb := wt_5 (List.mem_of_getElem? (i := 78) rfl) rfl
theorem wml_RL_93 : Cond.methodLink RL 93 yX12_met ∈ goTb := wt_5 (List.mem_of_getElem? (i := 79) rfl) rfl
theorem wim_X12_met : Cond.instanceMethod yX12_met ∈ goTb := wt_5 (List.mem_of_getElem? (i := 80) rfl) rfl
theorem wse_X12_met : Cond.selects RX12 yX12_met yX12_met ∈ goTb := wt_5 (List.mem_of_getElem? (i := 81) rfl) rfl
theorem wco_X12_met : Cond.code yX12_met cX12_met 7 (Option.some Jvm.ClassFile.FieldType.int) ∈ goTb := wt_5 (List.mem_of_getElem? (i := 82) rfl) rfl
theorem wml_RX12_221 : Cond.methodLink RX12 221 yX6_placeIn ∈ goTb := wt_5 (List.mem_of_getElem? (i := 83) rfl) rfl
theorem wim_X6_placeIn : Cond.instanceMethod yX6_placeIn ∈ goTb := wt_5 (List.mem_of_getElem? (i := 84) rfl) rfl
theorem wse_X6_placeIn : Cond.selects RX6 yX6_placeIn yX6_placeIn ∈ goTb := wt_5 (List.mem_of_getElem? (i := 85) rfl) rfl
theorem wco_X6_placeIn : Cond.code yX6_placeIn cX6_placeIn 5 (Option.some Jvm.ClassFile.FieldType.int) ∈ goTb := wt_5 (List.mem_of_getElem? (i := 86) rfl) rfl
theorem wml_RX6_93 : Cond.methodLink RX6 93 yX6_storyIn ∈ goTb := wt_5 (List.mem_of_getElem? (i := 87) rfl) rfl
theorem wml_RX6_97 : Cond.methodLink RX6 97 yX6_toldPlace ∈ goTb := wt_5 (List.mem_of_getElem? (i := 88) rfl) rfl
theorem wml_RL_97 : Cond.methodLink RL 97 yX12_isTrue ∈ goTb := wt_5 (List.mem_of_getElem? (i := 89) rfl) rfl
theorem wim_X12_isTrue : Cond.instanceMethod yX12_isTrue ∈ goTb := wt_5 (List.mem_of_getElem? (i := 90) rfl) rfl
theorem wse_X12_isTrue : Cond.selects RX12 yX12_isTrue yX12_isTrue ∈ goTb := wt_5 (List.mem_of_getElem? (i := 91) rfl) rfl
theorem wco_X12_isTrue : Cond.code yX12_isTrue cX12_isTrue 3 (Option.some Jvm.ClassFile.FieldType.int) ∈ goTb := wt_5 (List.mem_of_getElem? (i := 92) rfl) rfl
theorem wml_RX12_224 : Cond.methodLink RX12 224 yX3_shows ∈ goTb := wt_5 (List.mem_of_getElem? (i := 93) rfl) rfl
theorem wim_X3_shows : Cond.instanceMethod yX3_shows ∈ goTb := wt_5 (List.mem_of_getElem? (i := 94) rfl) rfl
theorem wse_X3_shows : Cond.selects RX3 yX3_shows yX3_shows ∈ goTb := wt_5 (List.mem_of_getElem? (i := 95) rfl) rfl
theorem wco_X3_shows : Cond.code yX3_shows cX3_shows 7 (Option.some Jvm.ClassFile.FieldType.boolean) ∈ goTb := wt_5 (List.mem_of_getElem? (i := 96) rfl) rfl
theorem wml_RL_101 : Cond.methodLink RL 101 yX12_fits ∈ goTb := wt_5 (List.mem_of_getElem? (i := 97) rfl) rfl
theorem wim_X12_fits : Cond.instanceMethod yX12_fits ∈ goTb := wt_5 (List.mem_of_getElem? (i := 98) rfl) rfl
theorem wse_X12_fits : Cond.selects RX12 yX12_fits yX12_fits ∈ goTb := wt_5 (List.mem_of_getElem? (i := 99) rfl) rfl
theorem wco_X12_fits : Cond.code yX12_fits cX12_fits 1 (Option.some Jvm.ClassFile.FieldType.int) ∈ goTb := wt_5 (List.mem_of_getElem? (i := 100) rfl) rfl
theorem wml_RX12_227 : Cond.methodLink RX12 227 yX12_isHill ∈ goTb := wt_5 (List.mem_of_getElem? (i := 101) rfl) rfl
theorem wim_X12_isHill : Cond.instanceMethod yX12_isHill ∈ goTb := wt_5 (List.mem_of_getElem? (i := 103) rfl) rfl
theorem wco_X12_isHill : Cond.code yX12_isHill cX12_isHill 1 (Option.some Jvm.ClassFile.FieldType.boolean) ∈ goTb := wt_5 (List.mem_of_getElem? (i := 104) rfl) rfl
theorem wml_RX12_231 : Cond.methodLink RX12 231 yX4_freshened ∈ goTb := wt_5 (List.mem_of_getElem? (i := 105) rfl) rfl
theorem wim_X4_freshened : Cond.instanceMethod yX4_freshened ∈ goTb := wt_5 (List.mem_of_getElem? (i := 106) rfl) rfl
theorem wse_X4_freshened : Cond.selects RX4 yX4_freshened yX4_freshened ∈ goTb := wt_5 (List.mem_of_getElem? (i := 107) rfl) rfl
theorem wco_X4_freshened : Cond.code yX4_freshened cX4_freshened 3 (Option.some (Jvm.ClassFile.FieldType.object "GoatCourt$Evidence")) ∈ goTb := wt_5 (List.mem_of_getElem? (i := 108) rfl) rfl
theorem wml_RX4_71 : Cond.methodLink RX4 71 yX4_dayOf ∈ goTb := wt_5 (List.mem_of_getElem? (i := 109) rfl) rfl
theorem wml_RX4_84 : Cond.methodLink RX4 84 yX3_shows ∈ goTb := wt_5 (List.mem_of_getElem? (i := 110) rfl) rfl
theorem wml_RX12_235 : Cond.methodLink RX12 235 yX4_howManyFit ∈ goTb := wt_5 (List.mem_of_getElem? (i := 111) rfl) rfl
theorem wim_X4_howManyFit : Cond.instanceMethod yX4_howManyFit ∈ goTb := wt_5 (List.mem_of_getElem? (i := 112) rfl) rfl
theorem wse_X4_howManyFit : Cond.selects RX4 yX4_howManyFit yX4_howManyFit ∈ goTb := wt_5 (List.mem_of_getElem? (i := 113) rfl) rfl
theorem wco_X4_howManyFit : Cond.code yX4_howManyFit cX4_howManyFit 4 (Option.some Jvm.ClassFile.FieldType.int) ∈ goTb := wt_5 (List.mem_of_getElem? (i := 114) rfl) rfl
theorem wml_RX4_97 : Cond.methodLink RX4 97 yX4_heardClues ∈ goTb := wt_5 (List.mem_of_getElem? (i := 115) rfl) rfl
theorem wim_X4_heardClues : Cond.instanceMethod yX4_heardClues ∈ goTb := wt_5 (List.mem_of_getElem? (i := 117) rfl) rfl
theorem wco_X4_heardClues : Cond.code yX4_heardClues cX4_heardClues 1 (Option.some Jvm.ClassFile.FieldType.int) ∈ goTb := wt_5 (List.mem_of_getElem? (i := 118) rfl) rfl
theorem wml_RX4_93 : Cond.methodLink RX4 93 yX5_cluesOf ∈ goTb := wt_5 (List.mem_of_getElem? (i := 119) rfl) rfl
theorem wml_RX4_101 : Cond.methodLink RX4 101 yX4_bears ∈ goTb := wt_5 (List.mem_of_getElem? (i := 120) rfl) rfl
theorem wim_X4_bears : Cond.instanceMethod yX4_bears ∈ goTb := wt_5 (List.mem_of_getElem? (i := 122) rfl) rfl
theorem wco_X4_bears : Cond.code yX4_bears cX4_bears 3 (Option.some Jvm.ClassFile.FieldType.boolean) ∈ goTb := wt_5 (List.mem_of_getElem? (i := 123) rfl) rfl
theorem wml_RL_105 : Cond.methodLink RL 105 yX12_fit ∈ goTb := wt_5 (List.mem_of_getElem? (i := 124) rfl) rfl
theorem wim_X12_fit : Cond.instanceMethod yX12_fit ∈ goTb := wt_5 (List.mem_of_getElem? (i := 125) rfl) rfl
theorem wse_X12_fit : Cond.selects RX12 yX12_fit yX12_fit ∈ goTb := wt_5 (List.mem_of_getElem? (i := 126) rfl) rfl
theorem wco_X12_fit : Cond.code yX12_fit cX12_fit 3 (Option.some Jvm.ClassFile.FieldType.int) ∈ goTb := wt_5 (List.mem_of_getElem? (i := 127) rfl) rfl
theorem wml_RX12_239 : Cond.methodLink RX12 239 yX4_fitting ∈ goTb := wt_5 (List.mem_of_getElem? (i := 128) rfl) rfl
theorem wim_X4_fitting : Cond.instanceMethod yX4_fitting ∈ goTb := wt_5 (List.mem_of_getElem? (i := 129) rfl) rfl
theorem wse_X4_fitting : Cond.selects RX4 yX4_fitting yX4_fitting ∈ goTb := wt_5 (List.mem_of_getElem? (i := 130) rfl) rfl
theorem wco_X4_fitting : Cond.code yX4_fitting cX4_fitting 5 (Option.some Jvm.ClassFile.FieldType.int) ∈ goTb := wt_5 (List.mem_of_getElem? (i := 131) rfl) rfl
theorem wml_RL_109 : Cond.methodLink RL 109 yX12_could ∈ goTb := wt_5 (List.mem_of_getElem? (i := 132) rfl) rfl
theorem wim_X12_could : Cond.instanceMethod yX12_could ∈ goTb := wt_5 (List.mem_of_getElem? (i := 133) rfl) rfl
theorem wse_X12_could : Cond.selects RX12 yX12_could yX12_could ∈ goTb := wt_5 (List.mem_of_getElem? (i := 134) rfl) rfl
theorem wco_X12_could : Cond.code yX12_could cX12_could 3 (Option.some Jvm.ClassFile.FieldType.int) ∈ goTb := wt_5 (List.mem_of_getElem? (i := 135) rfl) rfl
theorem wml_RX12_242 : Cond.methodLink RX12 242 yX4_somewhere ∈ goTb := wt_5 (List.mem_of_getElem? (i := 136) rfl) rfl
theorem wim_X4_somewhere : Cond.instanceMethod yX4_somewhere ∈ goTb := wt_5 (List.mem_of_getElem? (i := 137) rfl) rfl
theorem wse_X4_somewhere : Cond.selects RX4 yX4_somewhere yX4_somewhere ∈ goTb := wt_5 (List.mem_of_getElem? (i := 138) rfl) rfl
theorem wco_X4_somewhere : Cond.code yX4_somewhere cX4_somewhere 7 (Option.some Jvm.ClassFile.FieldType.int) ∈ goTb := wt_5 (List.mem_of_getElem? (i := 139) rfl) rfl
theorem wml_RX4_105 : Cond.methodLink RX4 105 yX6_placeIn ∈ goTb := wt_5 (List.mem_of_getElem? (i := 140) rfl) rfl
theorem wml_RL_113 : Cond.methodLink RL 113 yX12_surely ∈ goTb := wt_5 (List.mem_of_getElem? (i := 141) rfl) rfl
theorem wim_X12_surely : Cond.instanceMethod yX12_surely ∈ goTb := wt_5 (List.mem_of_getElem? (i := 142) rfl) rfl
theorem wse_X12_surely : Cond.selects RX12 yX12_surely yX12_surely ∈ goTb := wt_5 (List.mem_of_getElem? (i := 143) rfl) rfl
theorem wco_X12_surely : Cond.code yX12_surely cX12_surely 3 (Option.some Jvm.ClassFile.FieldType.int) ∈ goTb := wt_5 (List.mem_of_getElem? (i := 144) rfl) rfl
theorem wml_RX12_245 : Cond.methodLink RX12 245 yX4_everywhere ∈ goTb := wt_5 (List.mem_of_getElem? (i := 145) rfl) rfl
theorem wim_X4_everywhere : Cond.instanceMethod yX4_everywhere ∈ goTb := wt_5 (List.mem_of_getElem? (i := 146) rfl) rfl
theorem wse_X4_everywhere : Cond.selects RX4 yX4_everywhere yX4_everywhere ∈ goTb := wt_5 (List.mem_of_getElem? (i := 147) rfl) rfl
theorem wco_X4_everywhere : Cond.code yX4_everywhere cX4_everywhere 5 (Option.some Jvm.ClassFile.FieldType.int) ∈ goTb := wt_5 (List.mem_of_getElem? (i := 148) rfl) rfl
theorem wml_RX4_109 : Cond.methodLink RX4 109 yX4_somewhere ∈ goTb := wt_5 (List.mem_of_getElem? (i := 149) rfl) rfl
theorem wml_RL_117 : Cond.methodLink RL 117 yX12_lies ∈ goTb := wt_5 (List.mem_of_getElem? (i := 150) rfl) rfl
theorem wim_X12_lies : Cond.instanceMethod yX12_lies ∈ goTb := wt_5 (List.mem_of_getElem? (i := 151) rfl) rfl
theorem wse_X12_lies : Cond.selects RX12 yX12_lies yX12_lies ∈ goTb := wt_5 (List.mem_of_getElem? (i := 152) rfl) rfl
theorem wco_X12_lies : Cond.code yX12_lies cX12_lies 2 (Option.some Jvm.ClassFile.FieldType.int) ∈ goTb := wt_5 (List.mem_of_getElem? (i := 153) rfl) rfl
theorem wml_RX12_248 : Cond.methodLink RX12 248 yX4_untold ∈ goTb := wt_5 (List.mem_of_getElem? (i := 154) rfl) rfl
theorem wim_X4_untold : Cond.instanceMethod yX4_untold ∈ goTb := wt_5 (List.mem_of_getElem? (i := 155) rfl) rfl
theorem wse_X4_untold : Cond.selects RX4 yX4_untold yX4_untold ∈ goTb := wt_5 (List.mem_of_getElem? (i := 156) rfl) rfl
theorem wco_X4_untold : Cond.code yX4_untold cX4_untold 6 (Option.some Jvm.ClassFile.FieldType.int) ∈ goTb := wt_5 (List.mem_of_getElem? (i := 157) rfl) rfl
theorem wml_RX4_119 : Cond.methodLink RX4 119 yX6_storyIn ∈ goTb := wt_5 (List.mem_of_getElem? (i := 158) rfl) rfl
theorem wml_RL_121 : Cond.methodLink RL 121 yX12_falseOnes ∈ goTb := wt_5 (List.mem_of_getElem? (i := 159) rfl) rfl
theorem wim_X12_falseOnes : Cond.instanceMethod yX12_falseOnes ∈ goTb := wt_5 (List.mem_of_getElem? (i := 160) rfl) rfl
theorem wse_X12_falseOnes : Cond.selects RX12 yX12_falseOnes yX12_falseOnes ∈ goTb := wt_5 (List.mem_of_getElem? (i := 161) rfl) rfl
theorem wco_X12_falseOnes : Cond.code yX12_falseOnes cX12_falseOnes 1 (Option.some Jvm.ClassFile.FieldType.int) ∈ goTb := wt_5 (List.mem_of_getElem? (i := 162) rfl) rfl
theorem wml_RX12_251 : Cond.methodLink RX12 251 yX4_fewestFalse ∈ goTb := wt_5 (List.mem_of_getElem? (i := 163) rfl) rfl
theorem wim_X4_fewestFalse : Cond.instanceMethod yX4_fewestFalse ∈ goTb := wt_5 (List.mem_of_getElem? (i := 164) rfl) rfl
theorem wse_X4_fewestFalse : Cond.selects RX4 yX4_fewestFalse yX4_fewestFalse ∈ goTb := wt_5 (List.mem_of_getElem? (i := 165) rfl) rfl
theorem wco_X4_fewestFalse : Cond.code yX4_fewestFalse cX4_fewestFalse 5 (Option.some Jvm.ClassFile.FieldType.int) ∈ goTb := wt_5 (List.mem_of_getElem? (i := 166) rfl) rfl
theorem wml_RX4_125 : Cond.methodLink RX4 125 yJ6_bitCount_0f7a4 ∈ goTb := wt_5 (List.mem_of_getElem? (i := 167) rfl) rfl
theorem wml_RX4_130 : Cond.methodLink RX4 130 yX4_anyBears ∈ goTb := wt_5 (List.mem_of_getElem? (i := 168) rfl) rfl
theorem wim_X4_anyBears : Cond.instanceMethod yX4_anyBears ∈ goTb := wt_5 (List.mem_of_getElem? (i := 170) rfl) rfl
theorem wco_X4_anyBears : Cond.code yX4_anyBears cX4_anyBears 3 (Option.some Jvm.ClassFile.FieldType.boolean) ∈ goTb := wt_5 (List.mem_of_getElem? (i := 171) rfl) rfl
theorem wml_RL_125 : Cond.methodLink RL 125 yX12_odds ∈ goTb := wt_5 (List.mem_of_getElem? (i := 172) rfl) rfl
theorem wim_X12_odds : Cond.instanceMethod yX12_odds ∈ goTb := wt_5 (List.mem_of_getElem? (i := 173) rfl) rfl
theorem wse_X12_odds : Cond.selects RX12 yX12_odds yX12_odds ∈ goTb := wt_5 (List.mem_of_getElem? (i := 174) rfl) rfl
theorem wco_X12_odds : Cond.code yX12_odds cX12_odds 2 (Option.some Jvm.ClassFile.FieldType.int) ∈ goTb := wt_5 (List.mem_of_getElem? (i := 175) rfl) rfl
theorem wml_RX12_254 : Cond.methodLink RX12 254 yX4_oddsOf ∈ goTb := wt_5 (List.mem_of_getElem? (i := 176) rfl) rfl
theorem wim_X4_oddsOf : Cond.instanceMethod yX4_oddsOf ∈ goTb := wt_5 (List.mem_of_getElem? (i := 177) rfl) rfl
theorem wse_X4_oddsOf : Cond.selects RX4 yX4_oddsOf yX4_oddsOf ∈ goTb := wt_5 (List.mem_of_getElem? (i := 178) rfl) rfl
theorem wco_X4_oddsOf : Cond.code yX4_oddsOf cX4_oddsOf 5 (Option.some Jvm.ClassFile.FieldType.int) ∈ goTb := wt_5 (List.mem_of_getElem? (i := 179) rfl) rfl
theorem wml_RL_129 : Cond.methodLink RL 129 yX12_likeliest ∈ goTb := wt_5 (List.mem_of_getElem? (i := 180) rfl) rfl
theorem wim_X12_likeliest : Cond.instanceMethod yX12_likeliest ∈ goTb := wt_5 (List.mem_of_getElem? (i := 181) rfl) rfl
theorem wse_X12_likeliest : Cond.selects RX12 yX12_likeliest yX12_likeliest ∈ goTb := wt_5 (List.mem_of_getElem? (i := 182) rfl) rfl
theorem wco_X12_likeliest : Cond.code yX12_likeliest cX12_likeliest 1 (Option.some Jvm.ClassFile.FieldType.int) ∈ goTb := wt_5 (List.mem_of_getElem? (i := 183) rfl) rfl
theorem wml_RX12_257 : Cond.methodLink RX12 257 yX4_greatestOdds ∈ goTb := wt_5 (List.mem_of_getElem? (i := 184) rfl) rfl
theorem wim_X4_greatestOdds : Cond.instanceMethod yX4_greatestOdds ∈ goTb := wt_5 (List.mem_of_getElem? (i := 185) rfl) rfl
theorem wse_X4_greatestOdds : Cond.selects RX4 yX4_greatestOdds yX4_greatestOdds ∈ goTb := wt_5 (List.mem_of_getElem? (i := 186) rfl) rfl
theorem wco_X4_greatestOdds : Cond.code yX4_greatestOdds cX4_greatestOdds 5 (Option.some Jvm.ClassFile.FieldType.int) ∈ goTb := wt_5 (List.mem_of_getElem? (i := 187) rfl) rfl
theorem wml_RX4_136 : Cond.methodLink RX4 136 yX4_oddsOf ∈ goTb := wt_5 (List.mem_of_getElem? (i := 188) rfl) rfl
theorem wml_RL_133 : Cond.methodLink RL 133 yX12_proved ∈ goTb := wt_5 (List.mem_of_getElem? (i := 189) rfl) rfl
theorem wim_X12_proved : Cond.instanceMethod yX12_proved ∈ goTb := wt_5 (List.mem_of_getElem? (i := 190) rfl) rfl
theorem wse_X12_proved : Cond.selects RX12 yX12_proved yX12_proved ∈ goTb := wt_5 (List.mem_of_getElem? (i := 191) rfl) rfl
theorem wco_X12_proved : Cond.code yX12_proved cX12_proved 4 (Option.some Jvm.ClassFile.FieldType.int) ∈ goTb := wt_5 (List.mem_of_getElem? (i := 192) rfl) rfl
theorem wml_RX12_260 : Cond.methodLink RX12 260 yX4_fewestProving ∈ goTb := wt_5 (List.mem_of_getElem? (i := 193) rfl) rfl
theorem wim_X4_fewestProving : Cond.instanceMethod yX4_fewestProving ∈ goTb := wt_5 (List.mem_of_getElem? (i := 194) rfl) rfl
theorem wse_X4_fewestProving : Cond.selects RX4 yX4_fewestProving yX4_fewestProving ∈ goTb := wt_5 (List.mem_of_getElem? (i := 195) rfl) rfl
theorem wco_X4_fewestProving : Cond.code yX4_fewestProving cX4_fewestProving 7 (Option.some Jvm.ClassFile.FieldType.int) ∈ goTb := wt_5 (List.mem_of_getElem? (i := 196) rfl) rfl
theorem wml_RX4_139 : Cond.methodLink RX4 139 yX4_prove ∈ goTb := wt_5 (List.mem_of_getElem? (i := 197) rfl) rfl
theorem wim_X4_prove : Cond.instanceMethod yX4_prove ∈ goTb := wt_5 (List.mem_of_getElem? (i := 199) rfl) rfl
theorem wco_X4_prove : Cond.code yX4_prove cX4_prove 8 (Option.some Jvm.ClassFile.FieldType.boolean) ∈ goTb := wt_5 (List.mem_of_getElem? (i := 200) rfl) rfl
theorem wml_RL_137 : Cond.methodLink RL 137 yX12_ask ∈ goTb := wt_5 (List.mem_of_getElem? (i := 201) rfl) rfl
theorem wim_X12_ask : Cond.instanceMethod yX12_ask ∈ goTb := wt_5 (List.mem_of_getElem? (i := 202) rfl) rfl
theorem wse_X12_ask : Cond.selects RX12 yX12_ask yX12_ask ∈ goTb := wt_5 (List.mem_of_getElem? (i := 203) rfl) rfl
theorem wco_X12_ask : Cond.code yX12_ask cX12_ask 1 (Option.some Jvm.ClassFile.FieldType.int) ∈ goTb := wt_5 (List.mem_of_getElem? (i := 204) rfl) rfl
theorem wml_RX12_263 : Cond.methodLink RX12 263 yX4_question ∈ goTb := wt_5 (List.mem_of_getElem? (i := 205) rfl) rfl
theorem wim_X4_question : Cond.instanceMethod yX4_question ∈ goTb := wt_5 (List.mem_of_getElem? (i := 206) rfl) rfl
theorem wse_X4_question : Cond.selects RX4 yX4_question yX4_question ∈ goTb := wt_5 (List.mem_of_getElem? (i := 207) rfl) rfl
theorem wco_X4_question : Cond.code yX4_question cX4_question 4 (Option.some Jvm.ClassFile.FieldType.boolean) ∈ goTb := wt_5 (List.mem_of_getElem? (i := 208) rfl) rfl
theorem wml_RX4_143 : Cond.methodLink RX4 143 yX4_howManyFit ∈ goTb := wt_5 (List.mem_of_getElem? (i := 209) rfl) rfl
theorem wml_RX4_149 : Cond.methodLink RX4 149 yX4_mostLeft ∈ goTb := wt_5 (List.mem_of_getElem? (i := 210) rfl) rfl
theorem wim_X4_mostLeft : Cond.instanceMethod yX4_mostLeft ∈ goTb := wt_5 (List.mem_of_getElem? (i := 212) rfl) rfl
theorem wco_X4_mostLeft : Cond.code yX4_mostLeft cX4_mostLeft 7 (Option.some Jvm.ClassFile.FieldType.int) ∈ goTb := wt_5 (List.mem_of_getElem? (i := 213) rfl) rfl
theorem wml_RX4_158 : Cond.methodLink RX4 158 yJ7_fill_53178 ∈ goTb := wt_5 (List.mem_of_getElem? (i := 214) rfl) rfl
theorem wml_RX4_164 : Cond.methodLink RX4 164 yJ9_max_7cf53 ∈ goTb := wt_5 (List.mem_of_getElem? (i := 215) rfl) rfl
theorem wst_J9_max_7cf53 : Cond.static yJ9_max_7cf53 ∈ goTb := wt_5 (List.mem_of_getElem? (i := 216) rfl) rfl
theorem wco_J9_max_7cf53 : Cond.code yJ9_max_7cf53 cJ9_max_7cf53 2 (Option.some Jvm.ClassFile.FieldType.int) ∈ goTb := wt_5 (List.mem_of_getElem? (i := 217) rfl) rfl
theorem wml_RL_141 : Cond.methodLink RL 141 yX12_askMost ∈ goTb := wt_5 (List.mem_of_getElem? (i := 218) rfl) rfl
theorem wim_X12_askMost : Cond.instanceMethod yX12_askMost ∈ goTb := wt_5 (List.mem_of_getElem? (i := 219) rfl) rfl
theorem wse_X12_askMost : Cond.selects RX12 yX12_askMost yX12_askMost ∈ goTb := wt_5 (List.mem_of_getElem? (i := 220) rfl) rfl
theorem wco_X12_askMost : Cond.code yX12_askMost cX12_askMost 1 (Option.some Jvm.ClassFile.FieldType.int) ∈ goTb := wt_5 (List.mem_of_getElem? (i := 221) rfl) rfl
theorem wml_RL_145 : Cond.methodLink RL 145 yX12_led ∈ goTb := wt_5 (List.mem_of_getElem? (i := 222) rfl) rfl
theorem wim_X12_led : Cond.instanceMethod yX12_led ∈ goTb := wt_5 (List.mem_of_getElem? (i := 223) rfl) rfl
theorem wse_X12_led : Cond.selects RX12 yX12_led yX12_led ∈ goTb := wt_5 (List.mem_of_getElem? (i := 224) rfl) rfl
theorem wco_X12_led : Cond.code yX12_led cX12_led 6 (Option.some Jvm.ClassFile.FieldType.int) ∈ goTb := wt_5 (List.mem_of_getElem? (i := 225) rfl) rfl
theorem wml_RX12_275 : Cond.methodLink RX12 275 yX12_whyNoQuest ∈ goTb := wt_5 (List.mem_of_getElem? (i := 226) rfl) rfl
theorem wim_X12_whyNoQuest : Cond.instanceMethod yX12_whyNoQuest ∈ goTb := wt_5 (List.mem_of_getElem? (i := 228) rfl) rfl
theorem wco_X12_whyNoQuest : Cond.code yX12_whyNoQuest cX12_whyNoQuest 5 (Option.some Jvm.ClassFile.FieldType.int) ∈ goTb := wt_5 (List.mem_of_getElem? (i := 229) rfl) rfl
theorem wml_RX12_279 : Cond.methodLink RX12 279 yX8_fewest ∈ goTb := wt_5 (List.mem_of_getElem? (i := 230) rfl) rfl
theorem wim_X8_fewest : Cond.instanceMethod yX8_fewest ∈ goTb := wt_5 (List.mem_of_getElem? (i := 231) rfl) rfl
theorem wse_X8_fewest : Cond.selects RX8 yX8_fewest yX8_fewest ∈ goTb := wt_5 (List.mem_of_getElem? (i := 232) rfl) rfl
theorem wco_X8_fewest : Cond.code yX8_fewest cX8_fewest 7 (Option.some Jvm.ClassFile.FieldType.int) ∈ goTb := wt_5 (List.mem_of_getElem? (i := 233) rfl) rfl
theorem wml_RX8_48 : Cond.methodLink RX8 48 yX3_prepare ∈ goTb := wt_5 (List.mem_of_getElem? (i := 234) rfl) rfl
theorem wml_RX8_52 : Cond.methodLink RX8 52 yX8_save ∈ goTb := wt_5 (List.mem_of_getElem? (i := 235) rfl) rfl
theorem wim_X8_save : Cond.instanceMethod yX8_save ∈ goTb := wt_5 (List.mem_of_getElem? (i := 237) rfl) rfl
theorem wco_X8_save : Cond.code yX8_save cX8_save 3 (Option.none : Option Jvm.ClassFile.FieldType) ∈ goTb := wt_5 (List.mem_of_getElem? (i := 238) rfl) rfl
theorem wml_RX8_95 : Cond.methodLink RX8 95 arraycopyName ∈ goTb := wt_5 (List.mem_of_getElem? (i := 239) rfl) rfl
theorem wml_RX8_56 : Cond.methodLink RX8 56 yX8_playSaving ∈ goTb := wt_6 (List.mem_of_getElem? (i := 0) rfl) rfl
theorem wim_X8_playSaving : Cond.instanceMethod yX8_playSaving ∈ goTb := wt_6 (List.mem_of_getElem? (i := 2) rfl) rfl
theorem wco_X8_playSaving : Cond.code yX8_playSaving cX8_playSaving 5 (Option.none : Option Jvm.ClassFile.FieldType) ∈ goTb := wt_6 (List.mem_of_getElem? (i := 3) rfl) rfl
theorem wml_RX8_101 : Cond.methodLink RX8 101 yX3_play ∈ goTb := wt_6 (List.mem_of_getElem? (i := 4) rfl) rfl
theorem wml_RX8_60 : Cond.methodLink RX8 60 yX8_isThere ∈ goTb := wt_6 (List.mem_of_getElem? (i := 5) rfl) rfl
theorem wim_X8_isThere : Cond.instanceMethod yX8_isThere ∈ goTb := wt_6 (List.mem_of_getElem? (i := 7) rfl) rfl
theorem wco_X8_isThere : Cond.code yX8_isThere cX8_isThere 1 (Option.some Jvm.ClassFile.FieldType.boolean) ∈ goTb := wt_6 (List.mem_of_getElem? (i := 8) rfl) rfl
theorem wml_RX8_64 : Cond.methodLink RX8 64 yX8_findOne ∈ goTb := wt_6 (List.mem_of_getElem? (i := 9) rfl) rfl
theorem wim_X8_findOne : Cond.instanceMethod yX8_findOne ∈ goTb := wt_6 (List.mem_of_getElem? (i := 11) rfl) rfl
theorem wco_X8_findOne : Cond.code yX8_findOne cX8_findOne 2 (Option.some Jvm.ClassFile.FieldType.boolean) ∈ goTb := wt_6 (List.mem_of_getElem? (i := 12) rfl) rfl
theorem wml_RX8_78 : Cond.methodLink RX8 78 yX8_isFree ∈ goTb := wt_6 (List.mem_of_getElem? (i := 13) rfl) rfl
theorem wim_X8_isFree : Cond.instanceMethod yX8_isFree ∈ goTb := wt_6 (List.mem_of_getElem? (i := 15) rfl) rfl
theorem wco_X8_isFree : Cond.code yX8_isFree cX8_isFree 2 (Option.some Jvm.ClassFile.FieldType.boolean) ∈ goTb := wt_6 (List.mem_of_getElem? (i := 16) rfl) rfl
theorem wmn_RX8_91 : Cond.methodLinkNest RX8 91 yX12_bit "GoatCourt" ∈ lw_tbl := wl_6 (List.mem_of_getElem? (i := 17) rfl)
theorem wml_RX8_105 : Cond.methodLink RX8 105 yX8_changes ∈ goTb := wt_6 (List.mem_of_getElem? (i := 18) rfl) rfl
theorem wim_X8_changes : Cond.instanceMethod yX8_changes ∈ goTb := wt_6 (List.mem_of_getElem? (i := 20) rfl) rfl
theorem wco_X8_changes : Cond.code yX8_changes cX8_changes 5 (Option.some Jvm.ClassFile.FieldType.boolean) ∈ goTb := wt_6 (List.mem_of_getElem? (i := 21) rfl) rfl
theorem wml_RX8_109 : Cond.methodLink RX8 109 yX8_turn ∈ goTb := wt_6 (List.mem_of_getElem? (i := 22) rfl) rfl
theorem wim_X8_turn : Cond.instanceMethod yX8_turn ∈ goTb := wt_6 (List.mem_of_getElem? (i := 24) rfl) rfl
theorem wco_X8_turn : Cond.code yX8_turn cX8_turn 2 (Option.none : Option Jvm.ClassFile.FieldType) ∈ goTb := wt_6 (List.mem_of_getElem? (i := 25) rfl) rfl
theorem wml_RX8_112 : Cond.methodLink RX8 112 yX8_load ∈ goTb := wt_6 (List.mem_of_getElem? (i := 26) rfl) rfl
theorem wim_X8_load : Cond.instanceMethod yX8_load ∈ goTb := wt_6 (List.mem_of_getElem? (i := 28) rfl) rfl
theorem wco_X8_load : Cond.code yX8_load cX8_load 3 (Option.none : Option Jvm.ClassFile.FieldType) ∈ goTb := wt_6 (List.mem_of_getElem? (i := 29) rfl) rfl
theorem wml_RX8_115 : Cond.methodLink RX8 115 yX8_isAs ∈ goTb := wt_6 (List.mem_of_getElem? (i := 30) rfl) rfl
theorem wim_X8_isAs : Cond.instanceMethod yX8_isAs ∈ goTb := wt_6 (List.mem_of_getElem? (i := 32) rfl) rfl
theorem wco_X8_isAs : Cond.code yX8_isAs cX8_isAs 4 (Option.some Jvm.ClassFile.FieldType.boolean) ∈ goTb := wt_6 (List.mem_of_getElem? (i := 33) rfl) rfl
theorem wml_RX8_82 : Cond.methodLink RX8 82 yX8_findLater ∈ goTb := wt_6 (List.mem_of_getElem? (i := 34) rfl) rfl
theorem wim_X8_findLater : Cond.instanceMethod yX8_findLater ∈ goTb := wt_6 (List.mem_of_getElem? (i := 36) rfl) rfl
theorem wco_X8_findLater : Cond.code yX8_findLater cX8_findLater 7 (Option.none : Option Jvm.ClassFile.FieldType) ∈ goTb := wt_6 (List.mem_of_getElem? (i := 37) rfl) rfl
theorem wml_RX8_119 : Cond.methodLink RX8 119 yX8_isSooner ∈ goTb := wt_6 (List.mem_of_getElem? (i := 38) rfl) rfl
theorem wim_X8_isSooner : Cond.instanceMethod yX8_isSooner ∈ goTb := wt_6 (List.mem_of_getElem? (i := 40) rfl) rfl
theorem wco_X8_isSooner : Cond.code yX8_isSooner cX8_isSooner 4 (Option.some Jvm.ClassFile.FieldType.boolean) ∈ goTb := wt_6 (List.mem_of_getElem? (i := 41) rfl) rfl
theorem wml_RX8_123 : Cond.methodLink RX8 123 yJ9_min_7cf53 ∈ goTb := wt_6 (List.mem_of_getElem? (i := 42) rfl) rfl
theorem wml_RX8_128 : Cond.methodLink RX8 128 yJ9_max_7cf53 ∈ goTb := wt_6 (List.mem_of_getElem? (i := 43) rfl) rfl
theorem wml_RL_149 : Cond.methodLink RL 149 yX12_ledAt ∈ goTb := wt_6 (List.mem_of_getElem? (i := 44) rfl) rfl
theorem wim_X12_ledAt : Cond.instanceMethod yX12_ledAt ∈ goTb := wt_6 (List.mem_of_getElem? (i := 45) rfl) rfl
theorem wse_X12_ledAt : Cond.selects RX12 yX12_ledAt yX12_ledAt ∈ goTb := wt_6 (List.mem_of_getElem? (i := 46) rfl) rfl
theorem wco_X12_ledAt : Cond.code yX12_ledAt cX12_ledAt 8 (Option.some Jvm.ClassFile.FieldType.int) ∈ goTb := wt_6 (List.mem_of_getElem? (i := 47) rfl) rfl
theorem wml_RX12_289 : Cond.methodLink RX12 289 yX12_spotCode ∈ goTb := wt_6 (List.mem_of_getElem? (i := 48) rfl) rfl
theorem wst_X12_spotCode : Cond.static yX12_spotCode ∈ goTb := wt_6 (List.mem_of_getElem? (i := 49) rfl) rfl
theorem wco_X12_spotCode : Cond.code yX12_spotCode cX12_spotCode 1 (Option.some Jvm.ClassFile.FieldType.int) ∈ goTb := wt_6 (List.mem_of_getElem? (i := 50) rfl) rfl
theorem wml_RL_153 : Cond.methodLink RL 153 yX12_scared ∈ goTb := wt_6 (List.mem_of_getElem? (i := 51) rfl) rfl
theorem wim_X12_scared : Cond.instanceMethod yX12_scared ∈ goTb := wt_6 (List.mem_of_getElem? (i := 52) rfl) rfl
theorem wse_X12_scared : Cond.selects RX12 yX12_scared yX12_scared ∈ goTb := wt_6 (List.mem_of_getElem? (i := 53) rfl) rfl
theorem wco_X12_scared : Cond.code yX12_scared cX12_scared 6 (Option.some Jvm.ClassFile.FieldType.int) ∈ goTb := wt_6 (List.mem_of_getElem? (i := 54) rfl) rfl
theorem wml_RL_157 : Cond.methodLink RL 157 yX12_follows ∈ goTb := wt_6 (List.mem_of_getElem? (i := 55) rfl) rfl
theorem wim_X12_follows : Cond.instanceMethod yX12_follows ∈ goTb := wt_6 (List.mem_of_getElem? (i := 56) rfl) rfl
theorem wse_X12_follows : Cond.selects RX12 yX12_follows yX12_follows ∈ goTb := wt_6 (List.mem_of_getElem? (i := 57) rfl) rfl
theorem wco_X12_follows : Cond.code yX12_follows cX12_follows 2 (Option.some Jvm.ClassFile.FieldType.int) ∈ goTb := wt_6 (List.mem_of_getElem? (i := 58) rfl) rfl
theorem wml_RX12_292 : Cond.methodLink RX12 292 yX12_isFact ∈ goTb := wt_6 (List.mem_of_getElem? (i := 59) rfl) rfl
theorem wim_X12_isFact : Cond.instanceMethod yX12_isFact ∈ goTb := wt_6 (List.mem_of_getElem? (i := 61) rfl) rfl
theorem wco_X12_isFact : Cond.code yX12_isFact cX12_isFact 2 (Option.some Jvm.ClassFile.FieldType.boolean) ∈ goTb := wt_6 (List.mem_of_getElem? (i := 62) rfl) rfl
theorem wml_RX12_304 : Cond.methodLink RX12 304 yX7_known ∈ goTb := wt_6 (List.mem_of_getElem? (i := 63) rfl) rfl
theorem wim_X7_known : Cond.instanceMethod yX7_known ∈ goTb := wt_6 (List.mem_of_getElem? (i := 64) rfl) rfl
theorem wse_X7_known : Cond.selects RX7 yX7_known yX7_known ∈ goTb := wt_6 (List.mem_of_getElem? (i := 65) rfl) rfl
theorem wco_X7_known : Cond.code yX7_known cX7_known 6 (Option.some Jvm.ClassFile.FieldType.int) ∈ goTb := wt_6 (List.mem_of_getElem? (i := 66) rfl) rfl
theorem wml_RL_161 : Cond.methodLink RL 161 yX12_step ∈ goTb := wt_6 (List.mem_of_getElem? (i := 67) rfl) rfl
theorem wim_X12_step : Cond.instanceMethod yX12_step ∈ goTb := wt_6 (List.mem_of_getElem? (i := 68) rfl) rfl
theorem wse_X12_step : Cond.selects RX12 yX12_step yX12_step ∈ goTb := wt_6 (List.mem_of_getElem? (i := 69) rfl) rfl
theorem wco_X12_step : Cond.code yX12_step cX12_step 1 (Option.some Jvm.ClassFile.FieldType.int) ∈ goTb := wt_6 (List.mem_of_getElem? (i := 70) rfl) rfl
theorem wml_RX12_310 : Cond.methodLink RX12 310 yX7_firstWrongStep ∈ goTb := wt_6 (List.mem_of_getElem? (i := 71) rfl) rfl
theorem wim_X7_firstWrongStep : Cond.instanceMethod yX7_firstWrongStep ∈ goTb := wt_6 (List.mem_of_getElem? (i := 72) rfl) rfl
theorem wse_X7_firstWrongStep : Cond.selects RX7 yX7_firstWrongStep yX7_firstWrongStep ∈ goTb := wt_6 (List.mem_of_getElem? (i := 73) rfl) rfl
theorem wco_X7_firstWrongStep : Cond.code yX7_firstWrongStep cX7_firstWrongStep 3 (Option.some Jvm.ClassFile.FieldType.int) ∈ goTb := wt_6 (List.mem_of_getElem? (i := 74) rfl) rfl
theorem wml_RX7_40 : Cond.methodLink RX7 40 yX7_isRight ∈ goTb := wt_6 (List.mem_of_getElem? (i := 75) rfl) rfl
theorem wim_X7_isRight : Cond.instanceMethod yX7_isRight ∈ goTb := wt_6 (List.mem_of_getElem? (i := 77) rfl) rfl
theorem wco_X7_isRight : Cond.code yX7_isRight cX7_isRight 4 (Option.some Jvm.ClassFile.FieldType.boolean) ∈ goTb := wt_6 (List.mem_of_getElem? (i := 78) rfl) rfl
theorem wmn_RX7_44 : Cond.methodLinkNest RX7 44 yX12_bit "GoatCourt" ∈ lw_tbl := wl_6 (List.mem_of_getElem? (i := 79) rfl)
theorem wml_RL_165 : Cond.methodLink RL 165 yX12_needs ∈ goTb := wt_6 (List.mem_of_getElem? (i := 80) rfl) rfl
theorem wim_X12_needs : Cond.instanceMethod yX12_needs ∈ goTb := wt_6 (List.mem_of_getElem? (i := 81) rfl) rfl
theorem wse_X12_needs : Cond.selects RX12 yX12_needs yX12_needs ∈ goTb := wt_6 (List.mem_of_getElem? (i := 82) rfl) rfl
theorem wco_X12_needs : Cond.code yX12_needs cX12_needs 2 (Option.some Jvm.ClassFile.FieldType.int) ∈ goTb := wt_6 (List.mem_of_getElem? (i := 83) rfl) rfl
theorem wml_RX12_313 : Cond.methodLink RX12 313 yX7_neededRules ∈ goTb := wt_6 (List.mem_of_getElem? (i := 84) rfl) rfl
theorem wim_X7_neededRules : Cond.instanceMethod yX7_neededRules ∈ goTb := wt_6 (List.mem_of_getElem? (i := 85) rfl) rfl
theorem wse_X7_neededRules : Cond.selects RX7 yX7_neededRules yX7_neededRules ∈ goTb := wt_6 (List.mem_of_getElem? (i := 86) rfl) rfl
theorem wco_X7_neededRules : Cond.code yX7_neededRules cX7_neededRules 4 (Option.some Jvm.ClassFile.FieldType.int) ∈ goTb := wt_6 (List.mem_of_getElem? (i := 87) rfl) rfl
theorem wml_RX7_48 : Cond.methodLink RX7 48 yX7_known ∈ goTb := wt_6 (List.mem_of_getElem? (i := 88) rfl) rfl
theorem wml_RL_169 : Cond.methodLink RL 169 yX12_enough ∈ goTb := wt_6 (List.mem_of_getElem? (i := 89) rfl) rfl
theorem wim_X12_enough : Cond.instanceMethod yX12_enough ∈ goTb := wt_6 (List.mem_of_getElem? (i := 90) rfl) rfl
theorem wse_X12_enough : Cond.selects RX12 yX12_enough yX12_enough ∈ goTb := wt_6 (List.mem_of_getElem? (i := 91) rfl) rfl
theorem wco_X12_enough : Cond.code yX12_enough cX12_enough 2 (Option.some Jvm.ClassFile.FieldType.int) ∈ goTb := wt_6 (List.mem_of_getElem? (i := 92) rfl) rfl
theorem wml_RX12_316 : Cond.methodLink RX12 316 yX7_fewestFacts ∈ goTb := wt_6 (List.mem_of_getElem? (i := 93) rfl) rfl
theorem wim_X7_fewestFacts : Cond.instanceMethod yX7_fewestFacts ∈ goTb := wt_6 (List.mem_of_getElem? (i := 94) rfl) rfl
theorem wse_X7_fewestFacts : Cond.selects RX7 yX7_fewestFacts yX7_fewestFacts ∈ goTb := wt_6 (List.mem_of_getElem? (i := 95) rfl) rfl
theorem wco_X7_fewestFacts : Cond.code yX7_fewestFacts cX7_fewestFacts 6 (Option.some Jvm.ClassFile.FieldType.int) ∈ goTb := wt_6 (List.mem_of_getElem? (i := 96) rfl) rfl
theorem wml_RX7_51 : Cond.methodLink RX7 51 yJ6_bitCount_0f7a4 ∈ goTb := wt_6 (List.mem_of_getElem? (i := 97) rfl) rfl
theorem wml_RL_173 : Cond.methodLink RL 173 yX12_cheese ∈ goTb := wt_6 (List.mem_of_getElem? (i := 98) rfl) rfl
theorem wim_X12_cheese : Cond.instanceMethod yX12_cheese ∈ goTb := wt_6 (List.mem_of_getElem? (i := 99) rfl) rfl
theorem wse_X12_cheese : Cond.selects RX12 yX12_cheese yX12_cheese ∈ goTb := wt_6 (List.mem_of_getElem? (i := 100) rfl) rfl
theorem wco_X12_cheese : Cond.code yX12_cheese cX12_cheese 2 (Option.some Jvm.ClassFile.FieldType.int) ∈ goTb := wt_6 (List.mem_of_getElem? (i := 101) rfl) rfl
theorem wml_RX12_323 : Cond.methodLink RX12 323 yX3_countMilkers ∈ goTb := wt_6 (List.mem_of_getElem? (i := 102) rfl) rfl
theorem wim_X3_countMilkers : Cond.instanceMethod yX3_countMilkers ∈ goTb := wt_6 (List.mem_of_getElem? (i := 103) rfl) rfl
theorem wse_X3_countMilkers : Cond.selects RX3 yX3_countMilkers yX3_countMilkers ∈ goTb := wt_6 (List.mem_of_getElem? (i := 104) rfl) rfl
theorem wco_X3_countMilkers : Cond.code yX3_countMilkers cX3_countMilkers 3 (Option.some Jvm.ClassFile.FieldType.int) ∈ goTb := wt_6 (List.mem_of_getElem? (i := 105) rfl) rfl
theorem wml_RX3_170 : Cond.methodLink RX3 170 yX3_giveCheese ∈ goTb := wt_6 (List.mem_of_getElem? (i := 106) rfl) rfl
theorem wim_X3_giveCheese : Cond.instanceMethod yX3_giveCheese ∈ goTb := wt_6 (List.mem_of_getElem? (i := 108) rfl) rfl
theorem wco_X3_giveCheese : Cond.code yX3_giveCheese cX3_giveCheese 5 (Option.some Jvm.ClassFile.FieldType.boolean) ∈ goTb := wt_6 (List.mem_of_getElem? (i := 109) rfl) rfl
theorem wml_RL_177 : Cond.methodLink RL 177 yX12_cheeseOf ∈ goTb := wt_6 (List.mem_of_getElem? (i := 110) rfl) rfl
theorem wim_X12_cheeseOf : Cond.instanceMethod yX12_cheeseOf ∈ goTb := wt_6 (List.mem_of_getElem? (i := 111) rfl) rfl
theorem wse_X12_cheeseOf : Cond.selects RX12 yX12_cheeseOf yX12_cheeseOf ∈ goTb := wt_6 (List.mem_of_getElem? (i := 112) rfl) rfl
theorem wco_X12_cheeseOf : Cond.code yX12_cheeseOf cX12_cheeseOf 2 (Option.some Jvm.ClassFile.FieldType.int) ∈ goTb := wt_6 (List.mem_of_getElem? (i := 113) rfl) rfl
theorem wml_RX12_326 : Cond.methodLink RX12 326 yX3_leastMilkers ∈ goTb := wt_6 (List.mem_of_getElem? (i := 114) rfl) rfl
theorem wim_X3_leastMilkers : Cond.instanceMethod yX3_leastMilkers ∈ goTb := wt_6 (List.mem_of_getElem? (i := 115) rfl) rfl
theorem wse_X3_leastMilkers : Cond.selects RX3 yX3_leastMilkers yX3_leastMilkers ∈ goTb := wt_6 (List.mem_of_getElem? (i := 116) rfl) rfl
theorem wco_X3_leastMilkers : Cond.code yX3_leastMilkers cX3_leastMilkers 2 (Option.some Jvm.ClassFile.FieldType.int) ∈ goTb := wt_6 (List.mem_of_getElem? (i := 117) rfl) rfl
theorem wml_RL_181 : Cond.methodLink RL 181 yX12_appeals ∈ goTb := wt_6 (List.mem_of_getElem? (i := 118) rfl) rfl
theorem wim_X12_appeals : Cond.instanceMethod yX12_appeals ∈ goTb := wt_6 (List.mem_of_getElem? (i := 119) rfl) rfl
theorem wse_X12_appeals : Cond.selects RX12 yX12_appeals yX12_appeals ∈ goTb := wt_6 (List.mem_of_getElem? (i := 120) rfl) rfl
theorem wco_X12_appeals : Cond.code yX12_appeals cX12_appeals 1 (Option.some Jvm.ClassFile.FieldType.long) ∈ goTb := wt_6 (List.mem_of_getElem? (i := 121) rfl) rfl
theorem wml_RX12_333 : Cond.methodLink RX12 333 yX2_leastCosts ∈ goTb := wt_6 (List.mem_of_getElem? (i := 122) rfl) rfl
theorem wim_X2_leastCosts : Cond.instanceMethod yX2_leastCosts ∈ goTb := wt_6 (List.mem_of_getElem? (i := 123) rfl) rfl
theorem wse_X2_leastCosts : Cond.selects RX2 yX2_leastCosts yX2_leastCosts ∈ goTb := wt_6 (List.mem_of_getElem? (i := 124) rfl) rfl
theorem wco_X2_leastCosts : Cond.code yX2_leastCosts cX2_leastCosts 1 (Option.some Jvm.ClassFile.FieldType.long) ∈ goTb := wt_6 (List.mem_of_getElem? (i := 125) rfl) rfl
theorem wml_RX2_25 : Cond.methodLink RX2 25 yX2_weigh ∈ goTb := wt_6 (List.mem_of_getElem? (i := 126) rfl) rfl
theorem wim_X2_weigh : Cond.instanceMethod yX2_weigh ∈ goTb := wt_6 (List.mem_of_getElem? (i := 128) rfl) rfl
theorem wco_X2_weigh : Cond.code yX2_weigh cX2_weigh 7 (Option.none : Option Jvm.ClassFile.FieldType) ∈ goTb := wt_6 (List.mem_of_getElem? (i := 129) rfl) rfl
theorem wml_RX2_32 : Cond.methodLink RX2 32 yJ6_bitCount_0f7a4 ∈ goTb := wt_6 (List.mem_of_getElem? (i := 130) rfl) rfl
theorem wcJ_RX2_38 : Cond.constantLong RX2 38 (10 : Int64) ∈ goTb := wt_6 (List.mem_of_getElem? (i := 131) rfl) rfl
theorem wcJ_RX2_40 : Cond.constantLong RX2 40 (-1 : Int64) ∈ goTb := wt_6 (List.mem_of_getElem? (i := 132) rfl) rfl
theorem wmn_RX2_42 : Cond.methodLinkNest RX2 42 yX12_bit "GoatCourt" ∈ lw_tbl := wl_6 (List.mem_of_getElem? (i := 133) rfl)
theorem wml_RL_186 : Cond.methodLink RL 186 yX12_appealAt ∈ goTb := wt_6 (List.mem_of_getElem? (i := 134) rfl) rfl
theorem wim_X12_appealAt : Cond.instanceMethod yX12_appealAt ∈ goTb := wt_6 (List.mem_of_getElem? (i := 135) rfl) rfl
theorem wse_X12_appealAt : Cond.selects RX12 yX12_appealAt yX12_appealAt ∈ goTb := wt_6 (List.mem_of_getElem? (i := 136) rfl) rfl
theorem wco_X12_appealAt : Cond.code yX12_appealAt cX12_appealAt 2 (Option.some Jvm.ClassFile.FieldType.int) ∈ goTb := wt_6 (List.mem_of_getElem? (i := 137) rfl) rfl
theorem wml_RX12_340 : Cond.methodLink RX12 340 yX2_inBestOrder ∈ goTb := wt_6 (List.mem_of_getElem? (i := 138) rfl) rfl
theorem wim_X2_inBestOrder : Cond.instanceMethod yX2_inBestOrder ∈ goTb := wt_6 (List.mem_of_getElem? (i := 139) rfl) rfl
theorem wse_X2_inBestOrder : Cond.selects RX2 yX2_inBestOrder yX2_inBestOrder ∈ goTb := wt_6 (List.mem_of_getElem? (i := 140) rfl) rfl
theorem wco_X2_inBestOrder : Cond.code yX2_inBestOrder cX2_inBestOrder 4 (Option.some Jvm.ClassFile.FieldType.int) ∈ goTb := wt_6 (List.mem_of_getElem? (i := 141) rfl) rfl
theorem wml_RL_190 : Cond.methodLink RL 190 yX12_salt ∈ goTb := wt_6 (List.mem_of_getElem? (i := 142) rfl) rfl
theorem wim_X12_salt : Cond.instanceMethod yX12_salt ∈ goTb := wt_6 (List.mem_of_getElem? (i := 143) rfl) rfl
theorem wse_X12_salt : Cond.selects RX12 yX12_salt yX12_salt ∈ goTb := wt_6 (List.mem_of_getElem? (i := 144) rfl) rfl
theorem wco_X12_salt : Cond.code yX12_salt cX12_salt 4 (Option.some Jvm.ClassFile.FieldType.boolean) ∈ goTb := wt_6 (List.mem_of_getElem? (i := 145) rfl) rfl
theorem wml_RX12_343 : Cond.methodLink RX12 343 yX12_putOrTake ∈ goTb := wt_6 (List.mem_of_getElem? (i := 146) rfl) rfl
theorem wim_X12_putOrTake : Cond.instanceMethod yX12_putOrTake ∈ goTb := wt_6 (List.mem_of_getElem? (i := 148) rfl) rfl
theorem wco_X12_putOrTake : Cond.code yX12_putOrTake cX12_putOrTake 5 (Option.some Jvm.ClassFile.FieldType.int) ∈ goTb := wt_6 (List.mem_of_getElem? (i := 149) rfl) rfl
theorem wml_RX12_394 : Cond.methodLink RX12 394 yX1_countPut ∈ goTb := wt_6 (List.mem_of_getElem? (i := 150) rfl) rfl
theorem wim_X1_countPut : Cond.instanceMethod yX1_countPut ∈ goTb := wt_6 (List.mem_of_getElem? (i := 151) rfl) rfl
theorem wse_X1_countPut : Cond.selects RX1 yX1_countPut yX1_countPut ∈ goTb := wt_6 (List.mem_of_getElem? (i := 152) rfl) rfl
theorem wco_X1_countPut : Cond.code yX1_countPut cX1_countPut 4 (Option.some Jvm.ClassFile.FieldType.int) ∈ goTb := wt_6 (List.mem_of_getElem? (i := 153) rfl) rfl
theorem wml_RX1_55 : Cond.methodLink RX1 55 yJ6_bitCount_0f7a4 ∈ goTb := wt_6 (List.mem_of_getElem? (i := 154) rfl) rfl
theorem wml_RX12_353 : Cond.methodLink RX12 353 yX1_change ∈ goTb := wt_6 (List.mem_of_getElem? (i := 155) rfl) rfl
theorem wim_X1_change : Cond.instanceMethod yX1_change ∈ goTb := wt_6 (List.mem_of_getElem? (i := 156) rfl) rfl
theorem wse_X1_change : Cond.selects RX1 yX1_change yX1_change ∈ goTb := wt_6 (List.mem_of_getElem? (i := 157) rfl) rfl
theorem wco_X1_change : Cond.code yX1_change cX1_change 4 (Option.some Jvm.ClassFile.FieldType.int) ∈ goTb := wt_6 (List.mem_of_getElem? (i := 158) rfl) rfl
theorem wmn_RX1_37 : Cond.methodLinkNest RX1 37 yX12_bit "GoatCourt" ∈ lw_tbl := wl_6 (List.mem_of_getElem? (i := 159) rfl)
theorem wml_RX1_41 : Cond.methodLink RX1 41 arraycopyName ∈ goTb := wt_6 (List.mem_of_getElem? (i := 160) rfl) rfl
theorem wml_RX1_47 : Cond.methodLink RX1 47 yX1_turn ∈ goTb := wt_6 (List.mem_of_getElem? (i := 161) rfl) rfl
theorem wim_X1_turn : Cond.instanceMethod yX1_turn ∈ goTb := wt_6 (List.mem_of_getElem? (i := 163) rfl) rfl
theorem wco_X1_turn : Cond.code yX1_turn cX1_turn 3 (Option.none : Option Jvm.ClassFile.FieldType) ∈ goTb := wt_6 (List.mem_of_getElem? (i := 164) rfl) rfl
theorem wml_RX12_347 : Cond.methodLink RX12 347 yX12_done ∈ goTb := wt_6 (List.mem_of_getElem? (i := 165) rfl) rfl
theorem wim_X12_done : Cond.instanceMethod yX12_done ∈ goTb := wt_6 (List.mem_of_getElem? (i := 167) rfl) rfl
theorem wco_X12_done : Cond.code yX12_done cX12_done 2 (Option.some Jvm.ClassFile.FieldType.boolean) ∈ goTb := wt_6 (List.mem_of_getElem? (i := 168) rfl) rfl
theorem wml_RL_195 : Cond.methodLink RL 195 yX12_dog ∈ goTb := wt_6 (List.mem_of_getElem? (i := 169) rfl) rfl
theorem wim_X12_dog : Cond.instanceMethod yX12_dog ∈ goTb := wt_6 (List.mem_of_getElem? (i := 170) rfl) rfl
theorem wse_X12_dog : Cond.selects RX12 yX12_dog yX12_dog ∈ goTb := wt_6 (List.mem_of_getElem? (i := 171) rfl) rfl
theorem wco_X12_dog : Cond.code yX12_dog cX12_dog 4 (Option.some Jvm.ClassFile.FieldType.boolean) ∈ goTb := wt_6 (List.mem_of_getElem? (i := 172) rfl) rfl
theorem wml_RL_199 : Cond.methodLink RL 199 yX12_hedge ∈ goTb := wt_6 (List.mem_of_getElem? (i := 173) rfl) rfl
theorem wim_X12_hedge : Cond.instanceMethod yX12_hedge ∈ goTb := wt_6 (List.mem_of_getElem? (i := 174) rfl) rfl
theorem wse_X12_hedge : Cond.selects RX12 yX12_hedge yX12_hedge ∈ goTb := wt_6 (List.mem_of_getElem? (i := 175) rfl) rfl
theorem wco_X12_hedge : Cond.code yX12_hedge cX12_hedge 3 (Option.some Jvm.ClassFile.FieldType.boolean) ∈ goTb := wt_6 (List.mem_of_getElem? (i := 176) rfl) rfl
theorem wml_RL_204 : Cond.methodLink RL 204 yX12_hear ∈ goTb := wt_6 (List.mem_of_getElem? (i := 177) rfl) rfl
theorem wim_X12_hear : Cond.instanceMethod yX12_hear ∈ goTb := wt_6 (List.mem_of_getElem? (i := 178) rfl) rfl
theorem wse_X12_hear : Cond.selects RX12 yX12_hear yX12_hear ∈ goTb := wt_6 (List.mem_of_getElem? (i := 179) rfl) rfl
theorem wco_X12_hear : Cond.code yX12_hear cX12_hear 3 (Option.some Jvm.ClassFile.FieldType.boolean) ∈ goTb := wt_6 (List.mem_of_getElem? (i := 180) rfl) rfl
theorem wml_RL_208 : Cond.methodLink RL 208 yX12_undo ∈ goTb := wt_6 (List.mem_of_getElem? (i := 181) rfl) rfl
theorem wim_X12_undo : Cond.instanceMethod yX12_undo ∈ goTb := wt_6 (List.mem_of_getElem? (i := 182) rfl) rfl
theorem wse_X12_undo : Cond.selects RX12 yX12_undo yX12_undo ∈ goTb := wt_6 (List.mem_of_getElem? (i := 183) rfl) rfl
theorem wco_X12_undo : Cond.code yX12_undo cX12_undo 1 (Option.some Jvm.ClassFile.FieldType.boolean) ∈ goTb := wt_6 (List.mem_of_getElem? (i := 184) rfl) rfl
theorem wml_RX12_357 : Cond.methodLink RX12 357 yX1_takeBack ∈ goTb := wt_6 (List.mem_of_getElem? (i := 185) rfl) rfl
theorem wim_X1_takeBack : Cond.instanceMethod yX1_takeBack ∈ goTb := wt_6 (List.mem_of_getElem? (i := 186) rfl) rfl
theorem wse_X1_takeBack : Cond.selects RX1 yX1_takeBack yX1_takeBack ∈ goTb := wt_6 (List.mem_of_getElem? (i := 187) rfl) rfl
theorem wco_X1_takeBack : Cond.code yX1_takeBack cX1_takeBack 1 (Option.some Jvm.ClassFile.FieldType.boolean) ∈ goTb := wt_6 (List.mem_of_getElem? (i := 188) rfl) rfl
theorem wml_RL_213 : Cond.methodLink RL 213 yX12_mark ∈ goTb := wt_6 (List.mem_of_getElem? (i := 189) rfl) rfl
theorem wim_X12_mark : Cond.instanceMethod yX12_mark ∈ goTb := wt_6 (List.mem_of_getElem? (i := 190) rfl) rfl
theorem wse_X12_mark : Cond.selects RX12 yX12_mark yX12_mark ∈ goTb := wt_6 (List.mem_of_getElem? (i := 191) rfl) rfl
theorem wco_X12_mark : Cond.code yX12_mark cX12_mark 2 (Option.some Jvm.ClassFile.FieldType.int) ∈ goTb := wt_6 (List.mem_of_getElem? (i := 192) rfl) rfl
theorem wml_RX12_360 : Cond.methodLink RX12 360 yX1_keep ∈ goTb := wt_6 (List.mem_of_getElem? (i := 193) rfl) rfl
theorem wim_X1_keep : Cond.instanceMethod yX1_keep ∈ goTb := wt_6 (List.mem_of_getElem? (i := 194) rfl) rfl
theorem wse_X1_keep : Cond.selects RX1 yX1_keep yX1_keep ∈ goTb := wt_6 (List.mem_of_getElem? (i := 195) rfl) rfl
theorem wco_X1_keep : Cond.code yX1_keep cX1_keep 1 (Option.some Jvm.ClassFile.FieldType.int) ∈ goTb := wt_6 (List.mem_of_getElem? (i := 196) rfl) rfl
theorem wml_RL_217 : Cond.methodLink RL 217 yX12_back ∈ goTb := wt_6 (List.mem_of_getElem? (i := 197) rfl) rfl
theorem wim_X12_back : Cond.instanceMethod yX12_back ∈ goTb := wt_6 (List.mem_of_getElem? (i := 198) rfl) rfl
theorem wse_X12_back : Cond.selects RX12 yX12_back yX12_back ∈ goTb := wt_6 (List.mem_of_getElem? (i := 199) rfl) rfl
theorem wco_X12_back : Cond.code yX12_back cX12_back 2 (Option.some Jvm.ClassFile.FieldType.boolean) ∈ goTb := wt_6 (List.mem_of_getElem? (i := 200) rfl) rfl
theorem wml_RX12_363 : Cond.methodLink RX12 363 yX1_restore ∈ goTb := wt_6 (List.mem_of_getElem? (i := 201) rfl) rfl
theorem wim_X1_restore : Cond.instanceMethod yX1_restore ∈ goTb := wt_6 (List.mem_of_getElem? (i := 202) rfl) rfl
theorem wse_X1_restore : Cond.selects RX1 yX1_restore yX1_restore ∈ goTb := wt_6 (List.mem_of_getElem? (i := 203) rfl) rfl
theorem wco_X1_restore : Cond.code yX1_restore cX1_restore 2 (Option.some Jvm.ClassFile.FieldType.boolean) ∈ goTb := wt_6 (List.mem_of_getElem? (i := 204) rfl) rfl
theorem wmn_RX1_51 : Cond.methodLinkNest RX1 51 yX12_within "GoatCourt" ∈ lw_tbl := wl_6 (List.mem_of_getElem? (i := 205) rfl)
theorem wml_RL_231 : Cond.methodLink RL 231 yX12_size ∈ goTb := wt_6 (List.mem_of_getElem? (i := 206) rfl) rfl
theorem wim_X12_size : Cond.instanceMethod yX12_size ∈ goTb := wt_6 (List.mem_of_getElem? (i := 207) rfl) rfl
theorem wse_X12_size : Cond.selects RX12 yX12_size yX12_size ∈ goTb := wt_6 (List.mem_of_getElem? (i := 208) rfl) rfl
theorem wco_X12_size : Cond.code yX12_size cX12_size 2 (Option.some Jvm.ClassFile.FieldType.int) ∈ goTb := wt_6 (List.mem_of_getElem? (i := 209) rfl) rfl
theorem wml_RL_235 : Cond.methodLink RL 235 yX12_trouble ∈ goTb := wt_6 (List.mem_of_getElem? (i := 210) rfl) rfl
theorem wim_X12_trouble : Cond.instanceMethod yX12_trouble ∈ goTb := wt_6 (List.mem_of_getElem? (i := 211) rfl) rfl
theorem wse_X12_trouble : Cond.selects RX12 yX12_trouble yX12_trouble ∈ goTb := wt_6 (List.mem_of_getElem? (i := 212) rfl) rfl
theorem wco_X12_trouble : Cond.code yX12_trouble cX12_trouble 1 (Option.some Jvm.ClassFile.FieldType.int) ∈ goTb := wt_6 (List.mem_of_getElem? (i := 213) rfl) rfl
theorem wml_RL_222 : Cond.methodLink RL 222 yL_put ∈ goTb := wt_6 (List.mem_of_getElem? (i := 214) rfl) rfl
theorem wst_L_put : Cond.static yL_put ∈ goTb := wt_6 (List.mem_of_getElem? (i := 215) rfl) rfl
theorem wml_RL_7 : Cond.methodLink RL 7 yX12_put ∈ goTb := wt_6 (List.mem_of_getElem? (i := 218) rfl) rfl
theorem wim_X12_put : Cond.instanceMethod yX12_put ∈ goTb := wt_6 (List.mem_of_getElem? (i := 219) rfl) rfl
theorem wse_X12_put : Cond.selects RX12 yX12_put yX12_put ∈ goTb := wt_6 (List.mem_of_getElem? (i := 220) rfl) rfl
theorem wco_X12_put : Cond.code yX12_put cX12_put 4 (Option.some Jvm.ClassFile.FieldType.int) ∈ goTb := wt_6 (List.mem_of_getElem? (i := 221) rfl) rfl
theorem wml_RX12_366 : Cond.methodLink RX12 366 yX1_spot ∈ goTb := wt_6 (List.mem_of_getElem? (i := 222) rfl) rfl
theorem wim_X1_spot : Cond.instanceMethod yX1_spot ∈ goTb := wt_6 (List.mem_of_getElem? (i := 223) rfl) rfl
theorem wse_X1_spot : Cond.selects RX1 yX1_spot yX1_spot ∈ goTb := wt_6 (List.mem_of_getElem? (i := 224) rfl) rfl
theorem wco_X1_spot : Cond.code yX1_spot cX1_spot 5 (Option.some Jvm.ClassFile.FieldType.int) ∈ goTb := wt_6 (List.mem_of_getElem? (i := 225) rfl) rfl
theorem wcl_RL_16 : Cond.classLink RL 16 RX14 ∈ goTb := wt_7 (List.mem_of_getElem? (i := 47) rfl) rfl
theorem wia_RX14 : Cond.instantiable RX14 39 ∈ goTb := wt_7 (List.mem_of_getElem? (i := 48) rfl) rfl
theorem wml_RL_18 : Cond.methodLink RL 18 yX14_init ∈ goTb := wt_7 (List.mem_of_getElem? (i := 49) rfl) rfl
theorem wim_X14_init : Cond.instanceMethod yX14_init ∈ goTb := wt_7 (List.mem_of_getElem? (i := 50) rfl) rfl
theorem wco_X14_init : Cond.code yX14_init cX14_init 1 (Option.none : Option Jvm.ClassFile.FieldType) ∈ goTb := wt_7 (List.mem_of_getElem? (i := 51) rfl) rfl
theorem wml_RX14_3 : Cond.methodLink RX14 3 objectInit ∈ goTb := wt_7 (List.mem_of_getElem? (i := 52) rfl) rfl
theorem wfl_RX14_66 : Cond.fieldLink RX14 66 "GoatCourtModel" "thrown" "I" ∈ goTb := wt_7 (List.mem_of_getElem? (i := 53) rfl) rfl
theorem wfl_RX14_69 : Cond.fieldLink RX14 69 "GoatCourtModel" "trouble" "I" ∈ goTb := wt_7 (List.mem_of_getElem? (i := 54) rfl) rfl
theorem wfl_RX14_9 : Cond.fieldLink RX14 9 "GoatCourtModel" "where" "I" ∈ goTb := wt_7 (List.mem_of_getElem? (i := 55) rfl) rfl
theorem wfl_RX14_442 : Cond.fieldLink RX14 442 "GoatCourtModel" "hill" "LGoatCourtModel$Hill;" ∈ goTb := wt_7 (List.mem_of_getElem? (i := 56) rfl) rfl
theorem wfl_RX14_192 : Cond.fieldLink RX14 192 "GoatCourtModel" "read" "LGoatCourtModel$Hill;" ∈ goTb := wt_7 (List.mem_of_getElem? (i := 57) rfl) rfl
theorem wfl_RX14_13 : Cond.fieldLink RX14 13 "GoatCourtModel" "tape" "[B" ∈ goTb := wt_7 (List.mem_of_getElem? (i := 58) rfl) rfl
theorem wfl_RX14_435 : Cond.fieldLink RX14 435 "GoatCourtModel" "taped" "I" ∈ goTb := wt_7 (List.mem_of_getElem? (i := 59) rfl) rfl
theorem wfl_RX14_79 : Cond.fieldLink RX14 79 "GoatCourtModel" "size" "I" ∈ goTb := wt_7 (List.mem_of_getElem? (i := 60) rfl) rfl
theorem wfl_RX14_97 : Cond.fieldLink RX14 97 "GoatCourtModel" "spot" "I" ∈ goTb := wt_7 (List.mem_of_getElem? (i := 61) rfl) rfl
theorem wfl_RX14_94 : Cond.fieldLink RX14 94 "GoatCourtModel" "sort" "I" ∈ goTb := wt_7 (List.mem_of_getElem? (i := 62) rfl) rfl
theorem wfl_RX14_103 : Cond.fieldLink RX14 103 "GoatCourtModel" "place" "I" ∈ goTb := wt_7 (List.mem_of_getElem? (i := 63) rfl) rfl
theorem wfl_RX14_106 : Cond.fieldLink RX14 106 "GoatCourtModel" "sign" "I" ∈ goTb := wt_7 (List.mem_of_getElem? (i := 64) rfl) rfl
theorem wfl_RX14_123 : Cond.fieldLink RX14 123 "GoatCourtModel" "number" "I" ∈ goTb := wt_7 (List.mem_of_getElem? (i := 65) rfl) rfl
theorem wfl_RX14_117 : Cond.fieldLink RX14 117 "GoatCourtModel" "letters" "I" ∈ goTb := wt_7 (List.mem_of_getElem? (i := 66) rfl) rfl
theorem wfl_RX14_126 : Cond.fieldLink RX14 126 "GoatCourtModel" "fault" "I" ∈ goTb := wt_7 (List.mem_of_getElem? (i := 67) rfl) rfl
theorem wfl_RX14_129 : Cond.fieldLink RX14 129 "GoatCourtModel" "wrongAt" "I" ∈ goTb := wt_7 (List.mem_of_getElem? (i := 68) rfl) rfl
theorem wfl_RX14_17 : Cond.fieldLink RX14 17 "GoatCourtModel" "spelt" "[I" ∈ goTb := wt_7 (List.mem_of_getElem? (i := 69) rfl) rfl
theorem wfl_RX14_113 : Cond.fieldLink RX14 113 "GoatCourtModel" "word" "J" ∈ goTb := wt_7 (List.mem_of_getElem? (i := 70) rfl) rfl
theorem wfl_RX14_21 : Cond.fieldLink RX14 21 "GoatCourtModel" "v" "[I" ∈ goTb := wt_7 (List.mem_of_getElem? (i := 71) rfl) rfl
theorem wfl_RX14_24 : Cond.fieldLink RX14 24 "GoatCourtModel" "past" "[I" ∈ goTb := wt_7 (List.mem_of_getElem? (i := 72) rfl) rfl
theorem wfl_RX14_27 : Cond.fieldLink RX14 27 "GoatCourtModel" "kept" "[I" ∈ goTb := wt_7 (List.mem_of_getElem? (i := 73) rfl) rfl
theorem wfl_RX14_444 : Cond.fieldLink RX14 444 "GoatCourtModel" "acts" "I" ∈ goTb := wt_7 (List.mem_of_getElem? (i := 74) rfl) rfl
theorem wfl_RX14_447 : Cond.fieldLink RX14 447 "GoatCourtModel" "marks" "I" ∈ goTb := wt_7 (List.mem_of_getElem? (i := 75) rfl) rfl
theorem wfl_RX14_30 : Cond.fieldLink RX14 30 "GoatCourtModel" "is" "[I" ∈ goTb := wt_7 (List.mem_of_getElem? (i := 76) rfl) rfl
theorem wfl_RX14_33 : Cond.fieldLink RX14 33 "GoatCourtModel" "eaten" "[I" ∈ goTb := wt_7 (List.mem_of_getElem? (i := 77) rfl) rfl
theorem wfl_RX14_36 : Cond.fieldLink RX14 36 "GoatCourtModel" "eatenMany" "[I" ∈ goTb := wt_7 (List.mem_of_getElem? (i := 78) rfl) rfl
theorem wfl_RX14_39 : Cond.fieldLink RX14 39 "GoatCourtModel" "leftOver" "[I" ∈ goTb := wt_7 (List.mem_of_getElem? (i := 79) rfl) rfl
theorem wfl_RX14_42 : Cond.fieldLink RX14 42 "GoatCourtModel" "fled" "[I" ∈ goTb := wt_7 (List.mem_of_getElem? (i := 80) rfl) rfl
theorem wfl_RX14_45 : Cond.fieldLink RX14 45 "GoatCourtModel" "now" "[I" ∈ goTb := wt_7 (List.mem_of_getElem? (i := 81) rfl) rfl
theorem wfl_RX14_48 : Cond.fieldLink RX14 48 "GoatCourtModel" "honest" "[I" ∈ goTb := wt_7 (List.mem_of_getElem? (i := 82) rfl) rfl
theorem wfl_RX14_547 : Cond.fieldLink RX14 547 "GoatCourtModel" "asked" "I" ∈ goTb := wt_7 (List.mem_of_getElem? (i := 83) rfl) rfl
theorem wfl_RX14_544 : Cond.fieldLink RX14 544 "GoatCourtModel" "askedMost" "I" ∈ goTb := wt_7 (List.mem_of_getElem? (i := 84) rfl) rfl
theorem wfl_RX14_51 : Cond.fieldLink RX14 51 "GoatCourtModel" "fitting" "[I" ∈ goTb := wt_7 (List.mem_of_getElem? (i := 85) rfl) rfl
theorem wfl_RX14_54 : Cond.fieldLink RX14 54 "GoatCourtModel" "whereIs" "[I" ∈ goTb := wt_7 (List.mem_of_getElem? (i := 86) rfl) rfl
theorem wfl_RX14_57 : Cond.fieldLink RX14 57 "GoatCourtModel" "count" "[I" ∈ goTb := wt_7 (List.mem_of_getElem? (i := 87) rfl) rfl
theorem wfl_RX14_562 : Cond.fieldLink RX14 562 "GoatCourtModel" "spotOne" "I" ∈ goTb := wt_7 (List.mem_of_getElem? (i := 88) rfl) rfl
theorem wfl_RX14_565 : Cond.fieldLink RX14 565 "GoatCourtModel" "spotTwo" "I" ∈ goTb := wt_7 (List.mem_of_getElem? (i := 89) rfl) rfl
theorem wfl_RX14_60 : Cond.fieldLink RX14 60 "GoatCourtModel" "order" "[I" ∈ goTb := wt_7 (List.mem_of_getElem? (i := 90) rfl) rfl
theorem wfl_RX14_63 : Cond.fieldLink RX14 63 "GoatCourtModel" "bestOrder" "[I" ∈ goTb := wt_7 (List.mem_of_getElem? (i := 91) rfl) rfl
theorem wml_RL_228 : Cond.methodLink RL 228 yX14_thrown ∈ goTb := wt_7 (List.mem_of_getElem? (i := 171) rfl) rfl
theorem wim_X14_thrown : Cond.instanceMethod yX14_thrown ∈ goTb := wt_7 (List.mem_of_getElem? (i := 172) rfl) rfl
theorem wse_X14_thrown : Cond.selects RX14 yX14_thrown yX14_thrown ∈ goTb := wt_7 (List.mem_of_getElem? (i := 173) rfl) rfl
theorem wco_X14_thrown : Cond.code yX14_thrown cX14_thrown 1 (Option.some Jvm.ClassFile.FieldType.int) ∈ goTb := wt_7 (List.mem_of_getElem? (i := 174) rfl) rfl
theorem wml_RL_23 : Cond.methodLink RL 23 yX14_feed ∈ goTb := wt_7 (List.mem_of_getElem? (i := 175) rfl) rfl
theorem wim_X14_feed : Cond.instanceMethod yX14_feed ∈ goTb := wt_7 (List.mem_of_getElem? (i := 176) rfl) rfl
theorem wse_X14_feed : Cond.selects RX14 yX14_feed yX14_feed ∈ goTb := wt_7 (List.mem_of_getElem? (i := 177) rfl) rfl
theorem wco_X14_feed : Cond.code yX14_feed cX14_feed 8 (Option.some Jvm.ClassFile.FieldType.int) ∈ goTb := wt_7 (List.mem_of_getElem? (i := 178) rfl) rfl
theorem wml_RL_28 : Cond.methodLink RL 28 yX14_hill ∈ goTb := wt_7 (List.mem_of_getElem? (i := 179) rfl) rfl
theorem wim_X14_hill : Cond.instanceMethod yX14_hill ∈ goTb := wt_7 (List.mem_of_getElem? (i := 180) rfl) rfl
theorem wse_X14_hill : Cond.selects RX14 yX14_hill yX14_hill ∈ goTb := wt_7 (List.mem_of_getElem? (i := 181) rfl) rfl
theorem wco_X14_hill : Cond.code yX14_hill cX14_hill 3 (Option.some Jvm.ClassFile.FieldType.int) ∈ goTb := wt_7 (List.mem_of_getElem? (i := 182) rfl) rfl
theorem wml_RX14_72 : Cond.methodLink RX14 72 yX14_refused ∈ goTb := wt_7 (List.mem_of_getElem? (i := 183) rfl) rfl
theorem wim_X14_refused : Cond.instanceMethod yX14_refused ∈ goTb := wt_7 (List.mem_of_getElem? (i := 185) rfl) rfl
theorem wco_X14_refused : Cond.code yX14_refused cX14_refused 2 (Option.some Jvm.ClassFile.FieldType.int) ∈ goTb := wt_7 (List.mem_of_getElem? (i := 186) rfl) rfl
theorem wcl_RX14_197 : Cond.classLink RX14 197 RX13 ∈ goTb := wt_7 (List.mem_of_getElem? (i := 187) rfl) rfl
theorem wia_RX13 : Cond.instantiable RX13 41 ∈ goTb := wt_7 (List.mem_of_getElem? (i := 188) rfl) rfl
theorem wmn_RX14_438 : Cond.methodLinkNest RX14 438 yX13_init "GoatCourtModel" ∈ lw_tbl := wl_7 (List.mem_of_getElem? (i := 189) rfl)
theorem wim_X13_init : Cond.instanceMethod yX13_init ∈ goTb := wt_7 (List.mem_of_getElem? (i := 190) rfl) rfl
theorem wco_X13_init : Cond.code yX13_init cX13_init 1 (Option.none : Option Jvm.ClassFile.FieldType) ∈ goTb := wt_7 (List.mem_of_getElem? (i := 191) rfl) rfl
theorem wml_RX13_3 : Cond.methodLink RX13 3 objectInit ∈ goTb := wt_7 (List.mem_of_getElem? (i := 192) rfl) rfl
theorem wfn_RX14_196 : Cond.fieldLinkNest RX14 196 "GoatCourtModel$Hill" "hours" "I" "GoatCourtModel" ∈ lw_tbl := wl_7 (List.mem_of_getElem? (i := 193) rfl)
theorem wfn_RX14_229 : Cond.fieldLinkNest RX14 229 "GoatCourtModel$Hill" "plants" "I" "GoatCourtModel" ∈ lw_tbl := wl_7 (List.mem_of_getElem? (i := 194) rfl)
theorem wfn_RX14_241 : Cond.fieldLinkNest RX14 241 "GoatCourtModel$Hill" "places" "I" "GoatCourtModel" ∈ lw_tbl := wl_7 (List.mem_of_getElem? (i := 195) rfl)
theorem wfl_RX13_92 : Cond.fieldLink RX13 92 "GoatCourtModel$Hill" "paths" "I" ∈ goTb := wt_7 (List.mem_of_getElem? (i := 196) rfl) rfl
theorem wfn_RX14_306 : Cond.fieldLinkNest RX14 306 "GoatCourtModel$Hill" "paths" "I" "GoatCourtModel" ∈ lw_tbl := wl_7 (List.mem_of_getElem? (i := 197) rfl)
theorem wfl_RX13_95 : Cond.fieldLink RX13 95 "GoatCourtModel$Hill" "people" "I" ∈ goTb := wt_7 (List.mem_of_getElem? (i := 198) rfl) rfl
theorem wfn_RX14_320 : Cond.fieldLinkNest RX14 320 "GoatCourtModel$Hill" "people" "I" "GoatCourtModel" ∈ lw_tbl := wl_7 (List.mem_of_getElem? (i := 199) rfl)
theorem wfn_RX14_328 : Cond.fieldLinkNest RX14 328 "GoatCourtModel$Hill" "goats" "I" "GoatCourtModel" ∈ lw_tbl := wl_7 (List.mem_of_getElem? (i := 200) rfl)
theorem wfn_RX14_361 : Cond.fieldLinkNest RX14 361 "GoatCourtModel$Hill" "fears" "I" "GoatCourtModel" ∈ lw_tbl := wl_7 (List.mem_of_getElem? (i := 201) rfl)
theorem wfn_RX14_370 : Cond.fieldLinkNest RX14 370 "GoatCourtModel$Hill" "clues" "I" "GoatCourtModel" ∈ lw_tbl := wl_7 (List.mem_of_getElem? (i := 202) rfl)
theorem wfn_RX14_388 : Cond.fieldLinkNest RX14 388 "GoatCourtModel$Hill" "facts" "I" "GoatCourtModel" ∈ lw_tbl := wl_7 (List.mem_of_getElem? (i := 203) rfl)
theorem wfn_RX14_393 : Cond.fieldLinkNest RX14 393 "GoatCourtModel$Hill" "rules" "I" "GoatCourtModel" ∈ lw_tbl := wl_7 (List.mem_of_getElem? (i := 204) rfl)
theorem wfn_RX14_413 : Cond.fieldLinkNest RX14 413 "GoatCourtModel$Hill" "steps" "I" "GoatCourtModel" ∈ lw_tbl := wl_7 (List.mem_of_getElem? (i := 205) rfl)
theorem wfn_RX14_419 : Cond.fieldLinkNest RX14 419 "GoatCourtModel$Hill" "courts" "I" "GoatCourtModel" ∈ lw_tbl := wl_7 (List.mem_of_getElem? (i := 206) rfl)
theorem wfl_RX13_88 : Cond.fieldLink RX13 88 "GoatCourtModel$Hill" "names" "I" ∈ goTb := wt_7 (List.mem_of_getElem? (i := 207) rfl) rfl
theorem wfn_RX14_217 : Cond.fieldLinkNest RX14 217 "GoatCourtModel$Hill" "names" "I" "GoatCourtModel" ∈ lw_tbl := wl_7 (List.mem_of_getElem? (i := 208) rfl)
theorem wfn_RX14_391 : Cond.fieldLinkNest RX14 391 "GoatCourtModel$Hill" "holds" "I" "GoatCourtModel" ∈ lw_tbl := wl_7 (List.mem_of_getElem? (i := 209) rfl)
theorem wfn_RX14_405 : Cond.fieldLinkNest RX14 405 "GoatCourtModel$Hill" "hasProof" "Z" "GoatCourtModel" ∈ lw_tbl := wl_7 (List.mem_of_getElem? (i := 210) rfl)
theorem wfn_RX14_430 : Cond.fieldLinkNest RX14 430 "GoatCourtModel$Hill" "hasCheese" "Z" "GoatCourtModel" ∈ lw_tbl := wl_7 (List.mem_of_getElem? (i := 211) rfl)
theorem wfl_RX13_9 : Cond.fieldLink RX13 9 "GoatCourtModel$Hill" "amount" "[I" ∈ goTb := wt_7 (List.mem_of_getElem? (i := 212) rfl) rfl
theorem wfn_RX14_296 : Cond.fieldLinkNest RX14 296 "GoatCourtModel$Hill" "amount" "[I" "GoatCourtModel" ∈ lw_tbl := wl_7 (List.mem_of_getElem? (i := 213) rfl)
theorem wfl_RX13_15 : Cond.fieldLink RX13 15 "GoatCourtModel$Hill" "pathOne" "[I" ∈ goTb := wt_7 (List.mem_of_getElem? (i := 214) rfl) rfl
theorem wfn_RX14_314 : Cond.fieldLinkNest RX14 314 "GoatCourtModel$Hill" "pathOne" "[I" "GoatCourtModel" ∈ lw_tbl := wl_7 (List.mem_of_getElem? (i := 215) rfl)
theorem wfl_RX13_18 : Cond.fieldLink RX13 18 "GoatCourtModel$Hill" "pathTwo" "[I" ∈ goTb := wt_7 (List.mem_of_getElem? (i := 216) rfl) rfl
theorem wfn_RX14_317 : Cond.fieldLinkNest RX14 317 "GoatCourtModel$Hill" "pathTwo" "[I" "GoatCourtModel" ∈ lw_tbl := wl_7 (List.mem_of_getElem? (i := 217) rfl)
theorem wfl_RX13_21 : Cond.fieldLink RX13 21 "GoatCourtModel$Hill" "stories" "[I" ∈ goTb := wt_7 (List.mem_of_getElem? (i := 218) rfl) rfl
theorem wfn_RX14_323 : Cond.fieldLinkNest RX14 323 "GoatCourtModel$Hill" "stories" "[I" "GoatCourtModel" ∈ lw_tbl := wl_7 (List.mem_of_getElem? (i := 219) rfl)
theorem wfl_RX13_24 : Cond.fieldLink RX13 24 "GoatCourtModel$Hill" "story" "[I" ∈ goTb := wt_7 (List.mem_of_getElem? (i := 220) rfl) rfl
theorem wfn_RX14_326 : Cond.fieldLinkNest RX14 326 "GoatCourtModel$Hill" "story" "[I" "GoatCourtModel" ∈ lw_tbl := wl_7 (List.mem_of_getElem? (i := 221) rfl)
theorem wfl_RX13_27 : Cond.fieldLink RX13 27 "GoatCourtModel$Hill" "kind" "[I" ∈ goTb := wt_7 (List.mem_of_getElem? (i := 222) rfl) rfl
theorem wfn_RX14_347 : Cond.fieldLinkNest RX14 347 "GoatCourtModel$Hill" "kind" "[I" "GoatCourtModel" ∈ lw_tbl := wl_7 (List.mem_of_getElem? (i := 223) rfl)
theorem wfl_RX13_30 : Cond.fieldLink RX13 30 "GoatCourtModel$Hill" "mother" "[I" ∈ goTb := wt_7 (List.mem_of_getElem? (i := 224) rfl) rfl
theorem wfn_RX14_350 : Cond.fieldLinkNest RX14 350 "GoatCourtModel$Hill" "mother" "[I" "GoatCourtModel" ∈ lw_tbl := wl_7 (List.mem_of_getElem? (i := 225) rfl)
theorem wfl_RX13_33 : Cond.fieldLink RX13 33 "GoatCourtModel$Hill" "liked" "[I" ∈ goTb := wt_7 (List.mem_of_getElem? (i := 226) rfl) rfl
theorem wfn_RX14_353 : Cond.fieldLinkNest RX14 353 "GoatCourtModel$Hill" "liked" "[I" "GoatCourtModel" ∈ lw_tbl := wl_7 (List.mem_of_getElem? (i := 227) rfl)
theorem wfl_RX13_36 : Cond.fieldLink RX13 36 "GoatCourtModel$Hill" "likes" "[I" ∈ goTb := wt_7 (List.mem_of_getElem? (i := 228) rfl) rfl
theorem wfn_RX14_341 : Cond.fieldLinkNest RX14 341 "GoatCourtModel$Hill" "likes" "[I" "GoatCourtModel" ∈ lw_tbl := wl_7 (List.mem_of_getElem? (i := 229) rfl)
theorem wfl_RX13_39 : Cond.fieldLink RX13 39 "GoatCourtModel$Hill" "from" "[I" ∈ goTb := wt_7 (List.mem_of_getElem? (i := 230) rfl) rfl
theorem wfn_RX14_356 : Cond.fieldLinkNest RX14 356 "GoatCourtModel$Hill" "from" "[I" "GoatCourtModel" ∈ lw_tbl := wl_7 (List.mem_of_getElem? (i := 231) rfl)
theorem wfl_RX13_42 : Cond.fieldLink RX13 42 "GoatCourtModel$Hill" "trust" "[I" ∈ goTb := wt_7 (List.mem_of_getElem? (i := 232) rfl) rfl
theorem wfn_RX14_359 : Cond.fieldLinkNest RX14 359 "GoatCourtModel$Hill" "trust" "[I" "GoatCourtModel" ∈ lw_tbl := wl_7 (List.mem_of_getElem? (i := 233) rfl)
theorem wfl_RX13_45 : Cond.fieldLink RX13 45 "GoatCourtModel$Hill" "feared" "[I" ∈ goTb := wt_7 (List.mem_of_getElem? (i := 234) rfl) rfl
theorem wfn_RX14_363 : Cond.fieldLinkNest RX14 363 "GoatCourtModel$Hill" "feared" "[I" "GoatCourtModel" ∈ lw_tbl := wl_7 (List.mem_of_getElem? (i := 235) rfl)
theorem wfl_RX13_48 : Cond.fieldLink RX13 48 "GoatCourtModel$Hill" "clueSort" "[I" ∈ goTb := wt_7 (List.mem_of_getElem? (i := 236) rfl) rfl
theorem wfn_RX14_376 : Cond.fieldLinkNest RX14 376 "GoatCourtModel$Hill" "clueSort" "[I" "GoatCourtModel" ∈ lw_tbl := wl_7 (List.mem_of_getElem? (i := 237) rfl)
theorem wfl_RX13_51 : Cond.fieldLink RX13 51 "GoatCourtModel$Hill" "clueGoat" "[I" ∈ goTb := wt_7 (List.mem_of_getElem? (i := 238) rfl) rfl
theorem wfn_RX14_379 : Cond.fieldLinkNest RX14 379 "GoatCourtModel$Hill" "clueGoat" "[I" "GoatCourtModel" ∈ lw_tbl := wl_7 (List.mem_of_getElem? (i := 239) rfl)
theorem wfl_RX13_54 : Cond.fieldLink RX13 54 "GoatCourtModel$Hill" "cluePlace" "[I" ∈ goTb := wt_8 (List.mem_of_getElem? (i := 0) rfl) rfl
theorem wfn_RX14_382 : Cond.fieldLinkNest RX14 382 "GoatCourtModel$Hill" "cluePlace" "[I" "GoatCourtModel" ∈ lw_tbl := wl_8 (List.mem_of_getElem? (i := 1) rfl)
theorem wfl_RX13_57 : Cond.fieldLink RX13 57 "GoatCourtModel$Hill" "clueWhat" "[I" ∈ goTb := wt_8 (List.mem_of_getElem? (i := 2) rfl) rfl
theorem wfn_RX14_385 : Cond.fieldLinkNest RX14 385 "GoatCourtModel$Hill" "clueWhat" "[I" "GoatCourtModel" ∈ lw_tbl := wl_8 (List.mem_of_getElem? (i := 3) rfl)
theorem wfl_RX13_60 : Cond.fieldLink RX13 60 "GoatCourtModel$Hill" "ruleTells" "[I" ∈ goTb := wt_8 (List.mem_of_getElem? (i := 4) rfl) rfl
theorem wfn_RX14_399 : Cond.fieldLinkNest RX14 399 "GoatCourtModel$Hill" "ruleTells" "[I" "GoatCourtModel" ∈ lw_tbl := wl_8 (List.mem_of_getElem? (i := 5) rfl)
theorem wfl_RX13_63 : Cond.fieldLink RX13 63 "GoatCourtModel$Hill" "ruleNeeds" "[I" ∈ goTb := wt_8 (List.mem_of_getElem? (i := 6) rfl) rfl
theorem wfn_RX14_402 : Cond.fieldLinkNest RX14 402 "GoatCourtModel$Hill" "ruleNeeds" "[I" "GoatCourtModel" ∈ lw_tbl := wl_8 (List.mem_of_getElem? (i := 7) rfl)
theorem wfl_RX13_66 : Cond.fieldLink RX13 66 "GoatCourtModel$Hill" "step" "[I" ∈ goTb := wt_8 (List.mem_of_getElem? (i := 8) rfl) rfl
theorem wfn_RX14_416 : Cond.fieldLinkNest RX14 416 "GoatCourtModel$Hill" "step" "[I" "GoatCourtModel" ∈ lw_tbl := wl_8 (List.mem_of_getElem? (i := 9) rfl)
theorem wfl_RX13_69 : Cond.fieldLink RX13 69 "GoatCourtModel$Hill" "costs" "[I" ∈ goTb := wt_8 (List.mem_of_getElem? (i := 10) rfl) rfl
theorem wfn_RX14_426 : Cond.fieldLinkNest RX14 426 "GoatCourtModel$Hill" "costs" "[I" "GoatCourtModel" ∈ lw_tbl := wl_8 (List.mem_of_getElem? (i := 11) rfl)
theorem wfl_RX13_72 : Cond.fieldLink RX13 72 "GoatCourtModel$Hill" "wins" "[I" ∈ goTb := wt_8 (List.mem_of_getElem? (i := 12) rfl) rfl
theorem wfn_RX14_428 : Cond.fieldLinkNest RX14 428 "GoatCourtModel$Hill" "wins" "[I" "GoatCourtModel" ∈ lw_tbl := wl_8 (List.mem_of_getElem? (i := 13) rfl)
theorem wfl_RX13_75 : Cond.fieldLink RX13 75 "GoatCourtModel$Hill" "cheese" "[I" ∈ goTb := wt_8 (List.mem_of_getElem? (i := 14) rfl) rfl
theorem wfn_RX14_433 : Cond.fieldLinkNest RX14 433 "GoatCourtModel$Hill" "cheese" "[I" "GoatCourtModel" ∈ lw_tbl := wl_8 (List.mem_of_getElem? (i := 15) rfl)
theorem wfl_RX13_78 : Cond.fieldLink RX13 78 "GoatCourtModel$Hill" "name" "[J" ∈ goTb := wt_8 (List.mem_of_getElem? (i := 16) rfl) rfl
theorem wfn_RX14_213 : Cond.fieldLinkNest RX14 213 "GoatCourtModel$Hill" "name" "[J" "GoatCourtModel" ∈ lw_tbl := wl_8 (List.mem_of_getElem? (i := 17) rfl)
theorem wfl_RX13_82 : Cond.fieldLink RX13 82 "GoatCourtModel$Hill" "nameSort" "[I" ∈ goTb := wt_8 (List.mem_of_getElem? (i := 18) rfl) rfl
theorem wfn_RX14_220 : Cond.fieldLinkNest RX14 220 "GoatCourtModel$Hill" "nameSort" "[I" "GoatCourtModel" ∈ lw_tbl := wl_8 (List.mem_of_getElem? (i := 19) rfl)
theorem wfl_RX13_85 : Cond.fieldLink RX13 85 "GoatCourtModel$Hill" "nameNumber" "[I" ∈ goTb := wt_8 (List.mem_of_getElem? (i := 20) rfl) rfl
theorem wfn_RX14_223 : Cond.fieldLinkNest RX14 223 "GoatCourtModel$Hill" "nameNumber" "[I" "GoatCourtModel" ∈ lw_tbl := wl_8 (List.mem_of_getElem? (i := 21) rfl)
theorem wml_RX14_136 : Cond.methodLink RX14 136 yX14_goesOn ∈ goTb := wt_8 (List.mem_of_getElem? (i := 105) rfl) rfl
theorem wim_X14_goesOn : Cond.instanceMethod yX14_goesOn ∈ goTb := wt_8 (List.mem_of_getElem? (i := 107) rfl) rfl
theorem wco_X14_goesOn : Cond.code yX14_goesOn cX14_goesOn 3 (Option.none : Option Jvm.ClassFile.FieldType) ∈ goTb := wt_8 (List.mem_of_getElem? (i := 108) rfl) rfl
theorem wml_RX14_100 : Cond.methodLink RX14 100 yX14_byteAt ∈ goTb := wt_8 (List.mem_of_getElem? (i := 109) rfl) rfl
theorem wim_X14_byteAt : Cond.instanceMethod yX14_byteAt ∈ goTb := wt_8 (List.mem_of_getElem? (i := 111) rfl) rfl
theorem wco_X14_byteAt : Cond.code yX14_byteAt cX14_byteAt 2 (Option.some Jvm.ClassFile.FieldType.int) ∈ goTb := wt_8 (List.mem_of_getElem? (i := 112) rfl) rfl
theorem wml_RX14_109 : Cond.methodLink RX14 109 yX14_isLetter ∈ goTb := wt_8 (List.mem_of_getElem? (i := 113) rfl) rfl
theorem wst_X14_isLetter : Cond.static yX14_isLetter ∈ goTb := wt_8 (List.mem_of_getElem? (i := 114) rfl) rfl
theorem wco_X14_isLetter : Cond.code yX14_isLetter cX14_isLetter 1 (Option.some Jvm.ClassFile.FieldType.boolean) ∈ goTb := wt_8 (List.mem_of_getElem? (i := 115) rfl) rfl
theorem wcJ_RX14_88 : Cond.constantLong RX14 88 (32 : Int64) ∈ goTb := wt_8 (List.mem_of_getElem? (i := 116) rfl) rfl
theorem wml_RX14_120 : Cond.methodLink RX14 120 yX14_isDigit ∈ goTb := wt_8 (List.mem_of_getElem? (i := 117) rfl) rfl
theorem wst_X14_isDigit : Cond.static yX14_isDigit ∈ goTb := wt_8 (List.mem_of_getElem? (i := 118) rfl) rfl
theorem wco_X14_isDigit : Cond.code yX14_isDigit cX14_isDigit 1 (Option.some Jvm.ClassFile.FieldType.boolean) ∈ goTb := wt_8 (List.mem_of_getElem? (i := 119) rfl) rfl
theorem wml_RX14_439 : Cond.methodLink RX14 439 yX14_readAll ∈ goTb := wt_8 (List.mem_of_getElem? (i := 120) rfl) rfl
theorem wim_X14_readAll : Cond.instanceMethod yX14_readAll ∈ goTb := wt_8 (List.mem_of_getElem? (i := 122) rfl) rfl
theorem wco_X14_readAll : Cond.code yX14_readAll cX14_readAll 2 (Option.none : Option Jvm.ClassFile.FieldType) ∈ goTb := wt_8 (List.mem_of_getElem? (i := 123) rfl) rfl
theorem wml_RX14_235 : Cond.methodLink RX14 235 yX14_readLine ∈ goTb := wt_8 (List.mem_of_getElem? (i := 124) rfl) rfl
theorem wim_X14_readLine : Cond.instanceMethod yX14_readLine ∈ goTb := wt_8 (List.mem_of_getElem? (i := 126) rfl) rfl
theorem wco_X14_readLine : Cond.code yX14_readLine cX14_readLine 1 (Option.none : Option Jvm.ClassFile.FieldType) ∈ goTb := wt_8 (List.mem_of_getElem? (i := 127) rfl) rfl
theorem wml_RX14_139 : Cond.methodLink RX14 139 yX14_isWord ∈ goTb := wt_8 (List.mem_of_getElem? (i := 129) rfl) rfl
theorem wim_X14_isWord : Cond.instanceMethod yX14_isWord ∈ goTb := wt_8 (List.mem_of_getElem? (i := 131) rfl) rfl
theorem wco_X14_isWord : Cond.code yX14_isWord cX14_isWord 2 (Option.some Jvm.ClassFile.FieldType.boolean) ∈ goTb := wt_8 (List.mem_of_getElem? (i := 132) rfl) rfl
theorem wml_RX14_132 : Cond.methodLink RX14 132 yX14_wordOf ∈ goTb := wt_8 (List.mem_of_getElem? (i := 133) rfl) rfl
theorem wst_X14_wordOf : Cond.static yX14_wordOf ∈ goTb := wt_8 (List.mem_of_getElem? (i := 134) rfl) rfl
theorem wco_X14_wordOf : Cond.code yX14_wordOf cX14_wordOf 4 (Option.some Jvm.ClassFile.FieldType.long) ∈ goTb := wt_8 (List.mem_of_getElem? (i := 135) rfl) rfl
theorem wml_RX14_82 : Cond.methodLink RX14 82 yJ0_length_8abf5 ∈ goTb := wt_8 (List.mem_of_getElem? (i := 136) rfl) rfl
theorem wml_RX14_90 : Cond.methodLink RX14 90 yJ0_charAt_5068e ∈ goTb := wt_8 (List.mem_of_getElem? (i := 137) rfl) rfl
theorem wml_RX14_244 : Cond.methodLink RX14 244 yX14_readHill ∈ goTb := wt_8 (List.mem_of_getElem? (i := 138) rfl) rfl
theorem wim_X14_readHill : Cond.instanceMethod yX14_readHill ∈ goTb := wt_8 (List.mem_of_getElem? (i := 140) rfl) rfl
theorem wco_X14_readHill : Cond.code yX14_readHill cX14_readHill 3 (Option.none : Option Jvm.ClassFile.FieldType) ∈ goTb := wt_8 (List.mem_of_getElem? (i := 141) rfl) rfl
theorem wml_RX14_143 : Cond.methodLink RX14 143 yX14_flaw ∈ goTb := wt_8 (List.mem_of_getElem? (i := 142) rfl) rfl
theorem wim_X14_flaw : Cond.instanceMethod yX14_flaw ∈ goTb := wt_8 (List.mem_of_getElem? (i := 144) rfl) rfl
theorem wco_X14_flaw : Cond.code yX14_flaw cX14_flaw 2 (Option.none : Option Jvm.ClassFile.FieldType) ∈ goTb := wt_8 (List.mem_of_getElem? (i := 145) rfl) rfl
theorem wml_RX14_287 : Cond.methodLink RX14 287 yX14_readPart ∈ goTb := wt_8 (List.mem_of_getElem? (i := 147) rfl) rfl
theorem wim_X14_readPart : Cond.instanceMethod yX14_readPart ∈ goTb := wt_8 (List.mem_of_getElem? (i := 149) rfl) rfl
theorem wco_X14_readPart : Cond.code yX14_readPart cX14_readPart 4 (Option.some Jvm.ClassFile.FieldType.int) ∈ goTb := wt_8 (List.mem_of_getElem? (i := 150) rfl) rfl
theorem wml_RX14_151 : Cond.methodLink RX14 151 yX14_wants ∈ goTb := wt_8 (List.mem_of_getElem? (i := 151) rfl) rfl
theorem wim_X14_wants : Cond.instanceMethod yX14_wants ∈ goTb := wt_8 (List.mem_of_getElem? (i := 153) rfl) rfl
theorem wco_X14_wants : Cond.code yX14_wants cX14_wants 2 (Option.none : Option Jvm.ClassFile.FieldType) ∈ goTb := wt_8 (List.mem_of_getElem? (i := 154) rfl) rfl
theorem wml_RX14_155 : Cond.methodLink RX14 155 yX14_readWhole ∈ goTb := wt_8 (List.mem_of_getElem? (i := 155) rfl) rfl
theorem wim_X14_readWhole : Cond.instanceMethod yX14_readWhole ∈ goTb := wt_8 (List.mem_of_getElem? (i := 157) rfl) rfl
theorem wco_X14_readWhole : Cond.code yX14_readWhole cX14_readWhole 4 (Option.some Jvm.ClassFile.FieldType.int) ∈ goTb := wt_8 (List.mem_of_getElem? (i := 158) rfl) rfl
theorem wml_RX14_147 : Cond.methodLink RX14 147 yX14_within ∈ goTb := wt_8 (List.mem_of_getElem? (i := 159) rfl) rfl
theorem wst_X14_within : Cond.static yX14_within ∈ goTb := wt_8 (List.mem_of_getElem? (i := 160) rfl) rfl
theorem wco_X14_within : Cond.code yX14_within cX14_within 3 (Option.some Jvm.ClassFile.FieldType.boolean) ∈ goTb := wt_8 (List.mem_of_getElem? (i := 161) rfl) rfl
theorem wml_RX14_247 : Cond.methodLink RX14 247 yX14_readPlace ∈ goTb := wt_8 (List.mem_of_getElem? (i := 164) rfl) rfl
theorem wim_X14_readPlace : Cond.instanceMethod yX14_readPlace ∈ goTb := wt_8 (List.mem_of_getElem? (i := 166) rfl) rfl
theorem wco_X14_readPlace : Cond.code yX14_readPlace cX14_readPlace 3 (Option.none : Option Jvm.ClassFile.FieldType) ∈ goTb := wt_8 (List.mem_of_getElem? (i := 167) rfl) rfl
theorem wml_RX14_201 : Cond.methodLink RX14 201 yX14_begins ∈ goTb := wt_8 (List.mem_of_getElem? (i := 168) rfl) rfl
theorem wim_X14_begins : Cond.instanceMethod yX14_begins ∈ goTb := wt_8 (List.mem_of_getElem? (i := 170) rfl) rfl
theorem wco_X14_begins : Cond.code yX14_begins cX14_begins 3 (Option.none : Option Jvm.ClassFile.FieldType) ∈ goTb := wt_8 (List.mem_of_getElem? (i := 171) rfl) rfl
theorem wml_RX14_292 : Cond.methodLink RX14 292 yX14_readFresh ∈ goTb := wt_8 (List.mem_of_getElem? (i := 172) rfl) rfl
theorem wim_X14_readFresh : Cond.instanceMethod yX14_readFresh ∈ goTb := wt_8 (List.mem_of_getElem? (i := 174) rfl) rfl
theorem wco_X14_readFresh : Cond.code yX14_readFresh cX14_readFresh 3 (Option.some Jvm.ClassFile.FieldType.long) ∈ goTb := wt_8 (List.mem_of_getElem? (i := 175) rfl) rfl
theorem wml_RX14_205 : Cond.methodLink RX14 205 yX14_isName ∈ goTb := wt_8 (List.mem_of_getElem? (i := 176) rfl) rfl
theorem wim_X14_isName : Cond.instanceMethod yX14_isName ∈ goTb := wt_8 (List.mem_of_getElem? (i := 178) rfl) rfl
theorem wco_X14_isName : Cond.code yX14_isName cX14_isName 1 (Option.some Jvm.ClassFile.FieldType.boolean) ∈ goTb := wt_8 (List.mem_of_getElem? (i := 179) rfl) rfl
theorem wml_RX14_209 : Cond.methodLink RX14 209 yX13_find ∈ goTb := wt_8 (List.mem_of_getElem? (i := 195) rfl) rfl
theorem wim_X13_find : Cond.instanceMethod yX13_find ∈ goTb := wt_8 (List.mem_of_getElem? (i := 196) rfl) rfl
theorem wse_X13_find : Cond.selects RX13 yX13_find yX13_find ∈ goTb := wt_8 (List.mem_of_getElem? (i := 197) rfl) rfl
theorem wco_X13_find : Cond.code yX13_find cX13_find 4 (Option.some Jvm.ClassFile.FieldType.int) ∈ goTb := wt_8 (List.mem_of_getElem? (i := 198) rfl) rfl
theorem wml_RX14_299 : Cond.methodLink RX14 299 yX14_readPlants ∈ goTb := wt_8 (List.mem_of_getElem? (i := 199) rfl) rfl
theorem wim_X14_readPlants : Cond.instanceMethod yX14_readPlants ∈ goTb := wt_8 (List.mem_of_getElem? (i := 201) rfl) rfl
theorem wco_X14_readPlants : Cond.code yX14_readPlants cX14_readPlants 5 (Option.none : Option Jvm.ClassFile.FieldType) ∈ goTb := wt_8 (List.mem_of_getElem? (i := 202) rfl) rfl
theorem wml_RX14_232 : Cond.methodLink RX14 232 yX14_needsSign ∈ goTb := wt_8 (List.mem_of_getElem? (i := 203) rfl) rfl
theorem wim_X14_needsSign : Cond.instanceMethod yX14_needsSign ∈ goTb := wt_8 (List.mem_of_getElem? (i := 205) rfl) rfl
theorem wco_X14_needsSign : Cond.code yX14_needsSign cX14_needsSign 2 (Option.none : Option Jvm.ClassFile.FieldType) ∈ goTb := wt_8 (List.mem_of_getElem? (i := 206) rfl) rfl
theorem wml_RX14_303 : Cond.methodLink RX14 303 yX14_names ∈ goTb := wt_8 (List.mem_of_getElem? (i := 207) rfl) rfl
theorem wim_X14_names : Cond.instanceMethod yX14_names ∈ goTb := wt_8 (List.mem_of_getElem? (i := 209) rfl) rfl
theorem wco_X14_names : Cond.code yX14_names cX14_names 5 (Option.none : Option Jvm.ClassFile.FieldType) ∈ goTb := wt_8 (List.mem_of_getElem? (i := 210) rfl) rfl
theorem wml_RX14_250 : Cond.methodLink RX14 250 yX14_readPath ∈ goTb := wt_8 (List.mem_of_getElem? (i := 211) rfl) rfl
theorem wim_X14_readPath : Cond.instanceMethod yX14_readPath ∈ goTb := wt_8 (List.mem_of_getElem? (i := 213) rfl) rfl
theorem wco_X14_readPath : Cond.code yX14_readPath cX14_readPath 3 (Option.none : Option Jvm.ClassFile.FieldType) ∈ goTb := wt_8 (List.mem_of_getElem? (i := 214) rfl) rfl
theorem wml_RX14_309 : Cond.methodLink RX14 309 yX14_readKnown ∈ goTb := wt_8 (List.mem_of_getElem? (i := 215) rfl) rfl
theorem wim_X14_readKnown : Cond.instanceMethod yX14_readKnown ∈ goTb := wt_8 (List.mem_of_getElem? (i := 217) rfl) rfl
theorem wco_X14_readKnown : Cond.code yX14_readKnown cX14_readKnown 3 (Option.some Jvm.ClassFile.FieldType.int) ∈ goTb := wt_8 (List.mem_of_getElem? (i := 218) rfl) rfl
theorem wml_RX14_226 : Cond.methodLink RX14 226 yX14_known ∈ goTb := wt_8 (List.mem_of_getElem? (i := 219) rfl) rfl
theorem wim_X14_known : Cond.instanceMethod yX14_known ∈ goTb := wt_8 (List.mem_of_getElem? (i := 221) rfl) rfl
theorem wco_X14_known : Cond.code yX14_known cX14_known 3 (Option.some Jvm.ClassFile.FieldType.int) ∈ goTb := wt_8 (List.mem_of_getElem? (i := 222) rfl) rfl
theorem wml_RX14_312 : Cond.methodLink RX14 312 yX13_path ∈ goTb := wt_8 (List.mem_of_getElem? (i := 223) rfl) rfl
theorem wim_X13_path : Cond.instanceMethod yX13_path ∈ goTb := wt_8 (List.mem_of_getElem? (i := 224) rfl) rfl
theorem wse_X13_path : Cond.selects RX13 yX13_path yX13_path ∈ goTb := wt_8 (List.mem_of_getElem? (i := 225) rfl) rfl
theorem wco_X13_path : Cond.code yX13_path cX13_path 4 (Option.some Jvm.ClassFile.FieldType.int) ∈ goTb := wt_8 (List.mem_of_getElem? (i := 226) rfl) rfl
theorem wml_RX14_253 : Cond.methodLink RX14 253 yX14_readPerson ∈ goTb := wt_8 (List.mem_of_getElem? (i := 227) rfl) rfl
theorem wim_X14_readPerson : Cond.instanceMethod yX14_readPerson ∈ goTb := wt_8 (List.mem_of_getElem? (i := 229) rfl) rfl
theorem wco_X14_readPerson : Cond.code yX14_readPerson cX14_readPerson 3 (Option.none : Option Jvm.ClassFile.FieldType) ∈ goTb := wt_8 (List.mem_of_getElem? (i := 230) rfl) rfl
theorem wml_RX14_256 : Cond.methodLink RX14 256 yX14_readStory ∈ goTb := wt_8 (List.mem_of_getElem? (i := 231) rfl) rfl
theorem wim_X14_readStory : Cond.instanceMethod yX14_readStory ∈ goTb := wt_8 (List.mem_of_getElem? (i := 233) rfl) rfl
theorem wco_X14_readStory : Cond.code yX14_readStory cX14_readStory 7 (Option.none : Option Jvm.ClassFile.FieldType) ∈ goTb := wt_8 (List.mem_of_getElem? (i := 234) rfl) rfl
theorem wml_RX14_238 : Cond.methodLink RX14 238 yX14_eatsSign ∈ goTb := wt_8 (List.mem_of_getElem? (i := 235) rfl) rfl
theorem wim_X14_eatsSign : Cond.instanceMethod yX14_eatsSign ∈ goTb := wt_8 (List.mem_of_getElem? (i := 237) rfl) rfl
theorem wco_X14_eatsSign : Cond.code yX14_eatsSign cX14_eatsSign 3 (Option.some Jvm.ClassFile.FieldType.boolean) ∈ goTb := wt_8 (List.mem_of_getElem? (i := 238) rfl) rfl
theorem wml_RX14_259 : Cond.methodLink RX14 259 yX14_readGoat ∈ goTb := wt_8 (List.mem_of_getElem? (i := 239) rfl) rfl
theorem wim_X14_readGoat : Cond.instanceMethod yX14_readGoat ∈ goTb := wt_9 (List.mem_of_getElem? (i := 1) rfl) rfl
theorem wco_X14_readGoat : Cond.code yX14_readGoat cX14_readGoat 10 (Option.none : Option Jvm.ClassFile.FieldType) ∈ goTb := wt_9 (List.mem_of_getElem? (i := 2) rfl) rfl
theorem wml_RX14_262 : Cond.methodLink RX14 262 yX14_readFears ∈ goTb := wt_9 (List.mem_of_getElem? (i := 10) rfl) rfl
theorem wim_X14_readFears : Cond.instanceMethod yX14_readFears ∈ goTb := wt_9 (List.mem_of_getElem? (i := 12) rfl) rfl
theorem wco_X14_readFears : Cond.code yX14_readFears cX14_readFears 3 (Option.none : Option Jvm.ClassFile.FieldType) ∈ goTb := wt_9 (List.mem_of_getElem? (i := 13) rfl) rfl
theorem wml_RX14_366 : Cond.methodLink RX14 366 yX14_bit ∈ goTb := wt_9 (List.mem_of_getElem? (i := 14) rfl) rfl
theorem wst_X14_bit : Cond.static yX14_bit ∈ goTb := wt_9 (List.mem_of_getElem? (i := 15) rfl) rfl
theorem wco_X14_bit : Cond.code yX14_bit cX14_bit 2 (Option.some Jvm.ClassFile.FieldType.boolean) ∈ goTb := wt_9 (List.mem_of_getElem? (i := 16) rfl) rfl
theorem wml_RX14_265 : Cond.methodLink RX14 265 yX14_readClue ∈ goTb := wt_9 (List.mem_of_getElem? (i := 17) rfl) rfl
theorem wim_X14_readClue : Cond.instanceMethod yX14_readClue ∈ goTb := wt_9 (List.mem_of_getElem? (i := 19) rfl) rfl
theorem wco_X14_readClue : Cond.code yX14_readClue cX14_readClue 6 (Option.none : Option Jvm.ClassFile.FieldType) ∈ goTb := wt_9 (List.mem_of_getElem? (i := 20) rfl) rfl
theorem wml_RX14_373 : Cond.methodLink RX14 373 yX14_readPlant ∈ goTb := wt_9 (List.mem_of_getElem? (i := 21) rfl) rfl
theorem wim_X14_readPlant : Cond.instanceMethod yX14_readPlant ∈ goTb := wt_9 (List.mem_of_getElem? (i := 23) rfl) rfl
theorem wco_X14_readPlant : Cond.code yX14_readPlant cX14_readPlant 2 (Option.some Jvm.ClassFile.FieldType.int) ∈ goTb := wt_9 (List.mem_of_getElem? (i := 24) rfl) rfl
theorem wml_RX14_268 : Cond.methodLink RX14 268 yX14_readFact ∈ goTb := wt_9 (List.mem_of_getElem? (i := 25) rfl) rfl
theorem wim_X14_readFact : Cond.instanceMethod yX14_readFact ∈ goTb := wt_9 (List.mem_of_getElem? (i := 27) rfl) rfl
theorem wco_X14_readFact : Cond.code yX14_readFact cX14_readFact 3 (Option.none : Option Jvm.ClassFile.FieldType) ∈ goTb := wt_9 (List.mem_of_getElem? (i := 28) rfl) rfl
theorem wml_RX14_271 : Cond.methodLink RX14 271 yX14_readHolds ∈ goTb := wt_9 (List.mem_of_getElem? (i := 29) rfl) rfl
theorem wim_X14_readHolds : Cond.instanceMethod yX14_readHolds ∈ goTb := wt_9 (List.mem_of_getElem? (i := 31) rfl) rfl
theorem wco_X14_readHolds : Cond.code yX14_readHolds cX14_readHolds 2 (Option.none : Option Jvm.ClassFile.FieldType) ∈ goTb := wt_9 (List.mem_of_getElem? (i := 32) rfl) rfl
theorem wml_RX14_274 : Cond.methodLink RX14 274 yX14_readRule ∈ goTb := wt_9 (List.mem_of_getElem? (i := 33) rfl) rfl
theorem wim_X14_readRule : Cond.instanceMethod yX14_readRule ∈ goTb := wt_9 (List.mem_of_getElem? (i := 35) rfl) rfl
theorem wco_X14_readRule : Cond.code yX14_readRule cX14_readRule 5 (Option.none : Option Jvm.ClassFile.FieldType) ∈ goTb := wt_9 (List.mem_of_getElem? (i := 36) rfl) rfl
theorem wml_RX14_396 : Cond.methodLink RX14 396 yX14_bits ∈ goTb := wt_9 (List.mem_of_getElem? (i := 37) rfl) rfl
theorem wst_X14_bits : Cond.static yX14_bits ∈ goTb := wt_9 (List.mem_of_getElem? (i := 38) rfl) rfl
theorem wco_X14_bits : Cond.code yX14_bits cX14_bits 3 (Option.some Jvm.ClassFile.FieldType.int) ∈ goTb := wt_9 (List.mem_of_getElem? (i := 39) rfl) rfl
theorem wml_RX14_277 : Cond.methodLink RX14 277 yX14_readProof ∈ goTb := wt_9 (List.mem_of_getElem? (i := 40) rfl) rfl
theorem wim_X14_readProof : Cond.instanceMethod yX14_readProof ∈ goTb := wt_9 (List.mem_of_getElem? (i := 42) rfl) rfl
theorem wco_X14_readProof : Cond.code yX14_readProof cX14_readProof 3 (Option.none : Option Jvm.ClassFile.FieldType) ∈ goTb := wt_9 (List.mem_of_getElem? (i := 43) rfl) rfl
theorem wml_RX14_409 : Cond.methodLink RX14 409 yX14_beginsOnce ∈ goTb := wt_9 (List.mem_of_getElem? (i := 44) rfl) rfl
theorem wim_X14_beginsOnce : Cond.instanceMethod yX14_beginsOnce ∈ goTb := wt_9 (List.mem_of_getElem? (i := 46) rfl) rfl
theorem wco_X14_beginsOnce : Cond.code yX14_beginsOnce cX14_beginsOnce 2 (Option.none : Option Jvm.ClassFile.FieldType) ∈ goTb := wt_9 (List.mem_of_getElem? (i := 47) rfl) rfl
theorem wml_RX14_280 : Cond.methodLink RX14 280 yX14_readCourt ∈ goTb := wt_9 (List.mem_of_getElem? (i := 48) rfl) rfl
theorem wim_X14_readCourt : Cond.instanceMethod yX14_readCourt ∈ goTb := wt_9 (List.mem_of_getElem? (i := 50) rfl) rfl
theorem wco_X14_readCourt : Cond.code yX14_readCourt cX14_readCourt 5 (Option.none : Option Jvm.ClassFile.FieldType) ∈ goTb := wt_9 (List.mem_of_getElem? (i := 51) rfl) rfl
theorem wml_RX14_283 : Cond.methodLink RX14 283 yX14_readCheese ∈ goTb := wt_9 (List.mem_of_getElem? (i := 54) rfl) rfl
theorem wim_X14_readCheese : Cond.instanceMethod yX14_readCheese ∈ goTb := wt_9 (List.mem_of_getElem? (i := 56) rfl) rfl
theorem wco_X14_readCheese : Cond.code yX14_readCheese cX14_readCheese 1 (Option.none : Option Jvm.ClassFile.FieldType) ∈ goTb := wt_9 (List.mem_of_getElem? (i := 57) rfl) rfl
theorem wml_RX14_450 : Cond.methodLink RX14 450 yX13_cases ∈ goTb := wt_9 (List.mem_of_getElem? (i := 58) rfl) rfl
theorem wim_X13_cases : Cond.instanceMethod yX13_cases ∈ goTb := wt_9 (List.mem_of_getElem? (i := 59) rfl) rfl
theorem wse_X13_cases : Cond.selects RX13 yX13_cases yX13_cases ∈ goTb := wt_9 (List.mem_of_getElem? (i := 60) rfl) rfl
theorem wco_X13_cases : Cond.code yX13_cases cX13_cases 3 (Option.some Jvm.ClassFile.FieldType.int) ∈ goTb := wt_9 (List.mem_of_getElem? (i := 61) rfl) rfl
theorem wml_RX14_76 : Cond.methodLink RX14 76 yX14_good ∈ goTb := wt_9 (List.mem_of_getElem? (i := 62) rfl) rfl
theorem wim_X14_good : Cond.instanceMethod yX14_good ∈ goTb := wt_9 (List.mem_of_getElem? (i := 64) rfl) rfl
theorem wco_X14_good : Cond.code yX14_good cX14_good 2 (Option.some Jvm.ClassFile.FieldType.int) ∈ goTb := wt_9 (List.mem_of_getElem? (i := 65) rfl) rfl
theorem wml_RL_33 : Cond.methodLink RL 33 yX14_fault ∈ goTb := wt_9 (List.mem_of_getElem? (i := 66) rfl) rfl
theorem wim_X14_fault : Cond.instanceMethod yX14_fault ∈ goTb := wt_9 (List.mem_of_getElem? (i := 67) rfl) rfl
theorem wse_X14_fault : Cond.selects RX14 yX14_fault yX14_fault ∈ goTb := wt_9 (List.mem_of_getElem? (i := 68) rfl) rfl
theorem wco_X14_fault : Cond.code yX14_fault cX14_fault 1 (Option.some Jvm.ClassFile.FieldType.int) ∈ goTb := wt_9 (List.mem_of_getElem? (i := 69) rfl) rfl
theorem wml_RL_37 : Cond.methodLink RL 37 yX14_where ∈ goTb := wt_9 (List.mem_of_getElem? (i := 70) rfl) rfl
theorem wim_X14_where : Cond.instanceMethod yX14_where ∈ goTb := wt_9 (List.mem_of_getElem? (i := 71) rfl) rfl
theorem wse_X14_where : Cond.selects RX14 yX14_where yX14_where ∈ goTb := wt_9 (List.mem_of_getElem? (i := 72) rfl) rfl
theorem wco_X14_where : Cond.code yX14_where cX14_where 1 (Option.some Jvm.ClassFile.FieldType.int) ∈ goTb := wt_9 (List.mem_of_getElem? (i := 73) rfl) rfl
theorem wml_RL_42 : Cond.methodLink RL 42 yX14_plants ∈ goTb := wt_9 (List.mem_of_getElem? (i := 74) rfl) rfl
theorem wim_X14_plants : Cond.instanceMethod yX14_plants ∈ goTb := wt_9 (List.mem_of_getElem? (i := 75) rfl) rfl
theorem wse_X14_plants : Cond.selects RX14 yX14_plants yX14_plants ∈ goTb := wt_9 (List.mem_of_getElem? (i := 76) rfl) rfl
theorem wco_X14_plants : Cond.code yX14_plants cX14_plants 3 (Option.some Jvm.ClassFile.FieldType.int) ∈ goTb := wt_9 (List.mem_of_getElem? (i := 77) rfl) rfl
theorem wml_RX14_491 : Cond.methodLink RX14 491 yX14_isPlace ∈ goTb := wt_9 (List.mem_of_getElem? (i := 78) rfl) rfl
theorem wim_X14_isPlace : Cond.instanceMethod yX14_isPlace ∈ goTb := wt_9 (List.mem_of_getElem? (i := 80) rfl) rfl
theorem wco_X14_isPlace : Cond.code yX14_isPlace cX14_isPlace 2 (Option.some Jvm.ClassFile.FieldType.boolean) ∈ goTb := wt_9 (List.mem_of_getElem? (i := 81) rfl) rfl
theorem wml_RX14_494 : Cond.methodLink RX14 494 yX14_isPlant ∈ goTb := wt_9 (List.mem_of_getElem? (i := 82) rfl) rfl
theorem wim_X14_isPlant : Cond.instanceMethod yX14_isPlant ∈ goTb := wt_9 (List.mem_of_getElem? (i := 84) rfl) rfl
theorem wco_X14_isPlant : Cond.code yX14_isPlant cX14_isPlant 2 (Option.some Jvm.ClassFile.FieldType.boolean) ∈ goTb := wt_9 (List.mem_of_getElem? (i := 85) rfl) rfl
theorem wml_RL_46 : Cond.methodLink RL 46 yX14_near ∈ goTb := wt_9 (List.mem_of_getElem? (i := 86) rfl) rfl
theorem wim_X14_near : Cond.instanceMethod yX14_near ∈ goTb := wt_9 (List.mem_of_getElem? (i := 87) rfl) rfl
theorem wse_X14_near : Cond.selects RX14 yX14_near yX14_near ∈ goTb := wt_9 (List.mem_of_getElem? (i := 88) rfl) rfl
theorem wco_X14_near : Cond.code yX14_near cX14_near 4 (Option.some Jvm.ClassFile.FieldType.int) ∈ goTb := wt_9 (List.mem_of_getElem? (i := 89) rfl) rfl
theorem wml_RL_50 : Cond.methodLink RL 50 yX14_goat ∈ goTb := wt_9 (List.mem_of_getElem? (i := 90) rfl) rfl
theorem wim_X14_goat : Cond.instanceMethod yX14_goat ∈ goTb := wt_9 (List.mem_of_getElem? (i := 91) rfl) rfl
theorem wse_X14_goat : Cond.selects RX14 yX14_goat yX14_goat ∈ goTb := wt_9 (List.mem_of_getElem? (i := 92) rfl) rfl
theorem wco_X14_goat : Cond.code yX14_goat cX14_goat 5 (Option.some Jvm.ClassFile.FieldType.int) ∈ goTb := wt_9 (List.mem_of_getElem? (i := 93) rfl) rfl
theorem wml_RX14_497 : Cond.methodLink RX14 497 yX14_isGoat ∈ goTb := wt_9 (List.mem_of_getElem? (i := 94) rfl) rfl
theorem wim_X14_isGoat : Cond.instanceMethod yX14_isGoat ∈ goTb := wt_9 (List.mem_of_getElem? (i := 96) rfl) rfl
theorem wco_X14_isGoat : Cond.code yX14_isGoat cX14_isGoat 2 (Option.some Jvm.ClassFile.FieldType.boolean) ∈ goTb := wt_9 (List.mem_of_getElem? (i := 97) rfl) rfl
theorem wml_RX14_500 : Cond.methodLink RX14 500 yX14_isHeard ∈ goTb := wt_9 (List.mem_of_getElem? (i := 98) rfl) rfl
theorem wim_X14_isHeard : Cond.instanceMethod yX14_isHeard ∈ goTb := wt_9 (List.mem_of_getElem? (i := 100) rfl) rfl
theorem wco_X14_isHeard : Cond.code yX14_isHeard cX14_isHeard 2 (Option.some Jvm.ClassFile.FieldType.boolean) ∈ goTb := wt_9 (List.mem_of_getElem? (i := 101) rfl) rfl
theorem wml_RL_54 : Cond.methodLink RL 54 yX14_likes ∈ goTb := wt_9 (List.mem_of_getElem? (i := 102) rfl) rfl
theorem wim_X14_likes : Cond.instanceMethod yX14_likes ∈ goTb := wt_9 (List.mem_of_getElem? (i := 103) rfl) rfl
theorem wse_X14_likes : Cond.selects RX14 yX14_likes yX14_likes ∈ goTb := wt_9 (List.mem_of_getElem? (i := 104) rfl) rfl
theorem wco_X14_likes : Cond.code yX14_likes cX14_likes 3 (Option.some Jvm.ClassFile.FieldType.int) ∈ goTb := wt_9 (List.mem_of_getElem? (i := 105) rfl) rfl
theorem wml_RL_58 : Cond.methodLink RL 58 yX14_clue ∈ goTb := wt_9 (List.mem_of_getElem? (i := 106) rfl) rfl
theorem wim_X14_clue : Cond.instanceMethod yX14_clue ∈ goTb := wt_9 (List.mem_of_getElem? (i := 107) rfl) rfl
theorem wse_X14_clue : Cond.selects RX14 yX14_clue yX14_clue ∈ goTb := wt_9 (List.mem_of_getElem? (i := 108) rfl) rfl
theorem wco_X14_clue : Cond.code yX14_clue cX14_clue 3 (Option.some Jvm.ClassFile.FieldType.int) ∈ goTb := wt_9 (List.mem_of_getElem? (i := 109) rfl) rfl
theorem wml_RX14_503 : Cond.methodLink RX14 503 yX14_isClue ∈ goTb := wt_9 (List.mem_of_getElem? (i := 110) rfl) rfl
theorem wim_X14_isClue : Cond.instanceMethod yX14_isClue ∈ goTb := wt_9 (List.mem_of_getElem? (i := 112) rfl) rfl
theorem wco_X14_isClue : Cond.code yX14_isClue cX14_isClue 2 (Option.some Jvm.ClassFile.FieldType.boolean) ∈ goTb := wt_9 (List.mem_of_getElem? (i := 113) rfl) rfl
theorem wml_RL_63 : Cond.methodLink RL 63 yX14_story ∈ goTb := wt_9 (List.mem_of_getElem? (i := 114) rfl) rfl
theorem wim_X14_story : Cond.instanceMethod yX14_story ∈ goTb := wt_9 (List.mem_of_getElem? (i := 115) rfl) rfl
theorem wse_X14_story : Cond.selects RX14 yX14_story yX14_story ∈ goTb := wt_9 (List.mem_of_getElem? (i := 116) rfl) rfl
theorem wco_X14_story : Cond.code yX14_story cX14_story 4 (Option.some Jvm.ClassFile.FieldType.int) ∈ goTb := wt_9 (List.mem_of_getElem? (i := 117) rfl) rfl
theorem wml_RX14_506 : Cond.methodLink RX14 506 yX14_isPerson ∈ goTb := wt_9 (List.mem_of_getElem? (i := 118) rfl) rfl
theorem wim_X14_isPerson : Cond.instanceMethod yX14_isPerson ∈ goTb := wt_9 (List.mem_of_getElem? (i := 120) rfl) rfl
theorem wco_X14_isPerson : Cond.code yX14_isPerson cX14_isPerson 2 (Option.some Jvm.ClassFile.FieldType.boolean) ∈ goTb := wt_9 (List.mem_of_getElem? (i := 121) rfl) rfl
theorem wml_RX14_509 : Cond.methodLink RX14 509 yX14_isHour ∈ goTb := wt_9 (List.mem_of_getElem? (i := 122) rfl) rfl
theorem wim_X14_isHour : Cond.instanceMethod yX14_isHour ∈ goTb := wt_9 (List.mem_of_getElem? (i := 124) rfl) rfl
theorem wco_X14_isHour : Cond.code yX14_isHour cX14_isHour 2 (Option.some Jvm.ClassFile.FieldType.boolean) ∈ goTb := wt_9 (List.mem_of_getElem? (i := 125) rfl) rfl
theorem wml_RX14_512 : Cond.methodLink RX14 512 yX13_place ∈ goTb := wt_9 (List.mem_of_getElem? (i := 126) rfl) rfl
theorem wim_X13_place : Cond.instanceMethod yX13_place ∈ goTb := wt_9 (List.mem_of_getElem? (i := 127) rfl) rfl
theorem wse_X13_place : Cond.selects RX13 yX13_place yX13_place ∈ goTb := wt_9 (List.mem_of_getElem? (i := 128) rfl) rfl
theorem wco_X13_place : Cond.code yX13_place cX13_place 4 (Option.some Jvm.ClassFile.FieldType.int) ∈ goTb := wt_9 (List.mem_of_getElem? (i := 129) rfl) rfl
theorem wml_RL_67 : Cond.methodLink RL 67 yX14_stories ∈ goTb := wt_9 (List.mem_of_getElem? (i := 130) rfl) rfl
theorem wim_X14_stories : Cond.instanceMethod yX14_stories ∈ goTb := wt_9 (List.mem_of_getElem? (i := 131) rfl) rfl
theorem wse_X14_stories : Cond.selects RX14 yX14_stories yX14_stories ∈ goTb := wt_9 (List.mem_of_getElem? (i := 132) rfl) rfl
theorem wco_X14_stories : Cond.code yX14_stories cX14_stories 2 (Option.some Jvm.ClassFile.FieldType.int) ∈ goTb := wt_9 (List.mem_of_getElem? (i := 133) rfl) rfl
theorem wml_RL_71 : Cond.methodLink RL 71 yX14_caseOf ∈ goTb := wt_9 (List.mem_of_getElem? (i := 134) rfl) rfl
theorem wim_X14_caseOf : Cond.instanceMethod yX14_caseOf ∈ goTb := wt_9 (List.mem_of_getElem? (i := 135) rfl) rfl
theorem wse_X14_caseOf : Cond.selects RX14 yX14_caseOf yX14_caseOf ∈ goTb := wt_9 (List.mem_of_getElem? (i := 136) rfl) rfl
theorem wco_X14_caseOf : Cond.code yX14_caseOf cX14_caseOf 3 (Option.some Jvm.ClassFile.FieldType.int) ∈ goTb := wt_9 (List.mem_of_getElem? (i := 137) rfl) rfl
theorem wml_RX14_514 : Cond.methodLink RX14 514 yX14_isCase ∈ goTb := wt_9 (List.mem_of_getElem? (i := 138) rfl) rfl
theorem wim_X14_isCase : Cond.instanceMethod yX14_isCase ∈ goTb := wt_9 (List.mem_of_getElem? (i := 140) rfl) rfl
theorem wco_X14_isCase : Cond.code yX14_isCase cX14_isCase 2 (Option.some Jvm.ClassFile.FieldType.boolean) ∈ goTb := wt_9 (List.mem_of_getElem? (i := 141) rfl) rfl
theorem wml_RX14_517 : Cond.methodLink RX14 517 yX13_storyOf ∈ goTb := wt_9 (List.mem_of_getElem? (i := 142) rfl) rfl
theorem wim_X13_storyOf : Cond.instanceMethod yX13_storyOf ∈ goTb := wt_9 (List.mem_of_getElem? (i := 143) rfl) rfl
theorem wse_X13_storyOf : Cond.selects RX13 yX13_storyOf yX13_storyOf ∈ goTb := wt_9 (List.mem_of_getElem? (i := 144) rfl) rfl
theorem wco_X13_storyOf : Cond.code yX13_storyOf cX13_storyOf 5 (Option.some Jvm.ClassFile.FieldType.int) ∈ goTb := wt_9 (List.mem_of_getElem? (i := 145) rfl) rfl
theorem wml_RL_75 : Cond.methodLink RL 75 yX14_at ∈ goTb := wt_9 (List.mem_of_getElem? (i := 146) rfl) rfl
theorem wim_X14_at : Cond.instanceMethod yX14_at ∈ goTb := wt_9 (List.mem_of_getElem? (i := 147) rfl) rfl
theorem wse_X14_at : Cond.selects RX14 yX14_at yX14_at ∈ goTb := wt_9 (List.mem_of_getElem? (i := 148) rfl) rfl
theorem wco_X14_at : Cond.code yX14_at cX14_at 4 (Option.some Jvm.ClassFile.FieldType.int) ∈ goTb := wt_9 (List.mem_of_getElem? (i := 149) rfl) rfl
theorem wml_RX14_482 : Cond.methodLink RX14 482 yX14_day ∈ goTb := wt_9 (List.mem_of_getElem? (i := 150) rfl) rfl
theorem wim_X14_day : Cond.instanceMethod yX14_day ∈ goTb := wt_9 (List.mem_of_getElem? (i := 152) rfl) rfl
theorem wco_X14_day : Cond.code yX14_day cX14_day 4 (Option.none : Option Jvm.ClassFile.FieldType) ∈ goTb := wt_9 (List.mem_of_getElem? (i := 153) rfl) rfl
theorem wml_RX14_475 : Cond.methodLink RX14 475 yX14_goatGoes ∈ goTb := wt_9 (List.mem_of_getElem? (i := 154) rfl) rfl
theorem wim_X14_goatGoes : Cond.instanceMethod yX14_goatGoes ∈ goTb := wt_9 (List.mem_of_getElem? (i := 156) rfl) rfl
theorem wco_X14_goatGoes : Cond.code yX14_goatGoes cX14_goatGoes 7 (Option.none : Option Jvm.ClassFile.FieldType) ∈ goTb := wt_9 (List.mem_of_getElem? (i := 157) rfl) rfl
theorem wml_RX14_457 : Cond.methodLink RX14 457 yX14_isOpen ∈ goTb := wt_9 (List.mem_of_getElem? (i := 158) rfl) rfl
theorem wim_X14_isOpen : Cond.instanceMethod yX14_isOpen ∈ goTb := wt_9 (List.mem_of_getElem? (i := 160) rfl) rfl
theorem wco_X14_isOpen : Cond.code yX14_isOpen cX14_isOpen 4 (Option.some Jvm.ClassFile.FieldType.boolean) ∈ goTb := wt_9 (List.mem_of_getElem? (i := 161) rfl) rfl
theorem wml_RX14_466 : Cond.methodLink RX14 466 yX14_bestFor ∈ goTb := wt_9 (List.mem_of_getElem? (i := 162) rfl) rfl
theorem wim_X14_bestFor : Cond.instanceMethod yX14_bestFor ∈ goTb := wt_9 (List.mem_of_getElem? (i := 164) rfl) rfl
theorem wco_X14_bestFor : Cond.code yX14_bestFor cX14_bestFor 6 (Option.some Jvm.ClassFile.FieldType.int) ∈ goTb := wt_9 (List.mem_of_getElem? (i := 165) rfl) rfl
theorem wml_RX14_460 : Cond.methodLink RX14 460 yX14_fears ∈ goTb := wt_9 (List.mem_of_getElem? (i := 166) rfl) rfl
theorem wim_X14_fears : Cond.instanceMethod yX14_fears ∈ goTb := wt_9 (List.mem_of_getElem? (i := 168) rfl) rfl
theorem wco_X14_fears : Cond.code yX14_fears cX14_fears 6 (Option.some Jvm.ClassFile.FieldType.boolean) ∈ goTb := wt_9 (List.mem_of_getElem? (i := 169) rfl) rfl
theorem wml_RX14_453 : Cond.methodLink RX14 453 yX13_placeIn ∈ goTb := wt_9 (List.mem_of_getElem? (i := 170) rfl) rfl
theorem wim_X13_placeIn : Cond.instanceMethod yX13_placeIn ∈ goTb := wt_9 (List.mem_of_getElem? (i := 171) rfl) rfl
theorem wse_X13_placeIn : Cond.selects RX13 yX13_placeIn yX13_placeIn ∈ goTb := wt_9 (List.mem_of_getElem? (i := 172) rfl) rfl
theorem wco_X13_placeIn : Cond.code yX13_placeIn cX13_placeIn 4 (Option.some Jvm.ClassFile.FieldType.int) ∈ goTb := wt_9 (List.mem_of_getElem? (i := 173) rfl) rfl
theorem wml_RX13_98 : Cond.methodLink RX13 98 yX13_storyOf ∈ goTb := wt_9 (List.mem_of_getElem? (i := 174) rfl) rfl
theorem wml_RX13_102 : Cond.methodLink RX13 102 yX13_place ∈ goTb := wt_9 (List.mem_of_getElem? (i := 175) rfl) rfl
theorem wml_RX14_463 : Cond.methodLink RX14 463 yX14_worth ∈ goTb := wt_9 (List.mem_of_getElem? (i := 176) rfl) rfl
theorem wim_X14_worth : Cond.instanceMethod yX14_worth ∈ goTb := wt_9 (List.mem_of_getElem? (i := 178) rfl) rfl
theorem wco_X14_worth : Cond.code yX14_worth cX14_worth 5 (Option.some Jvm.ClassFile.FieldType.int) ∈ goTb := wt_9 (List.mem_of_getElem? (i := 179) rfl) rfl
theorem wml_RX14_469 : Cond.methodLink RX14 469 yX14_eats ∈ goTb := wt_9 (List.mem_of_getElem? (i := 180) rfl) rfl
theorem wim_X14_eats : Cond.instanceMethod yX14_eats ∈ goTb := wt_9 (List.mem_of_getElem? (i := 182) rfl) rfl
theorem wco_X14_eats : Cond.code yX14_eats cX14_eats 6 (Option.none : Option Jvm.ClassFile.FieldType) ∈ goTb := wt_9 (List.mem_of_getElem? (i := 183) rfl) rfl
theorem wml_RX14_472 : Cond.methodLink RX14 472 yX14_plantAt ∈ goTb := wt_9 (List.mem_of_getElem? (i := 184) rfl) rfl
theorem wim_X14_plantAt : Cond.instanceMethod yX14_plantAt ∈ goTb := wt_9 (List.mem_of_getElem? (i := 186) rfl) rfl
theorem wco_X14_plantAt : Cond.code yX14_plantAt cX14_plantAt 4 (Option.some Jvm.ClassFile.FieldType.int) ∈ goTb := wt_9 (List.mem_of_getElem? (i := 187) rfl) rfl
theorem wml_RL_79 : Cond.methodLink RL 79 yX14_ate ∈ goTb := wt_9 (List.mem_of_getElem? (i := 188) rfl) rfl
theorem wim_X14_ate : Cond.instanceMethod yX14_ate ∈ goTb := wt_9 (List.mem_of_getElem? (i := 189) rfl) rfl
theorem wse_X14_ate : Cond.selects RX14 yX14_ate yX14_ate ∈ goTb := wt_9 (List.mem_of_getElem? (i := 190) rfl) rfl
theorem wco_X14_ate : Cond.code yX14_ate cX14_ate 4 (Option.some Jvm.ClassFile.FieldType.int) ∈ goTb := wt_9 (List.mem_of_getElem? (i := 191) rfl) rfl
theorem wml_RX14_520 : Cond.methodLink RX14 520 yX14_ateOf ∈ goTb := wt_9 (List.mem_of_getElem? (i := 192) rfl) rfl
theorem wim_X14_ateOf : Cond.instanceMethod yX14_ateOf ∈ goTb := wt_9 (List.mem_of_getElem? (i := 194) rfl) rfl
theorem wco_X14_ateOf : Cond.code yX14_ateOf cX14_ateOf 5 (Option.some Jvm.ClassFile.FieldType.int) ∈ goTb := wt_9 (List.mem_of_getElem? (i := 195) rfl) rfl
theorem wml_RL_84 : Cond.methodLink RL 84 yX14_drops ∈ goTb := wt_9 (List.mem_of_getElem? (i := 196) rfl) rfl
theorem wim_X14_drops : Cond.instanceMethod yX14_drops ∈ goTb := wt_9 (List.mem_of_getElem? (i := 197) rfl) rfl
theorem wse_X14_drops : Cond.selects RX14 yX14_drops yX14_drops ∈ goTb := wt_9 (List.mem_of_getElem? (i := 198) rfl) rfl
theorem wco_X14_drops : Cond.code yX14_drops cX14_drops 5 (Option.some Jvm.ClassFile.FieldType.int) ∈ goTb := wt_9 (List.mem_of_getElem? (i := 199) rfl) rfl
theorem wml_RX14_479 : Cond.methodLink RX14 479 yX14_dropped ∈ goTb := wt_9 (List.mem_of_getElem? (i := 200) rfl) rfl
theorem wim_X14_dropped : Cond.instanceMethod yX14_dropped ∈ goTb := wt_9 (List.mem_of_getElem? (i := 202) rfl) rfl
theorem wco_X14_dropped : Cond.code yX14_dropped cX14_dropped 6 (Option.some Jvm.ClassFile.FieldType.int) ∈ goTb := wt_9 (List.mem_of_getElem? (i := 203) rfl) rfl
theorem wml_RL_88 : Cond.methodLink RL 88 yX14_flees ∈ goTb := wt_9 (List.mem_of_getElem? (i := 204) rfl) rfl
theorem wim_X14_flees : Cond.instanceMethod yX14_flees ∈ goTb := wt_9 (List.mem_of_getElem? (i := 205) rfl) rfl
theorem wse_X14_flees : Cond.selects RX14 yX14_flees yX14_flees ∈ goTb := wt_9 (List.mem_of_getElem? (i := 206) rfl) rfl
theorem wco_X14_flees : Cond.code yX14_flees cX14_flees 3 (Option.some Jvm.ClassFile.FieldType.int) ∈ goTb := wt_9 (List.mem_of_getElem? (i := 207) rfl) rfl
theorem wml_RL_92 : Cond.methodLink RL 92 yX14_left ∈ goTb := wt_9 (List.mem_of_getElem? (i := 208) rfl) rfl
theorem wim_X14_left : Cond.instanceMethod yX14_left ∈ goTb := wt_9 (List.mem_of_getElem? (i := 209) rfl) rfl
theorem wse_X14_left : Cond.selects RX14 yX14_left yX14_left ∈ goTb := wt_9 (List.mem_of_getElem? (i := 210) rfl) rfl
theorem wco_X14_left : Cond.code yX14_left cX14_left 4 (Option.some Jvm.ClassFile.FieldType.int) ∈ goTb := wt_9 (List.mem_of_getElem? (i := 211) rfl) rfl
theorem wml_RL_96 : Cond.methodLink RL 96 yX14_met ∈ goTb := wt_9 (List.mem_of_getElem? (i := 212) rfl) rfl
theorem wim_X14_met : Cond.instanceMethod yX14_met ∈ goTb := wt_9 (List.mem_of_getElem? (i := 213) rfl) rfl
theorem wse_X14_met : Cond.selects RX14 yX14_met yX14_met ∈ goTb := wt_9 (List.mem_of_getElem? (i := 214) rfl) rfl
theorem wco_X14_met : Cond.code yX14_met cX14_met 6 (Option.some Jvm.ClassFile.FieldType.int) ∈ goTb := wt_9 (List.mem_of_getElem? (i := 215) rfl) rfl
theorem wml_RL_100 : Cond.methodLink RL 100 yX14_isTrue ∈ goTb := wt_9 (List.mem_of_getElem? (i := 216) rfl) rfl
theorem wim_X14_isTrue : Cond.instanceMethod yX14_isTrue ∈ goTb := wt_9 (List.mem_of_getElem? (i := 217) rfl) rfl
theorem wse_X14_isTrue : Cond.selects RX14 yX14_isTrue yX14_isTrue ∈ goTb := wt_9 (List.mem_of_getElem? (i := 218) rfl) rfl
theorem wco_X14_isTrue : Cond.code yX14_isTrue cX14_isTrue 3 (Option.some Jvm.ClassFile.FieldType.int) ∈ goTb := wt_9 (List.mem_of_getElem? (i := 219) rfl) rfl
theorem wml_RX14_485 : Cond.methodLink RX14 485 yX14_holdsNow ∈ goTb := wt_9 (List.mem_of_getElem? (i := 220) rfl) rfl
theorem wim_X14_holdsNow : Cond.instanceMethod yX14_holdsNow ∈ goTb := wt_9 (List.mem_of_getElem? (i := 222) rfl) rfl
theorem wco_X14_holdsNow : Cond.code yX14_holdsNow cX14_holdsNow 3 (Option.some Jvm.ClassFile.FieldType.boolean) ∈ goTb := wt_9 (List.mem_of_getElem? (i := 223) rfl) rfl
theorem wml_RL_104 : Cond.methodLink RL 104 yX14_fits ∈ goTb := wt_9 (List.mem_of_getElem? (i := 224) rfl) rfl
theorem wim_X14_fits : Cond.instanceMethod yX14_fits ∈ goTb := wt_9 (List.mem_of_getElem? (i := 225) rfl) rfl
theorem wse_X14_fits : Cond.selects RX14 yX14_fits yX14_fits ∈ goTb := wt_9 (List.mem_of_getElem? (i := 226) rfl) rfl
theorem wco_X14_fits : Cond.code yX14_fits cX14_fits 3 (Option.some Jvm.ClassFile.FieldType.int) ∈ goTb := wt_9 (List.mem_of_getElem? (i := 227) rfl) rfl
theorem wml_RX14_523 : Cond.methodLink RX14 523 yX14_laysHonest ∈ goTb := wt_9 (List.mem_of_getElem? (i := 228) rfl) rfl
theorem wim_X14_laysHonest : Cond.instanceMethod yX14_laysHonest ∈ goTb := wt_9 (List.mem_of_getElem? (i := 230) rfl) rfl
theorem wco_X14_laysHonest : Cond.code yX14_laysHonest cX14_laysHonest 3 (Option.none : Option Jvm.ClassFile.FieldType) ∈ goTb := wt_9 (List.mem_of_getElem? (i := 231) rfl) rfl
theorem wml_RX14_526 : Cond.methodLink RX14 526 yX14_heard ∈ goTb := wt_9 (List.mem_of_getElem? (i := 232) rfl) rfl
theorem wim_X14_heard : Cond.instanceMethod yX14_heard ∈ goTb := wt_9 (List.mem_of_getElem? (i := 234) rfl) rfl
theorem wco_X14_heard : Cond.code yX14_heard cX14_heard 1 (Option.some Jvm.ClassFile.FieldType.int) ∈ goTb := wt_9 (List.mem_of_getElem? (i := 235) rfl) rfl
theorem wml_RX14_488 : Cond.methodLink RX14 488 yX14_allGoats ∈ goTb := wt_9 (List.mem_of_getElem? (i := 236) rfl) rfl
theorem wim_X14_allGoats : Cond.instanceMethod yX14_allGoats ∈ goTb := wt_9 (List.mem_of_getElem? (i := 238) rfl) rfl
theorem wco_X14_allGoats : Cond.code yX14_allGoats cX14_allGoats 1 (Option.some Jvm.ClassFile.FieldType.int) ∈ goTb := wt_9 (List.mem_of_getElem? (i := 239) rfl) rfl
theorem wml_RX14_529 : Cond.methodLink RX14 529 yX14_areTrue ∈ goTb := wt_10 (List.mem_of_getElem? (i := 0) rfl) rfl
theorem wim_X14_areTrue : Cond.instanceMethod yX14_areTrue ∈ goTb := wt_10 (List.mem_of_getElem? (i := 2) rfl) rfl
theorem wco_X14_areTrue : Cond.code yX14_areTrue cX14_areTrue 3 (Option.some Jvm.ClassFile.FieldType.boolean) ∈ goTb := wt_10 (List.mem_of_getElem? (i := 3) rfl) rfl
theorem wml_RL_108 : Cond.methodLink RL 108 yX14_fit ∈ goTb := wt_10 (List.mem_of_getElem? (i := 4) rfl) rfl
theorem wim_X14_fit : Cond.instanceMethod yX14_fit ∈ goTb := wt_10 (List.mem_of_getElem? (i := 5) rfl) rfl
theorem wse_X14_fit : Cond.selects RX14 yX14_fit yX14_fit ∈ goTb := wt_10 (List.mem_of_getElem? (i := 6) rfl) rfl
theorem wco_X14_fit : Cond.code yX14_fit cX14_fit 4 (Option.some Jvm.ClassFile.FieldType.int) ∈ goTb := wt_10 (List.mem_of_getElem? (i := 7) rfl) rfl
theorem wml_RL_112 : Cond.methodLink RL 112 yX14_could ∈ goTb := wt_10 (List.mem_of_getElem? (i := 8) rfl) rfl
theorem wim_X14_could : Cond.instanceMethod yX14_could ∈ goTb := wt_10 (List.mem_of_getElem? (i := 9) rfl) rfl
theorem wse_X14_could : Cond.selects RX14 yX14_could yX14_could ∈ goTb := wt_10 (List.mem_of_getElem? (i := 10) rfl) rfl
theorem wco_X14_could : Cond.code yX14_could cX14_could 4 (Option.some Jvm.ClassFile.FieldType.int) ∈ goTb := wt_10 (List.mem_of_getElem? (i := 11) rfl) rfl
theorem wml_RX14_532 : Cond.methodLink RX14 532 yX14_refusesPerson ∈ goTb := wt_10 (List.mem_of_getElem? (i := 12) rfl) rfl
theorem wim_X14_refusesPerson : Cond.instanceMethod yX14_refusesPerson ∈ goTb := wt_10 (List.mem_of_getElem? (i := 14) rfl) rfl
theorem wco_X14_refusesPerson : Cond.code yX14_refusesPerson cX14_refusesPerson 3 (Option.some Jvm.ClassFile.FieldType.int) ∈ goTb := wt_10 (List.mem_of_getElem? (i := 15) rfl) rfl
theorem wml_RX14_535 : Cond.methodLink RX14 535 yX14_couldBe ∈ goTb := wt_10 (List.mem_of_getElem? (i := 16) rfl) rfl
theorem wim_X14_couldBe : Cond.instanceMethod yX14_couldBe ∈ goTb := wt_10 (List.mem_of_getElem? (i := 18) rfl) rfl
theorem wco_X14_couldBe : Cond.code yX14_couldBe cX14_couldBe 6 (Option.some Jvm.ClassFile.FieldType.int) ∈ goTb := wt_10 (List.mem_of_getElem? (i := 19) rfl) rfl
theorem wml_RL_116 : Cond.methodLink RL 116 yX14_surely ∈ goTb := wt_10 (List.mem_of_getElem? (i := 20) rfl) rfl
theorem wim_X14_surely : Cond.instanceMethod yX14_surely ∈ goTb := wt_10 (List.mem_of_getElem? (i := 21) rfl) rfl
theorem wse_X14_surely : Cond.selects RX14 yX14_surely yX14_surely ∈ goTb := wt_10 (List.mem_of_getElem? (i := 22) rfl) rfl
theorem wco_X14_surely : Cond.code yX14_surely cX14_surely 6 (Option.some Jvm.ClassFile.FieldType.int) ∈ goTb := wt_10 (List.mem_of_getElem? (i := 23) rfl) rfl
theorem wml_RL_120 : Cond.methodLink RL 120 yX14_lies ∈ goTb := wt_10 (List.mem_of_getElem? (i := 24) rfl) rfl
theorem wim_X14_lies : Cond.instanceMethod yX14_lies ∈ goTb := wt_10 (List.mem_of_getElem? (i := 25) rfl) rfl
theorem wse_X14_lies : Cond.selects RX14 yX14_lies yX14_lies ∈ goTb := wt_10 (List.mem_of_getElem? (i := 26) rfl) rfl
theorem wco_X14_lies : Cond.code yX14_lies cX14_lies 4 (Option.some Jvm.ClassFile.FieldType.int) ∈ goTb := wt_10 (List.mem_of_getElem? (i := 27) rfl) rfl
theorem wml_RL_124 : Cond.methodLink RL 124 yX14_falseOnes ∈ goTb := wt_10 (List.mem_of_getElem? (i := 28) rfl) rfl
theorem wim_X14_falseOnes : Cond.instanceMethod yX14_falseOnes ∈ goTb := wt_10 (List.mem_of_getElem? (i := 29) rfl) rfl
theorem wse_X14_falseOnes : Cond.selects RX14 yX14_falseOnes yX14_falseOnes ∈ goTb := wt_10 (List.mem_of_getElem? (i := 30) rfl) rfl
theorem wco_X14_falseOnes : Cond.code yX14_falseOnes cX14_falseOnes 3 (Option.some Jvm.ClassFile.FieldType.int) ∈ goTb := wt_10 (List.mem_of_getElem? (i := 31) rfl) rfl
theorem wml_RX14_538 : Cond.methodLink RX14 538 yX14_anyFits ∈ goTb := wt_10 (List.mem_of_getElem? (i := 32) rfl) rfl
theorem wim_X14_anyFits : Cond.instanceMethod yX14_anyFits ∈ goTb := wt_10 (List.mem_of_getElem? (i := 34) rfl) rfl
theorem wco_X14_anyFits : Cond.code yX14_anyFits cX14_anyFits 3 (Option.some Jvm.ClassFile.FieldType.boolean) ∈ goTb := wt_10 (List.mem_of_getElem? (i := 35) rfl) rfl
theorem wml_RL_128 : Cond.methodLink RL 128 yX14_odds ∈ goTb := wt_10 (List.mem_of_getElem? (i := 36) rfl) rfl
theorem wim_X14_odds : Cond.instanceMethod yX14_odds ∈ goTb := wt_10 (List.mem_of_getElem? (i := 37) rfl) rfl
theorem wse_X14_odds : Cond.selects RX14 yX14_odds yX14_odds ∈ goTb := wt_10 (List.mem_of_getElem? (i := 38) rfl) rfl
theorem wco_X14_odds : Cond.code yX14_odds cX14_odds 2 (Option.some Jvm.ClassFile.FieldType.int) ∈ goTb := wt_10 (List.mem_of_getElem? (i := 39) rfl) rfl
theorem wml_RX14_541 : Cond.methodLink RX14 541 yX14_oddsOf ∈ goTb := wt_10 (List.mem_of_getElem? (i := 40) rfl) rfl
theorem wim_X14_oddsOf : Cond.instanceMethod yX14_oddsOf ∈ goTb := wt_10 (List.mem_of_getElem? (i := 42) rfl) rfl
theorem wco_X14_oddsOf : Cond.code yX14_oddsOf cX14_oddsOf 6 (Option.some Jvm.ClassFile.FieldType.int) ∈ goTb := wt_10 (List.mem_of_getElem? (i := 43) rfl) rfl
theorem wml_RL_132 : Cond.methodLink RL 132 yX14_likeliest ∈ goTb := wt_10 (List.mem_of_getElem? (i := 44) rfl) rfl
theorem wim_X14_likeliest : Cond.instanceMethod yX14_likeliest ∈ goTb := wt_10 (List.mem_of_getElem? (i := 45) rfl) rfl
theorem wse_X14_likeliest : Cond.selects RX14 yX14_likeliest yX14_likeliest ∈ goTb := wt_10 (List.mem_of_getElem? (i := 46) rfl) rfl
theorem wco_X14_likeliest : Cond.code yX14_likeliest cX14_likeliest 3 (Option.some Jvm.ClassFile.FieldType.int) ∈ goTb := wt_10 (List.mem_of_getElem? (i := 47) rfl) rfl
theorem wml_RL_136 : Cond.methodLink RL 136 yX14_proved ∈ goTb := wt_10 (List.mem_of_getElem? (i := 48) rfl) rfl
theorem wim_X14_proved : Cond.instanceMethod yX14_proved ∈ goTb := wt_10 (List.mem_of_getElem? (i := 49) rfl) rfl
theorem wse_X14_proved : Cond.selects RX14 yX14_proved yX14_proved ∈ goTb := wt_10 (List.mem_of_getElem? (i := 50) rfl) rfl
theorem wco_X14_proved : Cond.code yX14_proved cX14_proved 7 (Option.some Jvm.ClassFile.FieldType.int) ∈ goTb := wt_10 (List.mem_of_getElem? (i := 51) rfl) rfl
theorem wml_RL_140 : Cond.methodLink RL 140 yX14_ask ∈ goTb := wt_10 (List.mem_of_getElem? (i := 52) rfl) rfl
theorem wim_X14_ask : Cond.instanceMethod yX14_ask ∈ goTb := wt_10 (List.mem_of_getElem? (i := 53) rfl) rfl
theorem wse_X14_ask : Cond.selects RX14 yX14_ask yX14_ask ∈ goTb := wt_10 (List.mem_of_getElem? (i := 54) rfl) rfl
theorem wco_X14_ask : Cond.code yX14_ask cX14_ask 2 (Option.some Jvm.ClassFile.FieldType.int) ∈ goTb := wt_10 (List.mem_of_getElem? (i := 55) rfl) rfl
theorem wml_RX14_550 : Cond.methodLink RX14 550 yX14_asks ∈ goTb := wt_10 (List.mem_of_getElem? (i := 56) rfl) rfl
theorem wim_X14_asks : Cond.instanceMethod yX14_asks ∈ goTb := wt_10 (List.mem_of_getElem? (i := 58) rfl) rfl
theorem wco_X14_asks : Cond.code yX14_asks cX14_asks 7 (Option.some Jvm.ClassFile.FieldType.int) ∈ goTb := wt_10 (List.mem_of_getElem? (i := 59) rfl) rfl
theorem wml_RL_144 : Cond.methodLink RL 144 yX14_askMost ∈ goTb := wt_10 (List.mem_of_getElem? (i := 60) rfl) rfl
theorem wim_X14_askMost : Cond.instanceMethod yX14_askMost ∈ goTb := wt_10 (List.mem_of_getElem? (i := 61) rfl) rfl
theorem wse_X14_askMost : Cond.selects RX14 yX14_askMost yX14_askMost ∈ goTb := wt_10 (List.mem_of_getElem? (i := 62) rfl) rfl
theorem wco_X14_askMost : Cond.code yX14_askMost cX14_askMost 2 (Option.some Jvm.ClassFile.FieldType.int) ∈ goTb := wt_10 (List.mem_of_getElem? (i := 63) rfl) rfl
theorem wml_RL_148 : Cond.methodLink RL 148 yX14_led ∈ goTb := wt_10 (List.mem_of_getElem? (i := 64) rfl) rfl
theorem wim_X14_led : Cond.instanceMethod yX14_led ∈ goTb := wt_10 (List.mem_of_getElem? (i := 65) rfl) rfl
theorem wse_X14_led : Cond.selects RX14 yX14_led yX14_led ∈ goTb := wt_10 (List.mem_of_getElem? (i := 66) rfl) rfl
theorem wco_X14_led : Cond.code yX14_led cX14_led 6 (Option.some Jvm.ClassFile.FieldType.int) ∈ goTb := wt_10 (List.mem_of_getElem? (i := 67) rfl) rfl
theorem wml_RX14_568 : Cond.methodLink RX14 568 yX14_refusesLed ∈ goTb := wt_10 (List.mem_of_getElem? (i := 68) rfl) rfl
theorem wim_X14_refusesLed : Cond.instanceMethod yX14_refusesLed ∈ goTb := wt_10 (List.mem_of_getElem? (i := 70) rfl) rfl
theorem wco_X14_refusesLed : Cond.code yX14_refusesLed cX14_refusesLed 5 (Option.some Jvm.ClassFile.FieldType.int) ∈ goTb := wt_10 (List.mem_of_getElem? (i := 71) rfl) rfl
theorem wml_RX14_572 : Cond.methodLink RX14 572 yX14_fewest ∈ goTb := wt_10 (List.mem_of_getElem? (i := 72) rfl) rfl
theorem wim_X14_fewest : Cond.instanceMethod yX14_fewest ∈ goTb := wt_10 (List.mem_of_getElem? (i := 74) rfl) rfl
theorem wco_X14_fewest : Cond.code yX14_fewest cX14_fewest 9 (Option.some Jvm.ClassFile.FieldType.int) ∈ goTb := wt_10 (List.mem_of_getElem? (i := 75) rfl) rfl
theorem wml_RX14_553 : Cond.methodLink RX14 553 yX14_isThere ∈ goTb := wt_10 (List.mem_of_getElem? (i := 76) rfl) rfl
theorem wim_X14_isThere : Cond.instanceMethod yX14_isThere ∈ goTb := wt_10 (List.mem_of_getElem? (i := 78) rfl) rfl
theorem wco_X14_isThere : Cond.code yX14_isThere cX14_isThere 5 (Option.some Jvm.ClassFile.FieldType.boolean) ∈ goTb := wt_10 (List.mem_of_getElem? (i := 79) rfl) rfl
theorem wml_RX14_556 : Cond.methodLink RX14 556 yX14_isSpot ∈ goTb := wt_10 (List.mem_of_getElem? (i := 80) rfl) rfl
theorem wim_X14_isSpot : Cond.instanceMethod yX14_isSpot ∈ goTb := wt_10 (List.mem_of_getElem? (i := 82) rfl) rfl
theorem wco_X14_isSpot : Cond.code yX14_isSpot cX14_isSpot 3 (Option.some Jvm.ClassFile.FieldType.boolean) ∈ goTb := wt_10 (List.mem_of_getElem? (i := 83) rfl) rfl
theorem wml_RX14_559 : Cond.methodLink RX14 559 yX14_turn ∈ goTb := wt_10 (List.mem_of_getElem? (i := 84) rfl) rfl
theorem wim_X14_turn : Cond.instanceMethod yX14_turn ∈ goTb := wt_10 (List.mem_of_getElem? (i := 86) rfl) rfl
theorem wco_X14_turn : Cond.code yX14_turn cX14_turn 3 (Option.none : Option Jvm.ClassFile.FieldType) ∈ goTb := wt_10 (List.mem_of_getElem? (i := 87) rfl) rfl
theorem wml_RL_152 : Cond.methodLink RL 152 yX14_ledAt ∈ goTb := wt_10 (List.mem_of_getElem? (i := 88) rfl) rfl
theorem wim_X14_ledAt : Cond.instanceMethod yX14_ledAt ∈ goTb := wt_10 (List.mem_of_getElem? (i := 89) rfl) rfl
theorem wse_X14_ledAt : Cond.selects RX14 yX14_ledAt yX14_ledAt ∈ goTb := wt_10 (List.mem_of_getElem? (i := 90) rfl) rfl
theorem wco_X14_ledAt : Cond.code yX14_ledAt cX14_ledAt 9 (Option.some Jvm.ClassFile.FieldType.int) ∈ goTb := wt_10 (List.mem_of_getElem? (i := 91) rfl) rfl
theorem wml_RL_156 : Cond.methodLink RL 156 yX14_scared ∈ goTb := wt_10 (List.mem_of_getElem? (i := 92) rfl) rfl
theorem wim_X14_scared : Cond.instanceMethod yX14_scared ∈ goTb := wt_10 (List.mem_of_getElem? (i := 93) rfl) rfl
theorem wse_X14_scared : Cond.selects RX14 yX14_scared yX14_scared ∈ goTb := wt_10 (List.mem_of_getElem? (i := 94) rfl) rfl
theorem wco_X14_scared : Cond.code yX14_scared cX14_scared 6 (Option.some Jvm.ClassFile.FieldType.int) ∈ goTb := wt_10 (List.mem_of_getElem? (i := 95) rfl) rfl
theorem wml_RL_160 : Cond.methodLink RL 160 yX14_follows ∈ goTb := wt_10 (List.mem_of_getElem? (i := 96) rfl) rfl
theorem wim_X14_follows : Cond.instanceMethod yX14_follows ∈ goTb := wt_10 (List.mem_of_getElem? (i := 97) rfl) rfl
theorem wse_X14_follows : Cond.selects RX14 yX14_follows yX14_follows ∈ goTb := wt_10 (List.mem_of_getElem? (i := 98) rfl) rfl
theorem wco_X14_follows : Cond.code yX14_follows cX14_follows 2 (Option.some Jvm.ClassFile.FieldType.int) ∈ goTb := wt_10 (List.mem_of_getElem? (i := 99) rfl) rfl
theorem wml_RX14_579 : Cond.methodLink RX14 579 yX14_isFact ∈ goTb := wt_10 (List.mem_of_getElem? (i := 100) rfl) rfl
theorem wim_X14_isFact : Cond.instanceMethod yX14_isFact ∈ goTb := wt_10 (List.mem_of_getElem? (i := 102) rfl) rfl
theorem wco_X14_isFact : Cond.code yX14_isFact cX14_isFact 2 (Option.some Jvm.ClassFile.FieldType.boolean) ∈ goTb := wt_10 (List.mem_of_getElem? (i := 103) rfl) rfl
theorem wml_RX14_582 : Cond.methodLink RX14 582 yX14_followsNow ∈ goTb := wt_10 (List.mem_of_getElem? (i := 104) rfl) rfl
theorem wim_X14_followsNow : Cond.instanceMethod yX14_followsNow ∈ goTb := wt_10 (List.mem_of_getElem? (i := 106) rfl) rfl
theorem wco_X14_followsNow : Cond.code yX14_followsNow cX14_followsNow 2 (Option.some Jvm.ClassFile.FieldType.boolean) ∈ goTb := wt_10 (List.mem_of_getElem? (i := 107) rfl) rfl
theorem wml_RX14_576 : Cond.methodLink RX14 576 yX14_following ∈ goTb := wt_10 (List.mem_of_getElem? (i := 108) rfl) rfl
theorem wim_X14_following : Cond.instanceMethod yX14_following ∈ goTb := wt_10 (List.mem_of_getElem? (i := 110) rfl) rfl
theorem wco_X14_following : Cond.code yX14_following cX14_following 7 (Option.some Jvm.ClassFile.FieldType.int) ∈ goTb := wt_10 (List.mem_of_getElem? (i := 111) rfl) rfl
theorem wml_RL_164 : Cond.methodLink RL 164 yX14_step ∈ goTb := wt_10 (List.mem_of_getElem? (i := 112) rfl) rfl
theorem wim_X14_step : Cond.instanceMethod yX14_step ∈ goTb := wt_10 (List.mem_of_getElem? (i := 113) rfl) rfl
theorem wse_X14_step : Cond.selects RX14 yX14_step yX14_step ∈ goTb := wt_10 (List.mem_of_getElem? (i := 114) rfl) rfl
theorem wco_X14_step : Cond.code yX14_step cX14_step 5 (Option.some Jvm.ClassFile.FieldType.int) ∈ goTb := wt_10 (List.mem_of_getElem? (i := 115) rfl) rfl
theorem wml_RL_168 : Cond.methodLink RL 168 yX14_needs ∈ goTb := wt_10 (List.mem_of_getElem? (i := 116) rfl) rfl
theorem wim_X14_needs : Cond.instanceMethod yX14_needs ∈ goTb := wt_10 (List.mem_of_getElem? (i := 117) rfl) rfl
theorem wse_X14_needs : Cond.selects RX14 yX14_needs yX14_needs ∈ goTb := wt_10 (List.mem_of_getElem? (i := 118) rfl) rfl
theorem wco_X14_needs : Cond.code yX14_needs cX14_needs 4 (Option.some Jvm.ClassFile.FieldType.int) ∈ goTb := wt_10 (List.mem_of_getElem? (i := 119) rfl) rfl
theorem wml_RL_172 : Cond.methodLink RL 172 yX14_enough ∈ goTb := wt_10 (List.mem_of_getElem? (i := 120) rfl) rfl
theorem wim_X14_enough : Cond.instanceMethod yX14_enough ∈ goTb := wt_10 (List.mem_of_getElem? (i := 121) rfl) rfl
theorem wse_X14_enough : Cond.selects RX14 yX14_enough yX14_enough ∈ goTb := wt_10 (List.mem_of_getElem? (i := 122) rfl) rfl
theorem wco_X14_enough : Cond.code yX14_enough cX14_enough 4 (Option.some Jvm.ClassFile.FieldType.int) ∈ goTb := wt_10 (List.mem_of_getElem? (i := 123) rfl) rfl
theorem wml_RL_176 : Cond.methodLink RL 176 yX14_cheese ∈ goTb := wt_10 (List.mem_of_getElem? (i := 124) rfl) rfl
theorem wim_X14_cheese : Cond.instanceMethod yX14_cheese ∈ goTb := wt_10 (List.mem_of_getElem? (i := 125) rfl) rfl
theorem wse_X14_cheese : Cond.selects RX14 yX14_cheese yX14_cheese ∈ goTb := wt_10 (List.mem_of_getElem? (i := 126) rfl) rfl
theorem wco_X14_cheese : Cond.code yX14_cheese cX14_cheese 5 (Option.some Jvm.ClassFile.FieldType.int) ∈ goTb := wt_10 (List.mem_of_getElem? (i := 127) rfl) rfl
theorem wml_RX14_585 : Cond.methodLink RX14 585 yX14_refusesCheese ∈ goTb := wt_10 (List.mem_of_getElem? (i := 128) rfl) rfl
theorem wim_X14_refusesCheese : Cond.instanceMethod yX14_refusesCheese ∈ goTb := wt_10 (List.mem_of_getElem? (i := 130) rfl) rfl
theorem wco_X14_refusesCheese : Cond.code yX14_refusesCheese cX14_refusesCheese 2 (Option.some Jvm.ClassFile.FieldType.int) ∈ goTb := wt_10 (List.mem_of_getElem? (i := 131) rfl) rfl
theorem wml_RX14_588 : Cond.methodLink RX14 588 yX14_isCheese ∈ goTb := wt_10 (List.mem_of_getElem? (i := 132) rfl) rfl
theorem wim_X14_isCheese : Cond.instanceMethod yX14_isCheese ∈ goTb := wt_10 (List.mem_of_getElem? (i := 134) rfl) rfl
theorem wco_X14_isCheese : Cond.code yX14_isCheese cX14_isCheese 5 (Option.some Jvm.ClassFile.FieldType.boolean) ∈ goTb := wt_10 (List.mem_of_getElem? (i := 135) rfl) rfl
theorem wml_RL_180 : Cond.methodLink RL 180 yX14_cheeseOf ∈ goTb := wt_10 (List.mem_of_getElem? (i := 136) rfl) rfl
theorem wim_X14_cheeseOf : Cond.instanceMethod yX14_cheeseOf ∈ goTb := wt_10 (List.mem_of_getElem? (i := 137) rfl) rfl
theorem wse_X14_cheeseOf : Cond.selects RX14 yX14_cheeseOf yX14_cheeseOf ∈ goTb := wt_10 (List.mem_of_getElem? (i := 138) rfl) rfl
theorem wco_X14_cheeseOf : Cond.code yX14_cheeseOf cX14_cheeseOf 4 (Option.some Jvm.ClassFile.FieldType.int) ∈ goTb := wt_10 (List.mem_of_getElem? (i := 139) rfl) rfl
theorem wml_RL_185 : Cond.methodLink RL 185 yX14_appeals ∈ goTb := wt_10 (List.mem_of_getElem? (i := 140) rfl) rfl
theorem wim_X14_appeals : Cond.instanceMethod yX14_appeals ∈ goTb := wt_10 (List.mem_of_getElem? (i := 141) rfl) rfl
theorem wse_X14_appeals : Cond.selects RX14 yX14_appeals yX14_appeals ∈ goTb := wt_10 (List.mem_of_getElem? (i := 142) rfl) rfl
theorem wco_X14_appeals : Cond.code yX14_appeals cX14_appeals 1 (Option.some Jvm.ClassFile.FieldType.long) ∈ goTb := wt_10 (List.mem_of_getElem? (i := 143) rfl) rfl
theorem wml_RX14_604 : Cond.methodLink RX14 604 yX14_leastMean ∈ goTb := wt_10 (List.mem_of_getElem? (i := 144) rfl) rfl
theorem wim_X14_leastMean : Cond.instanceMethod yX14_leastMean ∈ goTb := wt_10 (List.mem_of_getElem? (i := 146) rfl) rfl
theorem wco_X14_leastMean : Cond.code yX14_leastMean cX14_leastMean 7 (Option.some Jvm.ClassFile.FieldType.long) ∈ goTb := wt_10 (List.mem_of_getElem? (i := 147) rfl) rfl
theorem wcJ_RX14_596 : Cond.constantLong RX14 596 (-1 : Int64) ∈ goTb := wt_10 (List.mem_of_getElem? (i := 148) rfl) rfl
theorem wml_RX14_598 : Cond.methodLink RX14 598 yX14_meanOf ∈ goTb := wt_10 (List.mem_of_getElem? (i := 149) rfl) rfl
theorem wim_X14_meanOf : Cond.instanceMethod yX14_meanOf ∈ goTb := wt_10 (List.mem_of_getElem? (i := 151) rfl) rfl
theorem wco_X14_meanOf : Cond.code yX14_meanOf cX14_meanOf 7 (Option.some Jvm.ClassFile.FieldType.long) ∈ goTb := wt_10 (List.mem_of_getElem? (i := 152) rfl) rfl
theorem wcJ_RX14_591 : Cond.constantLong RX14 591 (10 : Int64) ∈ goTb := wt_10 (List.mem_of_getElem? (i := 153) rfl) rfl
theorem wml_RX14_601 : Cond.methodLink RX14 601 yX14_turns ∈ goTb := wt_10 (List.mem_of_getElem? (i := 154) rfl) rfl
theorem wim_X14_turns : Cond.instanceMethod yX14_turns ∈ goTb := wt_10 (List.mem_of_getElem? (i := 156) rfl) rfl
theorem wco_X14_turns : Cond.code yX14_turns cX14_turns 6 (Option.some Jvm.ClassFile.FieldType.boolean) ∈ goTb := wt_10 (List.mem_of_getElem? (i := 157) rfl) rfl
theorem wml_RX14_593 : Cond.methodLink RX14 593 yX14_swaps ∈ goTb := wt_10 (List.mem_of_getElem? (i := 158) rfl) rfl
theorem wim_X14_swaps : Cond.instanceMethod yX14_swaps ∈ goTb := wt_10 (List.mem_of_getElem? (i := 160) rfl) rfl
theorem wco_X14_swaps : Cond.code yX14_swaps cX14_swaps 4 (Option.none : Option Jvm.ClassFile.FieldType) ∈ goTb := wt_10 (List.mem_of_getElem? (i := 161) rfl) rfl
theorem wml_RL_189 : Cond.methodLink RL 189 yX14_appealAt ∈ goTb := wt_10 (List.mem_of_getElem? (i := 162) rfl) rfl
theorem wim_X14_appealAt : Cond.instanceMethod yX14_appealAt ∈ goTb := wt_10 (List.mem_of_getElem? (i := 163) rfl) rfl
theorem wse_X14_appealAt : Cond.selects RX14 yX14_appealAt yX14_appealAt ∈ goTb := wt_10 (List.mem_of_getElem? (i := 164) rfl) rfl
theorem wco_X14_appealAt : Cond.code yX14_appealAt cX14_appealAt 2 (Option.some Jvm.ClassFile.FieldType.int) ∈ goTb := wt_10 (List.mem_of_getElem? (i := 165) rfl) rfl
theorem wml_RL_194 : Cond.methodLink RL 194 yX14_salt ∈ goTb := wt_10 (List.mem_of_getElem? (i := 166) rfl) rfl
theorem wim_X14_salt : Cond.instanceMethod yX14_salt ∈ goTb := wt_10 (List.mem_of_getElem? (i := 167) rfl) rfl
theorem wse_X14_salt : Cond.selects RX14 yX14_salt yX14_salt ∈ goTb := wt_10 (List.mem_of_getElem? (i := 168) rfl) rfl
theorem wco_X14_salt : Cond.code yX14_salt cX14_salt 4 (Option.some Jvm.ClassFile.FieldType.boolean) ∈ goTb := wt_10 (List.mem_of_getElem? (i := 169) rfl) rfl
theorem wml_RX14_619 : Cond.methodLink RX14 619 yX14_puts ∈ goTb := wt_10 (List.mem_of_getElem? (i := 170) rfl) rfl
theorem wim_X14_puts : Cond.instanceMethod yX14_puts ∈ goTb := wt_10 (List.mem_of_getElem? (i := 172) rfl) rfl
theorem wco_X14_puts : Cond.code yX14_puts cX14_puts 5 (Option.some Jvm.ClassFile.FieldType.boolean) ∈ goTb := wt_10 (List.mem_of_getElem? (i := 173) rfl) rfl
theorem wml_RX14_607 : Cond.methodLink RX14 607 yX14_denied ∈ goTb := wt_10 (List.mem_of_getElem? (i := 174) rfl) rfl
theorem wim_X14_denied : Cond.instanceMethod yX14_denied ∈ goTb := wt_10 (List.mem_of_getElem? (i := 176) rfl) rfl
theorem wco_X14_denied : Cond.code yX14_denied cX14_denied 2 (Option.some Jvm.ClassFile.FieldType.boolean) ∈ goTb := wt_10 (List.mem_of_getElem? (i := 177) rfl) rfl
theorem wml_RX14_610 : Cond.methodLink RX14 610 yX14_spots ∈ goTb := wt_10 (List.mem_of_getElem? (i := 178) rfl) rfl
theorem wim_X14_spots : Cond.instanceMethod yX14_spots ∈ goTb := wt_10 (List.mem_of_getElem? (i := 180) rfl) rfl
theorem wco_X14_spots : Cond.code yX14_spots cX14_spots 4 (Option.some Jvm.ClassFile.FieldType.int) ∈ goTb := wt_10 (List.mem_of_getElem? (i := 181) rfl) rfl
theorem wml_RX14_613 : Cond.methodLink RX14 613 yX14_keeps ∈ goTb := wt_10 (List.mem_of_getElem? (i := 182) rfl) rfl
theorem wim_X14_keeps : Cond.instanceMethod yX14_keeps ∈ goTb := wt_10 (List.mem_of_getElem? (i := 184) rfl) rfl
theorem wco_X14_keeps : Cond.code yX14_keeps cX14_keeps 2 (Option.none : Option Jvm.ClassFile.FieldType) ∈ goTb := wt_10 (List.mem_of_getElem? (i := 185) rfl) rfl
theorem wml_RX14_616 : Cond.methodLink RX14 616 yX14_granted ∈ goTb := wt_10 (List.mem_of_getElem? (i := 186) rfl) rfl
theorem wim_X14_granted : Cond.instanceMethod yX14_granted ∈ goTb := wt_10 (List.mem_of_getElem? (i := 188) rfl) rfl
theorem wco_X14_granted : Cond.code yX14_granted cX14_granted 1 (Option.some Jvm.ClassFile.FieldType.boolean) ∈ goTb := wt_10 (List.mem_of_getElem? (i := 189) rfl) rfl
theorem wml_RL_198 : Cond.methodLink RL 198 yX14_dog ∈ goTb := wt_10 (List.mem_of_getElem? (i := 190) rfl) rfl
theorem wim_X14_dog : Cond.instanceMethod yX14_dog ∈ goTb := wt_10 (List.mem_of_getElem? (i := 191) rfl) rfl
theorem wse_X14_dog : Cond.selects RX14 yX14_dog yX14_dog ∈ goTb := wt_10 (List.mem_of_getElem? (i := 192) rfl) rfl
theorem wco_X14_dog : Cond.code yX14_dog cX14_dog 4 (Option.some Jvm.ClassFile.FieldType.boolean) ∈ goTb := wt_10 (List.mem_of_getElem? (i := 193) rfl) rfl
theorem wml_RL_203 : Cond.methodLink RL 203 yX14_hedge ∈ goTb := wt_10 (List.mem_of_getElem? (i := 194) rfl) rfl
theorem wim_X14_hedge : Cond.instanceMethod yX14_hedge ∈ goTb := wt_10 (List.mem_of_getElem? (i := 195) rfl) rfl
theorem wse_X14_hedge : Cond.selects RX14 yX14_hedge yX14_hedge ∈ goTb := wt_10 (List.mem_of_getElem? (i := 196) rfl) rfl
theorem wco_X14_hedge : Cond.code yX14_hedge cX14_hedge 3 (Option.some Jvm.ClassFile.FieldType.boolean) ∈ goTb := wt_10 (List.mem_of_getElem? (i := 197) rfl) rfl
theorem wml_RL_207 : Cond.methodLink RL 207 yX14_hear ∈ goTb := wt_10 (List.mem_of_getElem? (i := 198) rfl) rfl
theorem wim_X14_hear : Cond.instanceMethod yX14_hear ∈ goTb := wt_10 (List.mem_of_getElem? (i := 199) rfl) rfl
theorem wse_X14_hear : Cond.selects RX14 yX14_hear yX14_hear ∈ goTb := wt_10 (List.mem_of_getElem? (i := 200) rfl) rfl
theorem wco_X14_hear : Cond.code yX14_hear cX14_hear 3 (Option.some Jvm.ClassFile.FieldType.boolean) ∈ goTb := wt_10 (List.mem_of_getElem? (i := 201) rfl) rfl
theorem wml_RL_212 : Cond.methodLink RL 212 yX14_undo ∈ goTb := wt_10 (List.mem_of_getElem? (i := 202) rfl) rfl
theorem wim_X14_undo : Cond.instanceMethod yX14_undo ∈ goTb := wt_10 (List.mem_of_getElem? (i := 203) rfl) rfl
theorem wse_X14_undo : Cond.selects RX14 yX14_undo yX14_undo ∈ goTb := wt_10 (List.mem_of_getElem? (i := 204) rfl) rfl
theorem wco_X14_undo : Cond.code yX14_undo cX14_undo 2 (Option.some Jvm.ClassFile.FieldType.boolean) ∈ goTb := wt_10 (List.mem_of_getElem? (i := 205) rfl) rfl
theorem wml_RL_216 : Cond.methodLink RL 216 yX14_mark ∈ goTb := wt_10 (List.mem_of_getElem? (i := 206) rfl) rfl
theorem wim_X14_mark : Cond.instanceMethod yX14_mark ∈ goTb := wt_10 (List.mem_of_getElem? (i := 207) rfl) rfl
theorem wse_X14_mark : Cond.selects RX14 yX14_mark yX14_mark ∈ goTb := wt_10 (List.mem_of_getElem? (i := 208) rfl) rfl
theorem wco_X14_mark : Cond.code yX14_mark cX14_mark 2 (Option.some Jvm.ClassFile.FieldType.int) ∈ goTb := wt_10 (List.mem_of_getElem? (i := 209) rfl) rfl
theorem wml_RL_221 : Cond.methodLink RL 221 yX14_back ∈ goTb := wt_10 (List.mem_of_getElem? (i := 210) rfl) rfl
theorem wim_X14_back : Cond.instanceMethod yX14_back ∈ goTb := wt_10 (List.mem_of_getElem? (i := 211) rfl) rfl
theorem wse_X14_back : Cond.selects RX14 yX14_back yX14_back ∈ goTb := wt_10 (List.mem_of_getElem? (i := 212) rfl) rfl
theorem wco_X14_back : Cond.code yX14_back cX14_back 3 (Option.some Jvm.ClassFile.FieldType.boolean) ∈ goTb := wt_10 (List.mem_of_getElem? (i := 213) rfl) rfl
theorem wml_RL_227 : Cond.methodLink RL 227 yX14_put ∈ goTb := wt_10 (List.mem_of_getElem? (i := 214) rfl) rfl
theorem wim_X14_put : Cond.instanceMethod yX14_put ∈ goTb := wt_10 (List.mem_of_getElem? (i := 215) rfl) rfl
theorem wse_X14_put : Cond.selects RX14 yX14_put yX14_put ∈ goTb := wt_10 (List.mem_of_getElem? (i := 216) rfl) rfl
theorem wco_X14_put : Cond.code yX14_put cX14_put 5 (Option.some Jvm.ClassFile.FieldType.int) ∈ goTb := wt_10 (List.mem_of_getElem? (i := 217) rfl) rfl
theorem wml_RL_234 : Cond.methodLink RL 234 yX14_size ∈ goTb := wt_10 (List.mem_of_getElem? (i := 218) rfl) rfl
theorem wim_X14_size : Cond.instanceMethod yX14_size ∈ goTb := wt_10 (List.mem_of_getElem? (i := 219) rfl) rfl
theorem wse_X14_size : Cond.selects RX14 yX14_size yX14_size ∈ goTb := wt_10 (List.mem_of_getElem? (i := 220) rfl) rfl
theorem wco_X14_size : Cond.code yX14_size cX14_size 2 (Option.some Jvm.ClassFile.FieldType.int) ∈ goTb := wt_10 (List.mem_of_getElem? (i := 221) rfl) rfl
theorem wml_RL_238 : Cond.methodLink RL 238 yX14_trouble ∈ goTb := wt_10 (List.mem_of_getElem? (i := 222) rfl) rfl
theorem wim_X14_trouble : Cond.instanceMethod yX14_trouble ∈ goTb := wt_10 (List.mem_of_getElem? (i := 223) rfl) rfl
theorem wse_X14_trouble : Cond.selects RX14 yX14_trouble yX14_trouble ∈ goTb := wt_10 (List.mem_of_getElem? (i := 224) rfl) rfl
theorem wco_X14_trouble : Cond.code yX14_trouble cX14_trouble 1 (Option.some Jvm.ClassFile.FieldType.int) ∈ goTb := wt_10 (List.mem_of_getElem? (i := 225) rfl) rfl
theorem wfl_RX9_43 : Cond.fieldLink RX9 43 "GoatCourt$Reserved" "word" "Ljava/lang/String;" ∈ goTb := wt_11 (List.mem_of_getElem? (i := 4) rfl) rfl
theorem wfl_RJ0_9 : Cond.fieldLink RJ0 9 "java/lang/String" "value" "[B" ∈ goTb := wt_11 (List.mem_of_getElem? (i := 5) rfl) rfl
theorem wfl_RJ0_15 : Cond.fieldLink RJ0 15 "java/lang/String" "coder" "B" ∈ goTb := wt_11 (List.mem_of_getElem? (i := 6) rfl) rfl
theorem wfl_RX9_101 : Cond.fieldLink RX9 101 "GoatCourt$Reserved" "room" "I" ∈ goTb := wt_11 (List.mem_of_getElem? (i := 7) rfl) rfl
theorem wfl_RX9_108 : Cond.fieldLink RX9 108 "GoatCourt$Reserved" "group" "I" ∈ goTb := wt_11 (List.mem_of_getElem? (i := 8) rfl) rfl
theorem wfl_RJx29ce0_7 : Cond.fieldLink RJx29ce0 7 "java/lang/Enum" "ordinal" "I" ∈ goTb := wt_11 (List.mem_of_getElem? (i := 9) rfl) rfl
theorem wt_p {w : Cond} (h : w ∈ k2_sels lw_privs) (g : goodWord w = true) : w ∈ goTb := List.mem_filter.mpr ⟨List.mem_append_left _ h, g⟩
theorem wse_X12_refuse : Cond.selects RX12 yX12_refuse yX12_refuse ∈ goTb := wt_p (List.mem_of_getElem? (i := 0) rfl) rfl
theorem wse_X11_readWord : Cond.selects RX11 yX11_readWord yX11_readWord ∈ goTb := wt_p (List.mem_of_getElem? (i := 1) rfl) rfl
theorem wse_X11_readWhole : Cond.selects RX11 yX11_readWhole yX11_readWhole ∈ goTb := wt_p (List.mem_of_getElem? (i := 2) rfl) rfl
theorem wse_X9_line : Cond.selects RX9 yX9_line yX9_line ∈ goTb := wt_p (List.mem_of_getElem? (i := 3) rfl) rfl
theorem wse_X9_reservedHere : Cond.selects RX9 yX9_reservedHere yX9_reservedHere ∈ goTb := wt_p (List.mem_of_getElem? (i := 4) rfl) rfl
theorem wse_X9_fail : Cond.selects RX9 yX9_fail yX9_fail ∈ goTb := wt_p (List.mem_of_getElem? (i := 5) rfl) rfl
theorem wse_X9_hillLine : Cond.selects RX9 yX9_hillLine yX9_hillLine ∈ goTb := wt_p (List.mem_of_getElem? (i := 6) rfl) rfl
theorem wse_X9_word : Cond.selects RX9 yX9_word yX9_word ∈ goTb := wt_p (List.mem_of_getElem? (i := 7) rfl) rfl
theorem wse_X9_wholeIn : Cond.selects RX9 yX9_wholeIn yX9_wholeIn ∈ goTb := wt_p (List.mem_of_getElem? (i := 8) rfl) rfl
theorem wse_X9_placeLine : Cond.selects RX9 yX9_placeLine yX9_placeLine ∈ goTb := wt_p (List.mem_of_getElem? (i := 9) rfl) rfl
theorem wse_X9_freshName : Cond.selects RX9 yX9_freshName yX9_freshName ∈ goTb := wt_p (List.mem_of_getElem? (i := 10) rfl) rfl
theorem wse_X9_find : Cond.selects RX9 yX9_find yX9_find ∈ goTb := wt_p (List.mem_of_getElem? (i := 11) rfl) rfl
theorem wse_X9_partIn : Cond.selects RX9 yX9_partIn yX9_partIn ∈ goTb := wt_p (List.mem_of_getElem? (i := 12) rfl) rfl
theorem wse_X9_tell : Cond.selects RX9 yX9_tell yX9_tell ∈ goTb := wt_p (List.mem_of_getElem? (i := 13) rfl) rfl
theorem wse_X9_pathLine : Cond.selects RX9 yX9_pathLine yX9_pathLine ∈ goTb := wt_p (List.mem_of_getElem? (i := 14) rfl) rfl
theorem wse_X9_named : Cond.selects RX9 yX9_named yX9_named ∈ goTb := wt_p (List.mem_of_getElem? (i := 15) rfl) rfl
theorem wse_X9_personLine : Cond.selects RX9 yX9_personLine yX9_personLine ∈ goTb := wt_p (List.mem_of_getElem? (i := 16) rfl) rfl
theorem wse_X9_storyLine : Cond.selects RX9 yX9_storyLine yX9_storyLine ∈ goTb := wt_p (List.mem_of_getElem? (i := 17) rfl) rfl
theorem wse_X9_goatLine : Cond.selects RX9 yX9_goatLine yX9_goatLine ∈ goTb := wt_p (List.mem_of_getElem? (i := 18) rfl) rfl
theorem wse_X9_kindOf : Cond.selects RX9 yX9_kindOf yX9_kindOf ∈ goTb := wt_p (List.mem_of_getElem? (i := 19) rfl) rfl
theorem wse_X9_orderOf : Cond.selects RX9 yX9_orderOf yX9_orderOf ∈ goTb := wt_p (List.mem_of_getElem? (i := 20) rfl) rfl
theorem wse_X9_fearLine : Cond.selects RX9 yX9_fearLine yX9_fearLine ∈ goTb := wt_p (List.mem_of_getElem? (i := 21) rfl) rfl
theorem wse_X9_foundLine : Cond.selects RX9 yX9_foundLine yX9_foundLine ∈ goTb := wt_p (List.mem_of_getElem? (i := 22) rfl) rfl
theorem wse_X9_seenLine : Cond.selects RX9 yX9_seenLine yX9_seenLine ∈ goTb := wt_p (List.mem_of_getElem? (i := 23) rfl) rfl
theorem wse_X9_factLine : Cond.selects RX9 yX9_factLine yX9_factLine ∈ goTb := wt_p (List.mem_of_getElem? (i := 24) rfl) rfl
theorem wse_X9_holdsLine : Cond.selects RX9 yX9_holdsLine yX9_holdsLine ∈ goTb := wt_p (List.mem_of_getElem? (i := 25) rfl) rfl
theorem wse_X9_ruleLine : Cond.selects RX9 yX9_ruleLine yX9_ruleLine ∈ goTb := wt_p (List.mem_of_getElem? (i := 26) rfl) rfl
theorem wse_X9_factList : Cond.selects RX9 yX9_factList yX9_factList ∈ goTb := wt_p (List.mem_of_getElem? (i := 27) rfl) rfl
theorem wse_X9_proofLine : Cond.selects RX9 yX9_proofLine yX9_proofLine ∈ goTb := wt_p (List.mem_of_getElem? (i := 28) rfl) rfl
theorem wse_X9_courtLine : Cond.selects RX9 yX9_courtLine yX9_courtLine ∈ goTb := wt_p (List.mem_of_getElem? (i := 29) rfl) rfl
theorem wse_X9_cheeseLine : Cond.selects RX9 yX9_cheeseLine yX9_cheeseLine ∈ goTb := wt_p (List.mem_of_getElem? (i := 30) rfl) rfl
theorem wse_X12_answer : Cond.selects RX12 yX12_answer yX12_answer ∈ goTb := wt_p (List.mem_of_getElem? (i := 31) rfl) rfl
theorem wse_X12_isPlace : Cond.selects RX12 yX12_isPlace yX12_isPlace ∈ goTb := wt_p (List.mem_of_getElem? (i := 32) rfl) rfl
theorem wse_X12_isPlant : Cond.selects RX12 yX12_isPlant yX12_isPlant ∈ goTb := wt_p (List.mem_of_getElem? (i := 33) rfl) rfl
theorem wse_X12_isGoat : Cond.selects RX12 yX12_isGoat yX12_isGoat ∈ goTb := wt_p (List.mem_of_getElem? (i := 34) rfl) rfl
theorem wse_X12_isPerson : Cond.selects RX12 yX12_isPerson yX12_isPerson ∈ goTb := wt_p (List.mem_of_getElem? (i := 35) rfl) rfl
theorem wse_X12_isHour : Cond.selects RX12 yX12_isHour yX12_isHour ∈ goTb := wt_p (List.mem_of_getElem? (i := 36) rfl) rfl
theorem wse_X12_isCase : Cond.selects RX12 yX12_isCase yX12_isCase ∈ goTb := wt_p (List.mem_of_getElem? (i := 37) rfl) rfl
theorem wse_X3_openPaths : Cond.selects RX3 yX3_openPaths yX3_openPaths ∈ goTb := wt_p (List.mem_of_getElem? (i := 38) rfl) rfl
theorem wse_X3_fearPerson : Cond.selects RX3 yX3_fearPerson yX3_fearPerson ∈ goTb := wt_p (List.mem_of_getElem? (i := 39) rfl) rfl
theorem wse_X3_turn : Cond.selects RX3 yX3_turn yX3_turn ∈ goTb := wt_p (List.mem_of_getElem? (i := 40) rfl) rfl
theorem wse_X3_followsMother : Cond.selects RX3 yX3_followsMother yX3_followsMother ∈ goTb := wt_p (List.mem_of_getElem? (i := 41) rfl) rfl
theorem wse_X3_best : Cond.selects RX3 yX3_best yX3_best ∈ goTb := wt_p (List.mem_of_getElem? (i := 42) rfl) rfl
theorem wse_X3_worth : Cond.selects RX3 yX3_worth yX3_worth ∈ goTb := wt_p (List.mem_of_getElem? (i := 43) rfl) rfl
theorem wse_X3_eat : Cond.selects RX3 yX3_eat yX3_eat ∈ goTb := wt_p (List.mem_of_getElem? (i := 44) rfl) rfl
theorem wse_X3_drop : Cond.selects RX3 yX3_drop yX3_drop ∈ goTb := wt_p (List.mem_of_getElem? (i := 45) rfl) rfl
theorem wse_X12_isHill : Cond.selects RX12 yX12_isHill yX12_isHill ∈ goTb := wt_p (List.mem_of_getElem? (i := 46) rfl) rfl
theorem wse_X4_heardClues : Cond.selects RX4 yX4_heardClues yX4_heardClues ∈ goTb := wt_p (List.mem_of_getElem? (i := 47) rfl) rfl
theorem wse_X4_bears : Cond.selects RX4 yX4_bears yX4_bears ∈ goTb := wt_p (List.mem_of_getElem? (i := 48) rfl) rfl
theorem wse_X4_anyBears : Cond.selects RX4 yX4_anyBears yX4_anyBears ∈ goTb := wt_p (List.mem_of_getElem? (i := 49) rfl) rfl
theorem wse_X4_prove : Cond.selects RX4 yX4_prove yX4_prove ∈ goTb := wt_p (List.mem_of_getElem? (i := 50) rfl) rfl
theorem wse_X4_mostLeft : Cond.selects RX4 yX4_mostLeft yX4_mostLeft ∈ goTb := wt_p (List.mem_of_getElem? (i := 51) rfl) rfl
theorem wse_X12_whyNoQuest : Cond.selects RX12 yX12_whyNoQuest yX12_whyNoQuest ∈ goTb := wt_p (List.mem_of_getElem? (i := 52) rfl) rfl
theorem wse_X8_save : Cond.selects RX8 yX8_save yX8_save ∈ goTb := wt_p (List.mem_of_getElem? (i := 53) rfl) rfl
theorem wse_X8_playSaving : Cond.selects RX8 yX8_playSaving yX8_playSaving ∈ goTb := wt_p (List.mem_of_getElem? (i := 54) rfl) rfl
theorem wse_X8_isThere : Cond.selects RX8 yX8_isThere yX8_isThere ∈ goTb := wt_p (List.mem_of_getElem? (i := 55) rfl) rfl
theorem wse_X8_findOne : Cond.selects RX8 yX8_findOne yX8_findOne ∈ goTb := wt_p (List.mem_of_getElem? (i := 56) rfl) rfl
theorem wse_X8_isFree : Cond.selects RX8 yX8_isFree yX8_isFree ∈ goTb := wt_p (List.mem_of_getElem? (i := 57) rfl) rfl
theorem wse_X8_changes : Cond.selects RX8 yX8_changes yX8_changes ∈ goTb := wt_p (List.mem_of_getElem? (i := 58) rfl) rfl
theorem wse_X8_turn : Cond.selects RX8 yX8_turn yX8_turn ∈ goTb := wt_p (List.mem_of_getElem? (i := 59) rfl) rfl
theorem wse_X8_load : Cond.selects RX8 yX8_load yX8_load ∈ goTb := wt_p (List.mem_of_getElem? (i := 60) rfl) rfl
theorem wse_X8_isAs : Cond.selects RX8 yX8_isAs yX8_isAs ∈ goTb := wt_p (List.mem_of_getElem? (i := 61) rfl) rfl
theorem wse_X8_findLater : Cond.selects RX8 yX8_findLater yX8_findLater ∈ goTb := wt_p (List.mem_of_getElem? (i := 62) rfl) rfl
theorem wse_X8_isSooner : Cond.selects RX8 yX8_isSooner yX8_isSooner ∈ goTb := wt_p (List.mem_of_getElem? (i := 63) rfl) rfl
theorem wse_X12_isFact : Cond.selects RX12 yX12_isFact yX12_isFact ∈ goTb := wt_p (List.mem_of_getElem? (i := 64) rfl) rfl
theorem wse_X7_isRight : Cond.selects RX7 yX7_isRight yX7_isRight ∈ goTb := wt_p (List.mem_of_getElem? (i := 65) rfl) rfl
theorem wse_X3_giveCheese : Cond.selects RX3 yX3_giveCheese yX3_giveCheese ∈ goTb := wt_p (List.mem_of_getElem? (i := 66) rfl) rfl
theorem wse_X2_weigh : Cond.selects RX2 yX2_weigh yX2_weigh ∈ goTb := wt_p (List.mem_of_getElem? (i := 67) rfl) rfl
theorem wse_X12_putOrTake : Cond.selects RX12 yX12_putOrTake yX12_putOrTake ∈ goTb := wt_p (List.mem_of_getElem? (i := 68) rfl) rfl
theorem wse_X1_turn : Cond.selects RX1 yX1_turn yX1_turn ∈ goTb := wt_p (List.mem_of_getElem? (i := 69) rfl) rfl
theorem wse_X12_done : Cond.selects RX12 yX12_done yX12_done ∈ goTb := wt_p (List.mem_of_getElem? (i := 70) rfl) rfl
theorem wse_X14_refused : Cond.selects RX14 yX14_refused yX14_refused ∈ goTb := wt_p (List.mem_of_getElem? (i := 72) rfl) rfl
theorem wse_X14_goesOn : Cond.selects RX14 yX14_goesOn yX14_goesOn ∈ goTb := wt_p (List.mem_of_getElem? (i := 73) rfl) rfl
theorem wse_X14_byteAt : Cond.selects RX14 yX14_byteAt yX14_byteAt ∈ goTb := wt_p (List.mem_of_getElem? (i := 74) rfl) rfl
theorem wse_X14_readAll : Cond.selects RX14 yX14_readAll yX14_readAll ∈ goTb := wt_p (List.mem_of_getElem? (i := 75) rfl) rfl
theorem wse_X14_readLine : Cond.selects RX14 yX14_readLine yX14_readLine ∈ goTb := wt_p (List.mem_of_getElem? (i := 76) rfl) rfl
theorem wse_X14_isWord : Cond.selects RX14 yX14_isWord yX14_isWord ∈ goTb := wt_p (List.mem_of_getElem? (i := 77) rfl) rfl
theorem wse_X14_readHill : Cond.selects RX14 yX14_readHill yX14_readHill ∈ goTb := wt_p (List.mem_of_getElem? (i := 78) rfl) rfl
theorem wse_X14_flaw : Cond.selects RX14 yX14_flaw yX14_flaw ∈ goTb := wt_p (List.mem_of_getElem? (i := 79) rfl) rfl
theorem wse_X14_readPart : Cond.selects RX14 yX14_readPart yX14_readPart ∈ goTb := wt_p (List.mem_of_getElem? (i := 80) rfl) rfl
theorem wse_X14_wants : Cond.selects RX14 yX14_wants yX14_wants ∈ goTb := wt_p (List.mem_of_getElem? (i := 81) rfl) rfl
theorem wse_X14_readWhole : Cond.selects RX14 yX14_readWhole yX14_readWhole ∈ goTb := wt_p (List.mem_of_getElem? (i := 82) rfl) rfl
theorem wse_X14_readPlace : Cond.selects RX14 yX14_readPlace yX14_readPlace ∈ goTb := wt_p (List.mem_of_getElem? (i := 83) rfl) rfl
theorem wse_X14_begins : Cond.selects RX14 yX14_begins yX14_begins ∈ goTb := wt_p (List.mem_of_getElem? (i := 84) rfl) rfl
theorem wse_X14_readFresh : Cond.selects RX14 yX14_readFresh yX14_readFresh ∈ goTb := wt_p (List.mem_of_getElem? (i := 85) rfl) rfl
theorem wse_X14_isName : Cond.selects RX14 yX14_isName yX14_isName ∈ goTb := wt_p (List.mem_of_getElem? (i := 86) rfl) rfl
theorem wse_X14_readPlants : Cond.selects RX14 yX14_readPlants yX14_readPlants ∈ goTb := wt_p (List.mem_of_getElem? (i := 87) rfl) rfl
theorem wse_X14_needsSign : Cond.selects RX14 yX14_needsSign yX14_needsSign ∈ goTb := wt_p (List.mem_of_getElem? (i := 88) rfl) rfl
theorem wse_X14_names : Cond.selects RX14 yX14_names yX14_names ∈ goTb := wt_p (List.mem_of_getElem? (i := 89) rfl) rfl
theorem wse_X14_readPath : Cond.selects RX14 yX14_readPath yX14_readPath ∈ goTb := wt_p (List.mem_of_getElem? (i := 90) rfl) rfl
theorem wse_X14_readKnown : Cond.selects RX14 yX14_readKnown yX14_readKnown ∈ goTb := wt_p (List.mem_of_getElem? (i := 91) rfl) rfl
theorem wse_X14_known : Cond.selects RX14 yX14_known yX14_known ∈ goTb := wt_p (List.mem_of_getElem? (i := 92) rfl) rfl
theorem wse_X14_readPerson : Cond.selects RX14 yX14_readPerson yX14_readPerson ∈ goTb := wt_p (List.mem_of_getElem? (i := 93) rfl) rfl
theorem wse_X14_readStory : Cond.selects RX14 yX14_readStory yX14_readStory ∈ goTb := wt_p (List.mem_of_getElem? (i := 94) rfl) rfl
theorem wse_X14_eatsSign : Cond.selects RX14 yX14_eatsSign yX14_eatsSign ∈ goTb := wt_p (List.mem_of_getElem? (i := 95) rfl) rfl
theorem wse_X14_readGoat : Cond.selects RX14 yX14_readGoat yX14_readGoat ∈ goTb := wt_p (List.mem_of_getElem? (i := 96) rfl) rfl
theorem wse_X14_readFears : Cond.selects RX14 yX14_readFears yX14_readFears ∈ goTb := wt_p (List.mem_of_getElem? (i := 97) rfl) rfl
theorem wse_X14_readClue : Cond.selects RX14 yX14_readClue yX14_readClue ∈ goTb := wt_p (List.mem_of_getElem? (i := 98) rfl) rfl
theorem wse_X14_readPlant : Cond.selects RX14 yX14_readPlant yX14_readPlant ∈ goTb := wt_p (List.mem_of_getElem? (i := 99) rfl) rfl
theorem wse_X14_readFact : Cond.selects RX14 yX14_readFact yX14_readFact ∈ goTb := wt_p (List.mem_of_getElem? (i := 100) rfl) rfl
theorem wse_X14_readHolds : Cond.selects RX14 yX14_readHolds yX14_readHolds ∈ goTb := wt_p (List.mem_of_getElem? (i := 101) rfl) rfl
theorem wse_X14_readRule : Cond.selects RX14 yX14_readRule yX14_readRule ∈ goTb := wt_p (List.mem_of_getElem? (i := 102) rfl) rfl
theorem wse_X14_readProof : Cond.selects RX14 yX14_readProof yX14_readProof ∈ goTb := wt_p (List.mem_of_getElem? (i := 103) rfl) rfl
theorem wse_X14_beginsOnce : Cond.selects RX14 yX14_beginsOnce yX14_beginsOnce ∈ goTb := wt_p (List.mem_of_getElem? (i := 104) rfl) rfl
theorem wse_X14_readCourt : Cond.selects RX14 yX14_readCourt yX14_readCourt ∈ goTb := wt_p (List.mem_of_getElem? (i := 105) rfl) rfl
theorem wse_X14_readCheese : Cond.selects RX14 yX14_readCheese yX14_readCheese ∈ goTb := wt_p (List.mem_of_getElem? (i := 106) rfl) rfl
theorem wse_X14_good : Cond.selects RX14 yX14_good yX14_good ∈ goTb := wt_p (List.mem_of_getElem? (i := 107) rfl) rfl
theorem wse_X14_isPlace : Cond.selects RX14 yX14_isPlace yX14_isPlace ∈ goTb := wt_p (List.mem_of_getElem? (i := 108) rfl) rfl
theorem wse_X14_isPlant : Cond.selects RX14 yX14_isPlant yX14_isPlant ∈ goTb := wt_p (List.mem_of_getElem? (i := 109) rfl) rfl
theorem wse_X14_isGoat : Cond.selects RX14 yX14_isGoat yX14_isGoat ∈ goTb := wt_p (List.mem_of_getElem? (i := 110) rfl) rfl
theorem wse_X14_isHeard : Cond.selects RX14 yX14_isHeard yX14_isHeard ∈ goTb := wt_p (List.mem_of_getElem? (i := 111) rfl) rfl
theorem wse_X14_isClue : Cond.selects RX14 yX14_isClue yX14_isClue ∈ goTb := wt_p (List.mem_of_getElem? (i := 112) rfl) rfl
theorem wse_X14_isPerson : Cond.selects RX14 yX14_isPerson yX14_isPerson ∈ goTb := wt_p (List.mem_of_getElem? (i := 113) rfl) rfl
theorem wse_X14_isHour : Cond.selects RX14 yX14_isHour yX14_isHour ∈ goTb := wt_p (List.mem_of_getElem? (i := 114) rfl) rfl
theorem wse_X14_isCase : Cond.selects RX14 yX14_isCase yX14_isCase ∈ goTb := wt_p (List.mem_of_getElem? (i := 115) rfl) rfl
theorem wse_X14_day : Cond.selects RX14 yX14_day yX14_day ∈ goTb := wt_p (List.mem_of_getElem? (i := 116) rfl) rfl
theorem wse_X14_goatGoes : Cond.selects RX14 yX14_goatGoes yX14_goatGoes ∈ goTb := wt_p (List.mem_of_getElem? (i := 117) rfl) rfl
theorem wse_X14_isOpen : Cond.selects RX14 yX14_isOpen yX14_isOpen ∈ goTb := wt_p (List.mem_of_getElem? (i := 118) rfl) rfl
theorem wse_X14_bestFor : Cond.selects RX14 yX14_bestFor yX14_bestFor ∈ goTb := wt_p (List.mem_of_getElem? (i := 119) rfl) rfl
theorem wse_X14_fears : Cond.selects RX14 yX14_fears yX14_fears ∈ goTb := wt_p (List.mem_of_getElem? (i := 120) rfl) rfl
theorem wse_X14_worth : Cond.selects RX14 yX14_worth yX14_worth ∈ goTb := wt_p (List.mem_of_getElem? (i := 121) rfl) rfl
theorem wse_X14_eats : Cond.selects RX14 yX14_eats yX14_eats ∈ goTb := wt_p (List.mem_of_getElem? (i := 122) rfl) rfl
theorem wse_X14_plantAt : Cond.selects RX14 yX14_plantAt yX14_plantAt ∈ goTb := wt_p (List.mem_of_getElem? (i := 123) rfl) rfl
theorem wse_X14_ateOf : Cond.selects RX14 yX14_ateOf yX14_ateOf ∈ goTb := wt_p (List.mem_of_getElem? (i := 124) rfl) rfl
theorem wse_X14_dropped : Cond.selects RX14 yX14_dropped yX14_dropped ∈ goTb := wt_p (List.mem_of_getElem? (i := 125) rfl) rfl
theorem wse_X14_holdsNow : Cond.selects RX14 yX14_holdsNow yX14_holdsNow ∈ goTb := wt_p (List.mem_of_getElem? (i := 126) rfl) rfl
theorem wse_X14_laysHonest : Cond.selects RX14 yX14_laysHonest yX14_laysHonest ∈ goTb := wt_p (List.mem_of_getElem? (i := 127) rfl) rfl
theorem wse_X14_heard : Cond.selects RX14 yX14_heard yX14_heard ∈ goTb := wt_p (List.mem_of_getElem? (i := 128) rfl) rfl
theorem wse_X14_allGoats : Cond.selects RX14 yX14_allGoats yX14_allGoats ∈ goTb := wt_p (List.mem_of_getElem? (i := 129) rfl) rfl
theorem wse_X14_areTrue : Cond.selects RX14 yX14_areTrue yX14_areTrue ∈ goTb := wt_p (List.mem_of_getElem? (i := 130) rfl) rfl
theorem wse_X14_refusesPerson : Cond.selects RX14 yX14_refusesPerson yX14_refusesPerson ∈ goTb := wt_p (List.mem_of_getElem? (i := 131) rfl) rfl
theorem wse_X14_couldBe : Cond.selects RX14 yX14_couldBe yX14_couldBe ∈ goTb := wt_p (List.mem_of_getElem? (i := 132) rfl) rfl
theorem wse_X14_anyFits : Cond.selects RX14 yX14_anyFits yX14_anyFits ∈ goTb := wt_p (List.mem_of_getElem? (i := 133) rfl) rfl
theorem wse_X14_oddsOf : Cond.selects RX14 yX14_oddsOf yX14_oddsOf ∈ goTb := wt_p (List.mem_of_getElem? (i := 134) rfl) rfl
theorem wse_X14_asks : Cond.selects RX14 yX14_asks yX14_asks ∈ goTb := wt_p (List.mem_of_getElem? (i := 135) rfl) rfl
theorem wse_X14_refusesLed : Cond.selects RX14 yX14_refusesLed yX14_refusesLed ∈ goTb := wt_p (List.mem_of_getElem? (i := 136) rfl) rfl
theorem wse_X14_fewest : Cond.selects RX14 yX14_fewest yX14_fewest ∈ goTb := wt_p (List.mem_of_getElem? (i := 137) rfl) rfl
theorem wse_X14_isThere : Cond.selects RX14 yX14_isThere yX14_isThere ∈ goTb := wt_p (List.mem_of_getElem? (i := 138) rfl) rfl
theorem wse_X14_isSpot : Cond.selects RX14 yX14_isSpot yX14_isSpot ∈ goTb := wt_p (List.mem_of_getElem? (i := 139) rfl) rfl
theorem wse_X14_turn : Cond.selects RX14 yX14_turn yX14_turn ∈ goTb := wt_p (List.mem_of_getElem? (i := 140) rfl) rfl
theorem wse_X14_isFact : Cond.selects RX14 yX14_isFact yX14_isFact ∈ goTb := wt_p (List.mem_of_getElem? (i := 141) rfl) rfl
theorem wse_X14_followsNow : Cond.selects RX14 yX14_followsNow yX14_followsNow ∈ goTb := wt_p (List.mem_of_getElem? (i := 142) rfl) rfl
theorem wse_X14_following : Cond.selects RX14 yX14_following yX14_following ∈ goTb := wt_p (List.mem_of_getElem? (i := 143) rfl) rfl
theorem wse_X14_refusesCheese : Cond.selects RX14 yX14_refusesCheese yX14_refusesCheese ∈ goTb := wt_p (List.mem_of_getElem? (i := 144) rfl) rfl
theorem wse_X14_isCheese : Cond.selects RX14 yX14_isCheese yX14_isCheese ∈ goTb := wt_p (List.mem_of_getElem? (i := 145) rfl) rfl
theorem wse_X14_leastMean : Cond.selects RX14 yX14_leastMean yX14_leastMean ∈ goTb := wt_p (List.mem_of_getElem? (i := 146) rfl) rfl
theorem wse_X14_meanOf : Cond.selects RX14 yX14_meanOf yX14_meanOf ∈ goTb := wt_p (List.mem_of_getElem? (i := 147) rfl) rfl
theorem wse_X14_turns : Cond.selects RX14 yX14_turns yX14_turns ∈ goTb := wt_p (List.mem_of_getElem? (i := 148) rfl) rfl
theorem wse_X14_swaps : Cond.selects RX14 yX14_swaps yX14_swaps ∈ goTb := wt_p (List.mem_of_getElem? (i := 149) rfl) rfl
theorem wse_X14_puts : Cond.selects RX14 yX14_puts yX14_puts ∈ goTb := wt_p (List.mem_of_getElem? (i := 150) rfl) rfl
theorem wse_X14_denied : Cond.selects RX14 yX14_denied yX14_denied ∈ goTb := wt_p (List.mem_of_getElem? (i := 151) rfl) rfl
theorem wse_X14_spots : Cond.selects RX14 yX14_spots yX14_spots ∈ goTb := wt_p (List.mem_of_getElem? (i := 152) rfl) rfl
theorem wse_X14_keeps : Cond.selects RX14 yX14_keeps yX14_keeps ∈ goTb := wt_p (List.mem_of_getElem? (i := 153) rfl) rfl
theorem wse_X14_granted : Cond.selects RX14 yX14_granted yX14_granted ∈ goTb := wt_p (List.mem_of_getElem? (i := 154) rfl) rfl
theorem wly_RX1_0 : u_lay RX1 TX1 0 ∈ goTb := wt_1 (List.mem_of_getElem? (i := 96) rfl) rfl
theorem wly_RX1_1 : u_lay RX1 TX1 1 ∈ goTb := wt_1 (List.mem_of_getElem? (i := 98) rfl) rfl
theorem wly_RX1_2 : u_lay RX1 TX1 2 ∈ goTb := wt_1 (List.mem_of_getElem? (i := 100) rfl) rfl
theorem wly_RX1_3 : u_lay RX1 TX1 3 ∈ goTb := wt_1 (List.mem_of_getElem? (i := 102) rfl) rfl
theorem wly_RX1_4 : u_lay RX1 TX1 4 ∈ goTb := wt_1 (List.mem_of_getElem? (i := 104) rfl) rfl
theorem wly_RX1_5 : u_lay RX1 TX1 5 ∈ goTb := wt_1 (List.mem_of_getElem? (i := 106) rfl) rfl
theorem wly_RX1 : ∀ w ∈ u_ws RX1 TX1 6, w ∈ goTb := by
  intro w hw
  simp only [u_ws, List.mem_map, List.mem_range] at hw
  obtain ⟨k, hk, rfl⟩ := hw
  match k, hk with
  | 0, _ => exact wly_RX1_0
  | 1, _ => exact wly_RX1_1
  | 2, _ => exact wly_RX1_2
  | 3, _ => exact wly_RX1_3
  | 4, _ => exact wly_RX1_4
  | 5, _ => exact wly_RX1_5
  | k + 6, hk => exact absurd hk (by omega)
theorem wly_RX2_0 : u_lay RX2 TX2 0 ∈ goTb := wt_2 (List.mem_of_getElem? (i := 6) rfl) rfl
theorem wly_RX2_1 : u_lay RX2 TX2 1 ∈ goTb := wt_2 (List.mem_of_getElem? (i := 8) rfl) rfl
theorem wly_RX2_2 : u_lay RX2 TX2 2 ∈ goTb := wt_2 (List.mem_of_getElem? (i := 10) rfl) rfl
theorem wly_RX2_3 : u_lay RX2 TX2 3 ∈ goTb := wt_2 (List.mem_of_getElem? (i := 12) rfl) rfl
theorem wly_RX2_4 : u_lay RX2 TX2 4 ∈ goTb := wt_2 (List.mem_of_getElem? (i := 14) rfl) rfl
theorem wly_RX2 : ∀ w ∈ u_ws RX2 TX2 5, w ∈ goTb := by
  intro w hw
  simp only [u_ws, List.mem_map, List.mem_range] at hw
  obtain ⟨k, hk, rfl⟩ := hw
  match k, hk with
  | 0, _ => exact wly_RX2_0
  | 1, _ => exact wly_RX2_1
  | 2, _ => exact wly_RX2_2
  | 3, _ => exact wly_RX2_3
  | 4, _ => exact wly_RX2_4
  | k + 5, hk => exact absurd hk (by omega)
theorem wly_RX3_0 : u_lay RX3 TX3 0 ∈ goTb := wt_3 (List.mem_of_getElem? (i := 6) rfl) rfl
theorem wly_RX3_1 : u_lay RX3 TX3 1 ∈ goTb := wt_3 (List.mem_of_getElem? (i := 8) rfl) rfl
theorem wly_RX3_2 : u_lay RX3 TX3 2 ∈ goTb := wt_3 (List.mem_of_getElem? (i := 10) rfl) rfl
theorem wly_RX3_3 : u_lay RX3 TX3 3 ∈ goTb := wt_3 (List.mem_of_getElem? (i := 12) rfl) rfl
theorem wly_RX3_4 : u_lay RX3 TX3 4 ∈ goTb := wt_3 (List.mem_of_getElem? (i := 14) rfl) rfl
theorem wly_RX3_5 : u_lay RX3 TX3 5 ∈ goTb := wt_3 (List.mem_of_getElem? (i := 16) rfl) rfl
theorem wly_RX3_6 : u_lay RX3 TX3 6 ∈ goTb := wt_3 (List.mem_of_getElem? (i := 18) rfl) rfl
theorem wly_RX3_7 : u_lay RX3 TX3 7 ∈ goTb := wt_3 (List.mem_of_getElem? (i := 20) rfl) rfl
theorem wly_RX3_8 : u_lay RX3 TX3 8 ∈ goTb := wt_3 (List.mem_of_getElem? (i := 22) rfl) rfl
theorem wly_RX3_9 : u_lay RX3 TX3 9 ∈ goTb := wt_3 (List.mem_of_getElem? (i := 24) rfl) rfl
theorem wly_RX3_10 : u_lay RX3 TX3 10 ∈ goTb := wt_3 (List.mem_of_getElem? (i := 26) rfl) rfl
theorem wly_RX3 : ∀ w ∈ u_ws RX3 TX3 11, w ∈ goTb := by
  intro w hw
  simp only [u_ws, List.mem_map, List.mem_range] at hw
  obtain ⟨k, hk, rfl⟩ := hw
  match k, hk with
  | 0, _ => exact wly_RX3_0
  | 1, _ => exact wly_RX3_1
  | 2, _ => exact wly_RX3_2
  | 3, _ => exact wly_RX3_3
  | 4, _ => exact wly_RX3_4
  | 5, _ => exact wly_RX3_5
  | 6, _ => exact wly_RX3_6
  | 7, _ => exact wly_RX3_7
  | 8, _ => exact wly_RX3_8
  | 9, _ => exact wly_RX3_9
  | 10, _ => exact wly_RX3_10
  | k + 11, hk => exact absurd hk (by omega)
theorem wly_RX4_0 : u_lay RX4 TX4 0 ∈ goTb := wt_3 (List.mem_of_getElem? (i := 44) rfl) rfl
theorem wly_RX4_1 : u_lay RX4 TX4 1 ∈ goTb := wt_3 (List.mem_of_getElem? (i := 46) rfl) rfl
theorem wly_RX4_2 : u_lay RX4 TX4 2 ∈ goTb := wt_3 (List.mem_of_getElem? (i := 48) rfl) rfl
theorem wly_RX4_3 : u_lay RX4 TX4 3 ∈ goTb := wt_3 (List.mem_of_getElem? (i := 50) rfl) rfl
theorem wly_RX4_4 : u_lay RX4 TX4 4 ∈ goTb := wt_3 (List.mem_of_getElem? (i := 52) rfl) rfl
theorem wly_RX4_5 : u_lay RX4 TX4 5 ∈ goTb := wt_3 (List.mem_of_getElem? (i := 54) rfl) rfl
theorem wly_RX4_6 : u_lay RX4 TX4 6 ∈ goTb := wt_3 (List.mem_of_getElem? (i := 56) rfl) rfl
theorem wly_RX4_7 : u_lay RX4 TX4 7 ∈ goTb := wt_3 (List.mem_of_getElem? (i := 58) rfl) rfl
theorem wly_RX4_8 : u_lay RX4 TX4 8 ∈ goTb := wt_3 (List.mem_of_getElem? (i := 60) rfl) rfl
theorem wly_RX4_9 : u_lay RX4 TX4 9 ∈ goTb := wt_3 (List.mem_of_getElem? (i := 62) rfl) rfl
theorem wly_RX4_10 : u_lay RX4 TX4 10 ∈ goTb := wt_3 (List.mem_of_getElem? (i := 64) rfl) rfl
theorem wly_RX4_11 : u_lay RX4 TX4 11 ∈ goTb := wt_3 (List.mem_of_getElem? (i := 66) rfl) rfl
theorem wly_RX4 : ∀ w ∈ u_ws RX4 TX4 12, w ∈ goTb := by
  intro w hw
  simp only [u_ws, List.mem_map, List.mem_range] at hw
  obtain ⟨k, hk, rfl⟩ := hw
  match k, hk with
  | 0, _ => exact wly_RX4_0
  | 1, _ => exact wly_RX4_1
  | 2, _ => exact wly_RX4_2
  | 3, _ => exact wly_RX4_3
  | 4, _ => exact wly_RX4_4
  | 5, _ => exact wly_RX4_5
  | 6, _ => exact wly_RX4_6
  | 7, _ => exact wly_RX4_7
  | 8, _ => exact wly_RX4_8
  | 9, _ => exact wly_RX4_9
  | 10, _ => exact wly_RX4_10
  | 11, _ => exact wly_RX4_11
  | k + 12, hk => exact absurd hk (by omega)
theorem wly_RX5_0 : u_lay RX5 TX5 0 ∈ goTb := wt_1 (List.mem_of_getElem? (i := 169) rfl) rfl
theorem wly_RX5_1 : u_lay RX5 TX5 1 ∈ goTb := wt_1 (List.mem_of_getElem? (i := 171) rfl) rfl
theorem wly_RX5_2 : u_lay RX5 TX5 2 ∈ goTb := wt_1 (List.mem_of_getElem? (i := 173) rfl) rfl
theorem wly_RX5_3 : u_lay RX5 TX5 3 ∈ goTb := wt_1 (List.mem_of_getElem? (i := 175) rfl) rfl
theorem wly_RX5_4 : u_lay RX5 TX5 4 ∈ goTb := wt_1 (List.mem_of_getElem? (i := 177) rfl) rfl
theorem wly_RX5_5 : u_lay RX5 TX5 5 ∈ goTb := wt_1 (List.mem_of_getElem? (i := 179) rfl) rfl
theorem wly_RX5_6 : u_lay RX5 TX5 6 ∈ goTb := wt_1 (List.mem_of_getElem? (i := 181) rfl) rfl
theorem wly_RX5_7 : u_lay RX5 TX5 7 ∈ goTb := wt_1 (List.mem_of_getElem? (i := 183) rfl) rfl
theorem wly_RX5_8 : u_lay RX5 TX5 8 ∈ goTb := wt_1 (List.mem_of_getElem? (i := 185) rfl) rfl
theorem wly_RX5_9 : u_lay RX5 TX5 9 ∈ goTb := wt_1 (List.mem_of_getElem? (i := 187) rfl) rfl
theorem wly_RX5_10 : u_lay RX5 TX5 10 ∈ goTb := wt_1 (List.mem_of_getElem? (i := 189) rfl) rfl
theorem wly_RX5_11 : u_lay RX5 TX5 11 ∈ goTb := wt_1 (List.mem_of_getElem? (i := 191) rfl) rfl
theorem wly_RX5_12 : u_lay RX5 TX5 12 ∈ goTb := wt_1 (List.mem_of_getElem? (i := 193) rfl) rfl
theorem wly_RX5 : ∀ w ∈ u_ws RX5 TX5 13, w ∈ goTb := by
  intro w hw
  simp only [u_ws, List.mem_map, List.mem_range] at hw
  obtain ⟨k, hk, rfl⟩ := hw
  match k, hk with
  | 0, _ => exact wly_RX5_0
  | 1, _ => exact wly_RX5_1
  | 2, _ => exact wly_RX5_2
  | 3, _ => exact wly_RX5_3
  | 4, _ => exact wly_RX5_4
  | 5, _ => exact wly_RX5_5
  | 6, _ => exact wly_RX5_6
  | 7, _ => exact wly_RX5_7
  | 8, _ => exact wly_RX5_8
  | 9, _ => exact wly_RX5_9
  | 10, _ => exact wly_RX5_10
  | 11, _ => exact wly_RX5_11
  | 12, _ => exact wly_RX5_12
  | k + 13, hk => exact absurd hk (by omega)
theorem wly_RX6_0 : u_lay RX6 TX6 0 ∈ goTb := wt_2 (List.mem_of_getElem? (i := 77) rfl) rfl
theorem wly_RX6_1 : u_lay RX6 TX6 1 ∈ goTb := wt_2 (List.mem_of_getElem? (i := 79) rfl) rfl
theorem wly_RX6_2 : u_lay RX6 TX6 2 ∈ goTb := wt_2 (List.mem_of_getElem? (i := 81) rfl) rfl
theorem wly_RX6_3 : u_lay RX6 TX6 3 ∈ goTb := wt_2 (List.mem_of_getElem? (i := 83) rfl) rfl
theorem wly_RX6_4 : u_lay RX6 TX6 4 ∈ goTb := wt_2 (List.mem_of_getElem? (i := 85) rfl) rfl
theorem wly_RX6_5 : u_lay RX6 TX6 5 ∈ goTb := wt_2 (List.mem_of_getElem? (i := 87) rfl) rfl
theorem wly_RX6_6 : u_lay RX6 TX6 6 ∈ goTb := wt_2 (List.mem_of_getElem? (i := 89) rfl) rfl
theorem wly_RX6_7 : u_lay RX6 TX6 7 ∈ goTb := wt_2 (List.mem_of_getElem? (i := 91) rfl) rfl
theorem wly_RX6_8 : u_lay RX6 TX6 8 ∈ goTb := wt_2 (List.mem_of_getElem? (i := 93) rfl) rfl
theorem wly_RX6_9 : u_lay RX6 TX6 9 ∈ goTb := wt_2 (List.mem_of_getElem? (i := 95) rfl) rfl
theorem wly_RX6_10 : u_lay RX6 TX6 10 ∈ goTb := wt_2 (List.mem_of_getElem? (i := 97) rfl) rfl
theorem wly_RX6_11 : u_lay RX6 TX6 11 ∈ goTb := wt_2 (List.mem_of_getElem? (i := 99) rfl) rfl
theorem wly_RX6_12 : u_lay RX6 TX6 12 ∈ goTb := wt_2 (List.mem_of_getElem? (i := 101) rfl) rfl
theorem wly_RX6_13 : u_lay RX6 TX6 13 ∈ goTb := wt_2 (List.mem_of_getElem? (i := 103) rfl) rfl
theorem wly_RX6_14 : u_lay RX6 TX6 14 ∈ goTb := wt_2 (List.mem_of_getElem? (i := 105) rfl) rfl
theorem wly_RX6_15 : u_lay RX6 TX6 15 ∈ goTb := wt_2 (List.mem_of_getElem? (i := 107) rfl) rfl
theorem wly_RX6_16 : u_lay RX6 TX6 16 ∈ goTb := wt_2 (List.mem_of_getElem? (i := 109) rfl) rfl
theorem wly_RX6_17 : u_lay RX6 TX6 17 ∈ goTb := wt_2 (List.mem_of_getElem? (i := 111) rfl) rfl
theorem wly_RX6 : ∀ w ∈ u_ws RX6 TX6 18, w ∈ goTb := by
  intro w hw
  simp only [u_ws, List.mem_map, List.mem_range] at hw
  obtain ⟨k, hk, rfl⟩ := hw
  match k, hk with
  | 0, _ => exact wly_RX6_0
  | 1, _ => exact wly_RX6_1
  | 2, _ => exact wly_RX6_2
  | 3, _ => exact wly_RX6_3
  | 4, _ => exact wly_RX6_4
  | 5, _ => exact wly_RX6_5
  | 6, _ => exact wly_RX6_6
  | 7, _ => exact wly_RX6_7
  | 8, _ => exact wly_RX6_8
  | 9, _ => exact wly_RX6_9
  | 10, _ => exact wly_RX6_10
  | 11, _ => exact wly_RX6_11
  | 12, _ => exact wly_RX6_12
  | 13, _ => exact wly_RX6_13
  | 14, _ => exact wly_RX6_14
  | 15, _ => exact wly_RX6_15
  | 16, _ => exact wly_RX6_16
  | 17, _ => exact wly_RX6_17
  | k + 18, hk => exact absurd hk (by omega)
theorem wly_RX7_0 : u_lay RX7 TX7 0 ∈ goTb := wt_1 (List.mem_of_getElem? (i := 215) rfl) rfl
theorem wly_RX7_1 : u_lay RX7 TX7 1 ∈ goTb := wt_1 (List.mem_of_getElem? (i := 217) rfl) rfl
theorem wly_RX7_2 : u_lay RX7 TX7 2 ∈ goTb := wt_1 (List.mem_of_getElem? (i := 219) rfl) rfl
theorem wly_RX7_3 : u_lay RX7 TX7 3 ∈ goTb := wt_1 (List.mem_of_getElem? (i := 221) rfl) rfl
theorem wly_RX7_4 : u_lay RX7 TX7 4 ∈ goTb := wt_1 (List.mem_of_getElem? (i := 223) rfl) rfl
theorem wly_RX7_5 : u_lay RX7 TX7 5 ∈ goTb := wt_1 (List.mem_of_getElem? (i := 225) rfl) rfl
theorem wly_RX7_6 : u_lay RX7 TX7 6 ∈ goTb := wt_1 (List.mem_of_getElem? (i := 227) rfl) rfl
theorem wly_RX7 : ∀ w ∈ u_ws RX7 TX7 7, w ∈ goTb := by
  intro w hw
  simp only [u_ws, List.mem_map, List.mem_range] at hw
  obtain ⟨k, hk, rfl⟩ := hw
  match k, hk with
  | 0, _ => exact wly_RX7_0
  | 1, _ => exact wly_RX7_1
  | 2, _ => exact wly_RX7_2
  | 3, _ => exact wly_RX7_3
  | 4, _ => exact wly_RX7_4
  | 5, _ => exact wly_RX7_5
  | 6, _ => exact wly_RX7_6
  | k + 7, hk => exact absurd hk (by omega)
theorem wly_RX8_0 : u_lay RX8 TX8 0 ∈ goTb := wt_3 (List.mem_of_getElem? (i := 89) rfl) rfl
theorem wly_RX8_1 : u_lay RX8 TX8 1 ∈ goTb := wt_3 (List.mem_of_getElem? (i := 91) rfl) rfl
theorem wly_RX8_2 : u_lay RX8 TX8 2 ∈ goTb := wt_3 (List.mem_of_getElem? (i := 93) rfl) rfl
theorem wly_RX8_3 : u_lay RX8 TX8 3 ∈ goTb := wt_3 (List.mem_of_getElem? (i := 95) rfl) rfl
theorem wly_RX8_4 : u_lay RX8 TX8 4 ∈ goTb := wt_3 (List.mem_of_getElem? (i := 97) rfl) rfl
theorem wly_RX8_5 : u_lay RX8 TX8 5 ∈ goTb := wt_3 (List.mem_of_getElem? (i := 99) rfl) rfl
theorem wly_RX8_6 : u_lay RX8 TX8 6 ∈ goTb := wt_3 (List.mem_of_getElem? (i := 101) rfl) rfl
theorem wly_RX8_7 : u_lay RX8 TX8 7 ∈ goTb := wt_3 (List.mem_of_getElem? (i := 103) rfl) rfl
theorem wly_RX8_8 : u_lay RX8 TX8 8 ∈ goTb := wt_3 (List.mem_of_getElem? (i := 105) rfl) rfl
theorem wly_RX8_9 : u_lay RX8 TX8 9 ∈ goTb := wt_3 (List.mem_of_getElem? (i := 107) rfl) rfl
theorem wly_RX8 : ∀ w ∈ u_ws RX8 TX8 10, w ∈ goTb := by
  intro w hw
  simp only [u_ws, List.mem_map, List.mem_range] at hw
  obtain ⟨k, hk, rfl⟩ := hw
  match k, hk with
  | 0, _ => exact wly_RX8_0
  | 1, _ => exact wly_RX8_1
  | 2, _ => exact wly_RX8_2
  | 3, _ => exact wly_RX8_3
  | 4, _ => exact wly_RX8_4
  | 5, _ => exact wly_RX8_5
  | 6, _ => exact wly_RX8_6
  | 7, _ => exact wly_RX8_7
  | 8, _ => exact wly_RX8_8
  | 9, _ => exact wly_RX8_9
  | k + 10, hk => exact absurd hk (by omega)
theorem wly_RX9_0 : u_lay RX9 TX9 0 ∈ goTb := wt_2 (List.mem_of_getElem? (i := 188) rfl) rfl
theorem wly_RX9_1 : u_lay RX9 TX9 1 ∈ goTb := wt_2 (List.mem_of_getElem? (i := 190) rfl) rfl
theorem wly_RX9_2 : u_lay RX9 TX9 2 ∈ goTb := wt_2 (List.mem_of_getElem? (i := 192) rfl) rfl
theorem wly_RX9_3 : u_lay RX9 TX9 3 ∈ goTb := wt_2 (List.mem_of_getElem? (i := 194) rfl) rfl
theorem wly_RX9_4 : u_lay RX9 TX9 4 ∈ goTb := wt_2 (List.mem_of_getElem? (i := 196) rfl) rfl
theorem wly_RX9_5 : u_lay RX9 TX9 5 ∈ goTb := wt_2 (List.mem_of_getElem? (i := 198) rfl) rfl
theorem wly_RX9_6 : u_lay RX9 TX9 6 ∈ goTb := wt_2 (List.mem_of_getElem? (i := 200) rfl) rfl
theorem wly_RX9_7 : u_lay RX9 TX9 7 ∈ goTb := wt_2 (List.mem_of_getElem? (i := 202) rfl) rfl
theorem wly_RX9_8 : u_lay RX9 TX9 8 ∈ goTb := wt_2 (List.mem_of_getElem? (i := 204) rfl) rfl
theorem wly_RX9_9 : u_lay RX9 TX9 9 ∈ goTb := wt_2 (List.mem_of_getElem? (i := 206) rfl) rfl
theorem wly_RX9_10 : u_lay RX9 TX9 10 ∈ goTb := wt_2 (List.mem_of_getElem? (i := 208) rfl) rfl
theorem wly_RX9_11 : u_lay RX9 TX9 11 ∈ goTb := wt_2 (List.mem_of_getElem? (i := 210) rfl) rfl
theorem wly_RX9 : ∀ w ∈ u_ws RX9 TX9 12, w ∈ goTb := by
  intro w hw
  simp only [u_ws, List.mem_map, List.mem_range] at hw
  obtain ⟨k, hk, rfl⟩ := hw
  match k, hk with
  | 0, _ => exact wly_RX9_0
  | 1, _ => exact wly_RX9_1
  | 2, _ => exact wly_RX9_2
  | 3, _ => exact wly_RX9_3
  | 4, _ => exact wly_RX9_4
  | 5, _ => exact wly_RX9_5
  | 6, _ => exact wly_RX9_6
  | 7, _ => exact wly_RX9_7
  | 8, _ => exact wly_RX9_8
  | 9, _ => exact wly_RX9_9
  | 10, _ => exact wly_RX9_10
  | 11, _ => exact wly_RX9_11
  | k + 12, hk => exact absurd hk (by omega)
theorem wly_RX11_0 : u_lay RX11 TX11 0 ∈ goTb := wt_1 (List.mem_of_getElem? (i := 58) rfl) rfl
theorem wly_RX11_1 : u_lay RX11 TX11 1 ∈ goTb := wt_1 (List.mem_of_getElem? (i := 60) rfl) rfl
theorem wly_RX11_2 : u_lay RX11 TX11 2 ∈ goTb := wt_1 (List.mem_of_getElem? (i := 62) rfl) rfl
theorem wly_RX11_3 : u_lay RX11 TX11 3 ∈ goTb := wt_1 (List.mem_of_getElem? (i := 64) rfl) rfl
theorem wly_RX11_4 : u_lay RX11 TX11 4 ∈ goTb := wt_1 (List.mem_of_getElem? (i := 66) rfl) rfl
theorem wly_RX11_5 : u_lay RX11 TX11 5 ∈ goTb := wt_1 (List.mem_of_getElem? (i := 68) rfl) rfl
theorem wly_RX11_6 : u_lay RX11 TX11 6 ∈ goTb := wt_1 (List.mem_of_getElem? (i := 70) rfl) rfl
theorem wly_RX11_7 : u_lay RX11 TX11 7 ∈ goTb := wt_1 (List.mem_of_getElem? (i := 72) rfl) rfl
theorem wly_RX11_8 : u_lay RX11 TX11 8 ∈ goTb := wt_1 (List.mem_of_getElem? (i := 74) rfl) rfl
theorem wly_RX11 : ∀ w ∈ u_ws RX11 TX11 9, w ∈ goTb := by
  intro w hw
  simp only [u_ws, List.mem_map, List.mem_range] at hw
  obtain ⟨k, hk, rfl⟩ := hw
  match k, hk with
  | 0, _ => exact wly_RX11_0
  | 1, _ => exact wly_RX11_1
  | 2, _ => exact wly_RX11_2
  | 3, _ => exact wly_RX11_3
  | 4, _ => exact wly_RX11_4
  | 5, _ => exact wly_RX11_5
  | 6, _ => exact wly_RX11_6
  | 7, _ => exact wly_RX11_7
  | 8, _ => exact wly_RX11_8
  | k + 9, hk => exact absurd hk (by omega)
theorem wly_RX12_0 : u_lay RX12 TX12 0 ∈ goTb := wt_3 (List.mem_of_getElem? (i := 120) rfl) rfl
theorem wly_RX12_1 : u_lay RX12 TX12 1 ∈ goTb := wt_3 (List.mem_of_getElem? (i := 122) rfl) rfl
theorem wly_RX12_2 : u_lay RX12 TX12 2 ∈ goTb := wt_3 (List.mem_of_getElem? (i := 124) rfl) rfl
theorem wly_RX12_3 : u_lay RX12 TX12 3 ∈ goTb := wt_3 (List.mem_of_getElem? (i := 126) rfl) rfl
theorem wly_RX12_4 : u_lay RX12 TX12 4 ∈ goTb := wt_3 (List.mem_of_getElem? (i := 128) rfl) rfl
theorem wly_RX12_5 : u_lay RX12 TX12 5 ∈ goTb := wt_3 (List.mem_of_getElem? (i := 130) rfl) rfl
theorem wly_RX12_6 : u_lay RX12 TX12 6 ∈ goTb := wt_3 (List.mem_of_getElem? (i := 132) rfl) rfl
theorem wly_RX12_7 : u_lay RX12 TX12 7 ∈ goTb := wt_3 (List.mem_of_getElem? (i := 134) rfl) rfl
theorem wly_RX12_8 : u_lay RX12 TX12 8 ∈ goTb := wt_3 (List.mem_of_getElem? (i := 136) rfl) rfl
theorem wly_RX12 : ∀ w ∈ u_ws RX12 TX12 9, w ∈ goTb := by
  intro w hw
  simp only [u_ws, List.mem_map, List.mem_range] at hw
  obtain ⟨k, hk, rfl⟩ := hw
  match k, hk with
  | 0, _ => exact wly_RX12_0
  | 1, _ => exact wly_RX12_1
  | 2, _ => exact wly_RX12_2
  | 3, _ => exact wly_RX12_3
  | 4, _ => exact wly_RX12_4
  | 5, _ => exact wly_RX12_5
  | 6, _ => exact wly_RX12_6
  | 7, _ => exact wly_RX12_7
  | 8, _ => exact wly_RX12_8
  | k + 9, hk => exact absurd hk (by omega)
theorem wly_RX13_0 : u_lay RX13 TX13 0 ∈ goTb := wt_8 (List.mem_of_getElem? (i := 22) rfl) rfl
theorem wly_RX13_1 : u_lay RX13 TX13 1 ∈ goTb := wt_8 (List.mem_of_getElem? (i := 24) rfl) rfl
theorem wly_RX13_2 : u_lay RX13 TX13 2 ∈ goTb := wt_8 (List.mem_of_getElem? (i := 26) rfl) rfl
theorem wly_RX13_3 : u_lay RX13 TX13 3 ∈ goTb := wt_8 (List.mem_of_getElem? (i := 28) rfl) rfl
theorem wly_RX13_4 : u_lay RX13 TX13 4 ∈ goTb := wt_8 (List.mem_of_getElem? (i := 30) rfl) rfl
theorem wly_RX13_5 : u_lay RX13 TX13 5 ∈ goTb := wt_8 (List.mem_of_getElem? (i := 32) rfl) rfl
theorem wly_RX13_6 : u_lay RX13 TX13 6 ∈ goTb := wt_8 (List.mem_of_getElem? (i := 34) rfl) rfl
theorem wly_RX13_7 : u_lay RX13 TX13 7 ∈ goTb := wt_8 (List.mem_of_getElem? (i := 36) rfl) rfl
theorem wly_RX13_8 : u_lay RX13 TX13 8 ∈ goTb := wt_8 (List.mem_of_getElem? (i := 38) rfl) rfl
theorem wly_RX13_9 : u_lay RX13 TX13 9 ∈ goTb := wt_8 (List.mem_of_getElem? (i := 40) rfl) rfl
theorem wly_RX13_10 : u_lay RX13 TX13 10 ∈ goTb := wt_8 (List.mem_of_getElem? (i := 42) rfl) rfl
theorem wly_RX13_11 : u_lay RX13 TX13 11 ∈ goTb := wt_8 (List.mem_of_getElem? (i := 44) rfl) rfl
theorem wly_RX13_12 : u_lay RX13 TX13 12 ∈ goTb := wt_8 (List.mem_of_getElem? (i := 46) rfl) rfl
theorem wly_RX13_13 : u_lay RX13 TX13 13 ∈ goTb := wt_8 (List.mem_of_getElem? (i := 48) rfl) rfl
theorem wly_RX13_14 : u_lay RX13 TX13 14 ∈ goTb := wt_8 (List.mem_of_getElem? (i := 50) rfl) rfl
theorem wly_RX13_15 : u_lay RX13 TX13 15 ∈ goTb := wt_8 (List.mem_of_getElem? (i := 52) rfl) rfl
theorem wly_RX13_16 : u_lay RX13 TX13 16 ∈ goTb := wt_8 (List.mem_of_getElem? (i := 54) rfl) rfl
theorem wly_RX13_17 : u_lay RX13 TX13 17 ∈ goTb := wt_8 (List.mem_of_getElem? (i := 56) rfl) rfl
theorem wly_RX13_18 : u_lay RX13 TX13 18 ∈ goTb := wt_8 (List.mem_of_getElem? (i := 58) rfl) rfl
theorem wly_RX13_19 : u_lay RX13 TX13 19 ∈ goTb := wt_8 (List.mem_of_getElem? (i := 60) rfl) rfl
theorem wly_RX13_20 : u_lay RX13 TX13 20 ∈ goTb := wt_8 (List.mem_of_getElem? (i := 62) rfl) rfl
theorem wly_RX13_21 : u_lay RX13 TX13 21 ∈ goTb := wt_8 (List.mem_of_getElem? (i := 64) rfl) rfl
theorem wly_RX13_22 : u_lay RX13 TX13 22 ∈ goTb := wt_8 (List.mem_of_getElem? (i := 66) rfl) rfl
theorem wly_RX13_23 : u_lay RX13 TX13 23 ∈ goTb := wt_8 (List.mem_of_getElem? (i := 68) rfl) rfl
theorem wly_RX13_24 : u_lay RX13 TX13 24 ∈ goTb := wt_8 (List.mem_of_getElem? (i := 70) rfl) rfl
theorem wly_RX13_25 : u_lay RX13 TX13 25 ∈ goTb := wt_8 (List.mem_of_getElem? (i := 72) rfl) rfl
theorem wly_RX13_26 : u_lay RX13 TX13 26 ∈ goTb := wt_8 (List.mem_of_getElem? (i := 74) rfl) rfl
theorem wly_RX13_27 : u_lay RX13 TX13 27 ∈ goTb := wt_8 (List.mem_of_getElem? (i := 76) rfl) rfl
theorem wly_RX13_28 : u_lay RX13 TX13 28 ∈ goTb := wt_8 (List.mem_of_getElem? (i := 78) rfl) rfl
theorem wly_RX13_29 : u_lay RX13 TX13 29 ∈ goTb := wt_8 (List.mem_of_getElem? (i := 80) rfl) rfl
theorem wly_RX13_30 : u_lay RX13 TX13 30 ∈ goTb := wt_8 (List.mem_of_getElem? (i := 82) rfl) rfl
theorem wly_RX13_31 : u_lay RX13 TX13 31 ∈ goTb := wt_8 (List.mem_of_getElem? (i := 84) rfl) rfl
theorem wly_RX13_32 : u_lay RX13 TX13 32 ∈ goTb := wt_8 (List.mem_of_getElem? (i := 86) rfl) rfl
theorem wly_RX13_33 : u_lay RX13 TX13 33 ∈ goTb := wt_8 (List.mem_of_getElem? (i := 88) rfl) rfl
theorem wly_RX13_34 : u_lay RX13 TX13 34 ∈ goTb := wt_8 (List.mem_of_getElem? (i := 90) rfl) rfl
theorem wly_RX13_35 : u_lay RX13 TX13 35 ∈ goTb := wt_8 (List.mem_of_getElem? (i := 92) rfl) rfl
theorem wly_RX13_36 : u_lay RX13 TX13 36 ∈ goTb := wt_8 (List.mem_of_getElem? (i := 94) rfl) rfl
theorem wly_RX13_37 : u_lay RX13 TX13 37 ∈ goTb := wt_8 (List.mem_of_getElem? (i := 96) rfl) rfl
theorem wly_RX13_38 : u_lay RX13 TX13 38 ∈ goTb := wt_8 (List.mem_of_getElem? (i := 98) rfl) rfl
theorem wly_RX13_39 : u_lay RX13 TX13 39 ∈ goTb := wt_8 (List.mem_of_getElem? (i := 100) rfl) rfl
theorem wly_RX13_40 : u_lay RX13 TX13 40 ∈ goTb := wt_8 (List.mem_of_getElem? (i := 102) rfl) rfl
theorem wly_RX13 : ∀ w ∈ u_ws RX13 TX13 41, w ∈ goTb := by
  intro w hw
  simp only [u_ws, List.mem_map, List.mem_range] at hw
  obtain ⟨k, hk, rfl⟩ := hw
  match k, hk with
  | 0, _ => exact wly_RX13_0
  | 1, _ => exact wly_RX13_1
  | 2, _ => exact wly_RX13_2
  | 3, _ => exact wly_RX13_3
  | 4, _ => exact wly_RX13_4
  | 5, _ => exact wly_RX13_5
  | 6, _ => exact wly_RX13_6
  | 7, _ => exact wly_RX13_7
  | 8, _ => exact wly_RX13_8
  | 9, _ => exact wly_RX13_9
  | 10, _ => exact wly_RX13_10
  | 11, _ => exact wly_RX13_11
  | 12, _ => exact wly_RX13_12
  | 13, _ => exact wly_RX13_13
  | 14, _ => exact wly_RX13_14
  | 15, _ => exact wly_RX13_15
  | 16, _ => exact wly_RX13_16
  | 17, _ => exact wly_RX13_17
  | 18, _ => exact wly_RX13_18
  | 19, _ => exact wly_RX13_19
  | 20, _ => exact wly_RX13_20
  | 21, _ => exact wly_RX13_21
  | 22, _ => exact wly_RX13_22
  | 23, _ => exact wly_RX13_23
  | 24, _ => exact wly_RX13_24
  | 25, _ => exact wly_RX13_25
  | 26, _ => exact wly_RX13_26
  | 27, _ => exact wly_RX13_27
  | 28, _ => exact wly_RX13_28
  | 29, _ => exact wly_RX13_29
  | 30, _ => exact wly_RX13_30
  | 31, _ => exact wly_RX13_31
  | 32, _ => exact wly_RX13_32
  | 33, _ => exact wly_RX13_33
  | 34, _ => exact wly_RX13_34
  | 35, _ => exact wly_RX13_35
  | 36, _ => exact wly_RX13_36
  | 37, _ => exact wly_RX13_37
  | 38, _ => exact wly_RX13_38
  | 39, _ => exact wly_RX13_39
  | 40, _ => exact wly_RX13_40
  | k + 41, hk => exact absurd hk (by omega)
theorem wly_RX14_0 : u_lay RX14 TX14 0 ∈ goTb := wt_7 (List.mem_of_getElem? (i := 92) rfl) rfl
theorem wly_RX14_1 : u_lay RX14 TX14 1 ∈ goTb := wt_7 (List.mem_of_getElem? (i := 94) rfl) rfl
theorem wly_RX14_2 : u_lay RX14 TX14 2 ∈ goTb := wt_7 (List.mem_of_getElem? (i := 96) rfl) rfl
theorem wly_RX14_3 : u_lay RX14 TX14 3 ∈ goTb := wt_7 (List.mem_of_getElem? (i := 98) rfl) rfl
theorem wly_RX14_4 : u_lay RX14 TX14 4 ∈ goTb := wt_7 (List.mem_of_getElem? (i := 100) rfl) rfl
theorem wly_RX14_5 : u_lay RX14 TX14 5 ∈ goTb := wt_7 (List.mem_of_getElem? (i := 102) rfl) rfl
theorem wly_RX14_6 : u_lay RX14 TX14 6 ∈ goTb := wt_7 (List.mem_of_getElem? (i := 104) rfl) rfl
theorem wly_RX14_7 : u_lay RX14 TX14 7 ∈ goTb := wt_7 (List.mem_of_getElem? (i := 106) rfl) rfl
theorem wly_RX14_8 : u_lay RX14 TX14 8 ∈ goTb := wt_7 (List.mem_of_getElem? (i := 108) rfl) rfl
theorem wly_RX14_9 : u_lay RX14 TX14 9 ∈ goTb := wt_7 (List.mem_of_getElem? (i := 110) rfl) rfl
theorem wly_RX14_10 : u_lay RX14 TX14 10 ∈ goTb := wt_7 (List.mem_of_getElem? (i := 112) rfl) rfl
theorem wly_RX14_11 : u_lay RX14 TX14 11 ∈ goTb := wt_7 (List.mem_of_getElem? (i := 114) rfl) rfl
theorem wly_RX14_12 : u_lay RX14 TX14 12 ∈ goTb := wt_7 (List.mem_of_getElem? (i := 116) rfl) rfl
theorem wly_RX14_13 : u_lay RX14 TX14 13 ∈ goTb := wt_7 (List.mem_of_getElem? (i := 118) rfl) rfl
theorem wly_RX14_14 : u_lay RX14 TX14 14 ∈ goTb := wt_7 (List.mem_of_getElem? (i := 120) rfl) rfl
theorem wly_RX14_15 : u_lay RX14 TX14 15 ∈ goTb := wt_7 (List.mem_of_getElem? (i := 122) rfl) rfl
theorem wly_RX14_16 : u_lay RX14 TX14 16 ∈ goTb := wt_7 (List.mem_of_getElem? (i := 124) rfl) rfl
theorem wly_RX14_17 : u_lay RX14 TX14 17 ∈ goTb := wt_7 (List.mem_of_getElem? (i := 126) rfl) rfl
theorem wly_RX14_18 : u_lay RX14 TX14 18 ∈ goTb := wt_7 (List.mem_of_getElem? (i := 128) rfl) rfl
theorem wly_RX14_19 : u_lay RX14 TX14 19 ∈ goTb := wt_7 (List.mem_of_getElem? (i := 130) rfl) rfl
theorem wly_RX14_20 : u_lay RX14 TX14 20 ∈ goTb := wt_7 (List.mem_of_getElem? (i := 132) rfl) rfl
theorem wly_RX14_21 : u_lay RX14 TX14 21 ∈ goTb := wt_7 (List.mem_of_getElem? (i := 134) rfl) rfl
theorem wly_RX14_22 : u_lay RX14 TX14 22 ∈ goTb := wt_7 (List.mem_of_getElem? (i := 136) rfl) rfl
theorem wly_RX14_23 : u_lay RX14 TX14 23 ∈ goTb := wt_7 (List.mem_of_getElem? (i := 138) rfl) rfl
theorem wly_RX14_24 : u_lay RX14 TX14 24 ∈ goTb := wt_7 (List.mem_of_getElem? (i := 140) rfl) rfl
theorem wly_RX14_25 : u_lay RX14 TX14 25 ∈ goTb := wt_7 (List.mem_of_getElem? (i := 142) rfl) rfl
theorem wly_RX14_26 : u_lay RX14 TX14 26 ∈ goTb := wt_7 (List.mem_of_getElem? (i := 144) rfl) rfl
theorem wly_RX14_27 : u_lay RX14 TX14 27 ∈ goTb := wt_7 (List.mem_of_getElem? (i := 146) rfl) rfl
theorem wly_RX14_28 : u_lay RX14 TX14 28 ∈ goTb := wt_7 (List.mem_of_getElem? (i := 148) rfl) rfl
theorem wly_RX14_29 : u_lay RX14 TX14 29 ∈ goTb := wt_7 (List.mem_of_getElem? (i := 150) rfl) rfl
theorem wly_RX14_30 : u_lay RX14 TX14 30 ∈ goTb := wt_7 (List.mem_of_getElem? (i := 152) rfl) rfl
theorem wly_RX14_31 : u_lay RX14 TX14 31 ∈ goTb := wt_7 (List.mem_of_getElem? (i := 154) rfl) rfl
theorem wly_RX14_32 : u_lay RX14 TX14 32 ∈ goTb := wt_7 (List.mem_of_getElem? (i := 156) rfl) rfl
theorem wly_RX14_33 : u_lay RX14 TX14 33 ∈ goTb := wt_7 (List.mem_of_getElem? (i := 158) rfl) rfl
theorem wly_RX14_34 : u_lay RX14 TX14 34 ∈ goTb := wt_7 (List.mem_of_getElem? (i := 160) rfl) rfl
theorem wly_RX14_35 : u_lay RX14 TX14 35 ∈ goTb := wt_7 (List.mem_of_getElem? (i := 162) rfl) rfl
theorem wly_RX14_36 : u_lay RX14 TX14 36 ∈ goTb := wt_7 (List.mem_of_getElem? (i := 164) rfl) rfl
theorem wly_RX14_37 : u_lay RX14 TX14 37 ∈ goTb := wt_7 (List.mem_of_getElem? (i := 166) rfl) rfl
theorem wly_RX14_38 : u_lay RX14 TX14 38 ∈ goTb := wt_7 (List.mem_of_getElem? (i := 168) rfl) rfl
theorem wly_RX14 : ∀ w ∈ u_ws RX14 TX14 39, w ∈ goTb := by
  intro w hw
  simp only [u_ws, List.mem_map, List.mem_range] at hw
  obtain ⟨k, hk, rfl⟩ := hw
  match k, hk with
  | 0, _ => exact wly_RX14_0
  | 1, _ => exact wly_RX14_1
  | 2, _ => exact wly_RX14_2
  | 3, _ => exact wly_RX14_3
  | 4, _ => exact wly_RX14_4
  | 5, _ => exact wly_RX14_5
  | 6, _ => exact wly_RX14_6
  | 7, _ => exact wly_RX14_7
  | 8, _ => exact wly_RX14_8
  | 9, _ => exact wly_RX14_9
  | 10, _ => exact wly_RX14_10
  | 11, _ => exact wly_RX14_11
  | 12, _ => exact wly_RX14_12
  | 13, _ => exact wly_RX14_13
  | 14, _ => exact wly_RX14_14
  | 15, _ => exact wly_RX14_15
  | 16, _ => exact wly_RX14_16
  | 17, _ => exact wly_RX14_17
  | 18, _ => exact wly_RX14_18
  | 19, _ => exact wly_RX14_19
  | 20, _ => exact wly_RX14_20
  | 21, _ => exact wly_RX14_21
  | 22, _ => exact wly_RX14_22
  | 23, _ => exact wly_RX14_23
  | 24, _ => exact wly_RX14_24
  | 25, _ => exact wly_RX14_25
  | 26, _ => exact wly_RX14_26
  | 27, _ => exact wly_RX14_27
  | 28, _ => exact wly_RX14_28
  | 29, _ => exact wly_RX14_29
  | 30, _ => exact wly_RX14_30
  | 31, _ => exact wly_RX14_31
  | 32, _ => exact wly_RX14_32
  | 33, _ => exact wly_RX14_33
  | 34, _ => exact wly_RX14_34
  | 35, _ => exact wly_RX14_35
  | 36, _ => exact wly_RX14_36
  | 37, _ => exact wly_RX14_37
  | 38, _ => exact wly_RX14_38
  | k + 39, hk => exact absurd hk (by omega)
