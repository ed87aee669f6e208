theorem qm_tbm_1 : tables_1_1 ∈ qm_tb := List.mem_of_getElem? (i := 1) rfl
theorem qm_tbm_2 : tables_1_2 ∈ qm_tb := List.mem_of_getElem? (i := 2) rfl
theorem qm_tbm_3 : tables_1_3 ∈ qm_tb := List.mem_of_getElem? (i := 3) rfl
theorem qm_tbm_4 : tables_1_4 ∈ qm_tb := List.mem_of_getElem? (i := 4) rfl
theorem qm_tbm_5 : tables_1_5 ∈ qm_tb := List.mem_of_getElem? (i := 5) rfl
theorem qm_tbm_6 : tables_1_6 ∈ qm_tb := List.mem_of_getElem? (i := 6) rfl
theorem qm_tb_mem {l : List Cond} {p : Nat} {w : Cond} (hl : l ∈ qm_tb) (h : l[p]? = some w) (hg : goodWord w = true) : w ∈ qm_tbl := List.mem_filter.mpr ⟨qm_tb_sub l hl w (List.mem_of_getElem? h), hg⟩
theorem qw_0 : Cond.code (qm_y 0) (qm_b 0) (qm_ml 0) (qm_ret 0) ∈ qm_tbl := qm_tb_mem (p := 149) qm_tbm_3 rfl rfl
theorem qw_1 : Cond.code (qm_y 1) (qm_b 1) (qm_ml 1) (qm_ret 1) ∈ qm_tbl := qm_tb_mem (p := 220) qm_tbm_1 rfl rfl
theorem qw_2 : Cond.code (qm_y 2) (qm_b 2) (qm_ml 2) (qm_ret 2) ∈ qm_tbl := qm_tb_mem (p := 56) qm_tbm_3 rfl rfl
theorem qw_3 : Cond.code (qm_y 3) (qm_b 3) (qm_ml 3) (qm_ret 3) ∈ qm_tbl := qm_tb_mem (p := 49) qm_tbm_2 rfl rfl
theorem qw_4 : Cond.code (qm_y 4) (qm_b 4) (qm_ml 4) (qm_ret 4) ∈ qm_tbl := qm_tb_mem (p := 53) qm_tbm_2 rfl rfl
theorem qw_5 : Cond.code (qm_y 5) (qm_b 5) (qm_ml 5) (qm_ret 5) ∈ qm_tbl := qm_tb_mem (p := 63) qm_tbm_2 rfl rfl
theorem qw_6 : Cond.code (qm_y 6) (qm_b 6) (qm_ml 6) (qm_ret 6) ∈ qm_tbl := qm_tb_mem (p := 59) qm_tbm_2 rfl rfl
theorem qw_7 : Cond.code (qm_y 7) (qm_b 7) (qm_ml 7) (qm_ret 7) ∈ qm_tbl := qm_tb_mem (p := 66) qm_tbm_2 rfl rfl
theorem qw_8 : Cond.code (qm_y 8) (qm_b 8) (qm_ml 8) (qm_ret 8) ∈ qm_tbl := qm_tb_mem (p := 69) qm_tbm_2 rfl rfl
theorem qw_9 : Cond.code (qm_y 9) (qm_b 9) (qm_ml 9) (qm_ret 9) ∈ qm_tbl := qm_tb_mem (p := 74) qm_tbm_2 rfl rfl
theorem qw_10 : Cond.code (qm_y 10) (qm_b 10) (qm_ml 10) (qm_ret 10) ∈ qm_tbl := qm_tb_mem (p := 32) qm_tbm_3 rfl rfl
theorem qw_11 : Cond.code (qm_y 11) (qm_b 11) (qm_ml 11) (qm_ret 11) ∈ qm_tbl := qm_tb_mem (p := 53) qm_tbm_3 rfl rfl
theorem qw_12 : Cond.code (qm_y 12) (qm_b 12) (qm_ml 12) (qm_ret 12) ∈ qm_tbl := qm_tb_mem (p := 85) qm_tbm_3 rfl rfl
theorem qw_13 : Cond.code (qm_y 13) (qm_b 13) (qm_ml 13) (qm_ret 13) ∈ qm_tbl := qm_tb_mem (p := 37) qm_tbm_3 rfl rfl
theorem qw_14 : Cond.code (qm_y 14) (qm_b 14) (qm_ml 14) (qm_ret 14) ∈ qm_tbl := qm_tb_mem (p := 64) qm_tbm_3 rfl rfl
theorem qw_15 : Cond.code (qm_y 15) (qm_b 15) (qm_ml 15) (qm_ret 15) ∈ qm_tbl := qm_tb_mem (p := 68) qm_tbm_3 rfl rfl
theorem qw_16 : Cond.code (qm_y 16) (qm_b 16) (qm_ml 16) (qm_ret 16) ∈ qm_tbl := qm_tb_mem (p := 60) qm_tbm_3 rfl rfl
theorem qw_17 : Cond.code (qm_y 17) (qm_b 17) (qm_ml 17) (qm_ret 17) ∈ qm_tbl := qm_tb_mem (p := 76) qm_tbm_3 rfl rfl
theorem qw_18 : Cond.code (qm_y 18) (qm_b 18) (qm_ml 18) (qm_ret 18) ∈ qm_tbl := qm_tb_mem (p := 81) qm_tbm_3 rfl rfl
theorem qw_19 : Cond.code (qm_y 19) (qm_b 19) (qm_ml 19) (qm_ret 19) ∈ qm_tbl := qm_tb_mem (p := 43) qm_tbm_3 rfl rfl
theorem qw_20 : Cond.code (qm_y 20) (qm_b 20) (qm_ml 20) (qm_ret 20) ∈ qm_tbl := qm_tb_mem (p := 49) qm_tbm_3 rfl rfl
theorem qw_21 : Cond.code (qm_y 21) (qm_b 21) (qm_ml 21) (qm_ret 21) ∈ qm_tbl := qm_tb_mem (p := 46) qm_tbm_3 rfl rfl
theorem qw_22 : Cond.code (qm_y 22) (qm_b 22) (qm_ml 22) (qm_ret 22) ∈ qm_tbl := qm_tb_mem (p := 209) qm_tbm_1 rfl rfl
theorem qw_23 : Cond.code (qm_y 23) (qm_b 23) (qm_ml 23) (qm_ret 23) ∈ qm_tbl := qm_tb_mem (p := 131) qm_tbm_2 rfl rfl
theorem qw_24 : Cond.code (qm_y 24) (qm_b 24) (qm_ml 24) (qm_ret 24) ∈ qm_tbl := qm_tb_mem (p := 239) qm_tbm_1 rfl rfl
theorem qw_25 : Cond.code (qm_y 25) (qm_b 25) (qm_ml 25) (qm_ret 25) ∈ qm_tbl := qm_tb_mem (p := 6) qm_tbm_2 rfl rfl
theorem qw_26 : Cond.code (qm_y 26) (qm_b 26) (qm_ml 26) (qm_ret 26) ∈ qm_tbl := qm_tb_mem (p := 119) qm_tbm_2 rfl rfl
theorem qw_27 : Cond.code (qm_y 27) (qm_b 27) (qm_ml 27) (qm_ret 27) ∈ qm_tbl := qm_tb_mem (p := 26) qm_tbm_2 rfl rfl
theorem qw_28 : Cond.code (qm_y 28) (qm_b 28) (qm_ml 28) (qm_ret 28) ∈ qm_tbl := qm_tb_mem (p := 23) qm_tbm_2 rfl rfl
theorem qw_29 : Cond.code (qm_y 29) (qm_b 29) (qm_ml 29) (qm_ret 29) ∈ qm_tbl := qm_tb_mem (p := 172) qm_tbm_2 rfl rfl
theorem qw_30 : Cond.code (qm_y 30) (qm_b 30) (qm_ml 30) (qm_ret 30) ∈ qm_tbl := qm_tb_mem (p := 236) qm_tbm_1 rfl rfl
theorem qw_31 : Cond.code (qm_y 31) (qm_b 31) (qm_ml 31) (qm_ret 31) ∈ qm_tbl := qm_tb_mem (p := 3) qm_tbm_2 rfl rfl
theorem qw_32 : Cond.code (qm_y 32) (qm_b 32) (qm_ml 32) (qm_ret 32) ∈ qm_tbl := qm_tb_mem (p := 19) qm_tbm_2 rfl rfl
theorem qw_33 : Cond.code (qm_y 33) (qm_b 33) (qm_ml 33) (qm_ret 33) ∈ qm_tbl := qm_tb_mem (p := 168) qm_tbm_2 rfl rfl
theorem qw_34 : Cond.code (qm_y 34) (qm_b 34) (qm_ml 34) (qm_ret 34) ∈ qm_tbl := qm_tb_mem (p := 211) qm_tbm_3 rfl rfl
theorem qw_35 : Cond.code (qm_y 35) (qm_b 35) (qm_ml 35) (qm_ret 35) ∈ qm_tbl := qm_tb_mem (p := 32) qm_tbm_2 rfl rfl
theorem qw_36 : Cond.code (qm_y 36) (qm_b 36) (qm_ml 36) (qm_ret 36) ∈ qm_tbl := qm_tb_mem (p := 164) qm_tbm_2 rfl rfl
theorem qw_37 : Cond.code (qm_y 37) (qm_b 37) (qm_ml 37) (qm_ret 37) ∈ qm_tbl := qm_tb_mem (p := 14) qm_tbm_2 rfl rfl
theorem qw_38 : Cond.code (qm_y 38) (qm_b 38) (qm_ml 38) (qm_ret 38) ∈ qm_tbl := qm_tb_mem (p := 150) qm_tbm_2 rfl rfl
theorem qw_39 : Cond.code (qm_y 39) (qm_b 39) (qm_ml 39) (qm_ret 39) ∈ qm_tbl := qm_tb_mem (p := 146) qm_tbm_2 rfl rfl
theorem qw_40 : Cond.code (qm_y 40) (qm_b 40) (qm_ml 40) (qm_ret 40) ∈ qm_tbl := qm_tb_mem (p := 10) qm_tbm_2 rfl rfl
theorem qw_41 : Cond.code (qm_y 41) (qm_b 41) (qm_ml 41) (qm_ret 41) ∈ qm_tbl := qm_tb_mem (p := 114) qm_tbm_3 rfl rfl
theorem qw_42 : Cond.code (qm_y 42) (qm_b 42) (qm_ml 42) (qm_ret 42) ∈ qm_tbl := qm_tb_mem (p := 106) qm_tbm_3 rfl rfl
theorem qw_43 : Cond.code (qm_y 43) (qm_b 43) (qm_ml 43) (qm_ret 43) ∈ qm_tbl := qm_tb_mem (p := 154) qm_tbm_2 rfl rfl
theorem qw_44 : Cond.code (qm_y 44) (qm_b 44) (qm_ml 44) (qm_ret 44) ∈ qm_tbl := qm_tb_mem (p := 127) qm_tbm_2 rfl rfl
theorem qw_45 : Cond.code (qm_y 45) (qm_b 45) (qm_ml 45) (qm_ret 45) ∈ qm_tbl := qm_tb_mem (p := 123) qm_tbm_2 rfl rfl
theorem qw_46 : Cond.code (qm_y 46) (qm_b 46) (qm_ml 46) (qm_ret 46) ∈ qm_tbl := qm_tb_mem (p := 199) qm_tbm_3 rfl rfl
theorem qw_47 : Cond.code (qm_y 47) (qm_b 47) (qm_ml 47) (qm_ret 47) ∈ qm_tbl := qm_tb_mem (p := 214) qm_tbm_2 rfl rfl
theorem qw_48 : Cond.code (qm_y 48) (qm_b 48) (qm_ml 48) (qm_ret 48) ∈ qm_tbl := qm_tb_mem (p := 226) qm_tbm_2 rfl rfl
theorem qw_49 : Cond.code (qm_y 49) (qm_b 49) (qm_ml 49) (qm_ret 49) ∈ qm_tbl := qm_tb_mem (p := 193) qm_tbm_2 rfl rfl
theorem qw_50 : Cond.code (qm_y 50) (qm_b 50) (qm_ml 50) (qm_ret 50) ∈ qm_tbl := qm_tb_mem (p := 189) qm_tbm_2 rfl rfl
theorem qw_51 : Cond.code (qm_y 51) (qm_b 51) (qm_ml 51) (qm_ret 51) ∈ qm_tbl := qm_tb_mem (p := 185) qm_tbm_2 rfl rfl
theorem qw_52 : Cond.code (qm_y 52) (qm_b 52) (qm_ml 52) (qm_ret 52) ∈ qm_tbl := qm_tb_mem (p := 77) qm_tbm_4 rfl rfl
theorem qw_53 : Cond.code (qm_y 53) (qm_b 53) (qm_ml 53) (qm_ret 53) ∈ qm_tbl := qm_tb_mem (p := 181) qm_tbm_2 rfl rfl
theorem qw_54 : Cond.code (qm_y 54) (qm_b 54) (qm_ml 54) (qm_ret 54) ∈ qm_tbl := qm_tb_mem (p := 19) qm_tbm_3 rfl rfl
theorem qw_55 : Cond.code (qm_y 55) (qm_b 55) (qm_ml 55) (qm_ret 55) ∈ qm_tbl := qm_tb_mem (p := 177) qm_tbm_2 rfl rfl
theorem qw_56 : Cond.code (qm_y 56) (qm_b 56) (qm_ml 56) (qm_ret 56) ∈ qm_tbl := qm_tb_mem (p := 215) qm_tbm_3 rfl rfl
theorem qw_57 : Cond.code (qm_y 57) (qm_b 57) (qm_ml 57) (qm_ret 57) ∈ qm_tbl := qm_tb_mem (p := 223) qm_tbm_3 rfl rfl
theorem qw_58 : Cond.code (qm_y 58) (qm_b 58) (qm_ml 58) (qm_ret 58) ∈ qm_tbl := qm_tb_mem (p := 219) qm_tbm_3 rfl rfl
theorem qw_59 : Cond.code (qm_y 59) (qm_b 59) (qm_ml 59) (qm_ret 59) ∈ qm_tbl := qm_tb_mem (p := 131) qm_tbm_3 rfl rfl
theorem qw_60 : Cond.code (qm_y 60) (qm_b 60) (qm_ml 60) (qm_ret 60) ∈ qm_tbl := qm_tb_mem (p := 73) qm_tbm_4 rfl rfl
theorem qw_61 : Cond.code (qm_y 61) (qm_b 61) (qm_ml 61) (qm_ret 61) ∈ qm_tbl := qm_tb_mem (p := 135) qm_tbm_3 rfl rfl
theorem qw_62 : Cond.code (qm_y 62) (qm_b 62) (qm_ml 62) (qm_ret 62) ∈ qm_tbl := qm_tb_mem (p := 127) qm_tbm_3 rfl rfl
theorem qw_63 : Cond.code (qm_y 63) (qm_b 63) (qm_ml 63) (qm_ret 63) ∈ qm_tbl := qm_tb_mem (p := 160) qm_tbm_3 rfl rfl
theorem qw_64 : Cond.code (qm_y 64) (qm_b 64) (qm_ml 64) (qm_ret 64) ∈ qm_tbl := qm_tb_mem (p := 176) qm_tbm_3 rfl rfl
theorem qw_65 : Cond.code (qm_y 65) (qm_b 65) (qm_ml 65) (qm_ret 65) ∈ qm_tbl := qm_tb_mem (p := 12) qm_tbm_4 rfl rfl
theorem qw_66 : Cond.code (qm_y 66) (qm_b 66) (qm_ml 66) (qm_ret 66) ∈ qm_tbl := qm_tb_mem (p := 15) qm_tbm_4 rfl rfl
theorem qw_67 : Cond.code (qm_y 67) (qm_b 67) (qm_ml 67) (qm_ret 67) ∈ qm_tbl := qm_tb_mem (p := 28) qm_tbm_4 rfl rfl
theorem qw_68 : Cond.code (qm_y 68) (qm_b 68) (qm_ml 68) (qm_ret 68) ∈ qm_tbl := qm_tb_mem (p := 32) qm_tbm_4 rfl rfl
theorem qw_69 : Cond.code (qm_y 69) (qm_b 69) (qm_ml 69) (qm_ret 69) ∈ qm_tbl := qm_tb_mem (p := 61) qm_tbm_4 rfl rfl
theorem qw_70 : Cond.code (qm_y 70) (qm_b 70) (qm_ml 70) (qm_ret 70) ∈ qm_tbl := qm_tb_mem (p := 19) qm_tbm_4 rfl rfl
theorem qw_71 : Cond.code (qm_y 71) (qm_b 71) (qm_ml 71) (qm_ret 71) ∈ qm_tbl := qm_tb_mem (p := 37) qm_tbm_4 rfl rfl
theorem qw_72 : Cond.code (qm_y 72) (qm_b 72) (qm_ml 72) (qm_ret 72) ∈ qm_tbl := qm_tb_mem (p := 41) qm_tbm_4 rfl rfl
theorem qw_73 : Cond.code (qm_y 73) (qm_b 73) (qm_ml 73) (qm_ret 73) ∈ qm_tbl := qm_tb_mem (p := 49) qm_tbm_4 rfl rfl
theorem qw_74 : Cond.code (qm_y 74) (qm_b 74) (qm_ml 74) (qm_ret 74) ∈ qm_tbl := qm_tb_mem (p := 53) qm_tbm_4 rfl rfl
theorem qw_75 : Cond.code (qm_y 75) (qm_b 75) (qm_ml 75) (qm_ret 75) ∈ qm_tbl := qm_tb_mem (p := 189) qm_tbm_1 rfl rfl
theorem qw_76 : Cond.code (qm_y 76) (qm_b 76) (qm_ml 76) (qm_ret 76) ∈ qm_tbl := qm_tb_mem (p := 201) qm_tbm_1 rfl rfl
theorem qw_77 : Cond.code (qm_y 77) (qm_b 77) (qm_ml 77) (qm_ret 77) ∈ qm_tbl := qm_tb_mem (p := 205) qm_tbm_1 rfl rfl
theorem qw_78 : Cond.code (qm_y 78) (qm_b 78) (qm_ml 78) (qm_ret 78) ∈ qm_tbl := qm_tb_mem (p := 228) qm_tbm_1 rfl rfl
theorem qw_79 : Cond.code (qm_y 79) (qm_b 79) (qm_ml 79) (qm_ret 79) ∈ qm_tbl := qm_tb_mem (p := 36) qm_tbm_2 rfl rfl
theorem qw_80 : Cond.code (qm_y 80) (qm_b 80) (qm_ml 80) (qm_ret 80) ∈ qm_tbl := qm_tb_mem (p := 102) qm_tbm_2 rfl rfl
theorem qw_81 : Cond.code (qm_y 81) (qm_b 81) (qm_ml 81) (qm_ret 81) ∈ qm_tbl := qm_tb_mem (p := 114) qm_tbm_2 rfl rfl
theorem qw_82 : Cond.code (qm_y 82) (qm_b 82) (qm_ml 82) (qm_ret 82) ∈ qm_tbl := qm_tb_mem (p := 106) qm_tbm_2 rfl rfl
theorem qw_83 : Cond.code (qm_y 83) (qm_b 83) (qm_ml 83) (qm_ret 83) ∈ qm_tbl := qm_tb_mem (p := 110) qm_tbm_2 rfl rfl
theorem qw_84 : Cond.code (qm_y 84) (qm_b 84) (qm_ml 84) (qm_ret 84) ∈ qm_tbl := qm_tb_mem (p := 232) qm_tbm_1 rfl rfl
theorem qw_85 : Cond.code (qm_y 85) (qm_b 85) (qm_ml 85) (qm_ret 85) ∈ qm_tbl := qm_tb_mem (p := 213) qm_tbm_1 rfl rfl
theorem qw_86 : Cond.code (qm_y 86) (qm_b 86) (qm_ml 86) (qm_ret 86) ∈ qm_tbl := qm_tb_mem (p := 217) qm_tbm_1 rfl rfl
theorem qw_87 : Cond.code (qm_y 87) (qm_b 87) (qm_ml 87) (qm_ret 87) ∈ qm_tbl := qm_tb_mem (p := 224) qm_tbm_1 rfl rfl
theorem qw_88 : Cond.code (qm_y 88) (qm_b 88) (qm_ml 88) (qm_ret 88) ∈ qm_tbl := qm_tb_mem (p := 40) qm_tbm_2 rfl rfl
theorem qw_89 : Cond.code (qm_y 89) (qm_b 89) (qm_ml 89) (qm_ret 89) ∈ qm_tbl := qm_tb_mem (p := 45) qm_tbm_2 rfl rfl
theorem qw_90 : Cond.code (qm_y 90) (qm_b 90) (qm_ml 90) (qm_ret 90) ∈ qm_tbl := qm_tb_mem (p := 185) qm_tbm_1 rfl rfl
theorem qw_91 : Cond.code (qm_y 91) (qm_b 91) (qm_ml 91) (qm_ret 91) ∈ qm_tbl := qm_tb_mem (p := 193) qm_tbm_1 rfl rfl
theorem qw_92 : Cond.code (qm_y 92) (qm_b 92) (qm_ml 92) (qm_ret 92) ∈ qm_tbl := qm_tb_mem (p := 197) qm_tbm_1 rfl rfl
theorem qw_93 : Cond.code (qm_y 93) (qm_b 93) (qm_ml 93) (qm_ret 93) ∈ qm_tbl := qm_tb_mem (p := 138) qm_tbm_2 rfl rfl
theorem qw_94 : Cond.code (qm_y 94) (qm_b 94) (qm_ml 94) (qm_ret 94) ∈ qm_tbl := qm_tb_mem (p := 142) qm_tbm_2 rfl rfl
theorem qw_95 : Cond.code (qm_y 95) (qm_b 95) (qm_ml 95) (qm_ret 95) ∈ qm_tbl := qm_tb_mem (p := 158) qm_tbm_2 rfl rfl
theorem qw_96 : Cond.code (qm_y 96) (qm_b 96) (qm_ml 96) (qm_ret 96) ∈ qm_tbl := qm_tb_mem (p := 197) qm_tbm_2 rfl rfl
theorem qw_97 : Cond.code (qm_y 97) (qm_b 97) (qm_ml 97) (qm_ret 97) ∈ qm_tbl := qm_tb_mem (p := 204) qm_tbm_2 rfl rfl
theorem qw_98 : Cond.code (qm_y 98) (qm_b 98) (qm_ml 98) (qm_ret 98) ∈ qm_tbl := qm_tb_mem (p := 210) qm_tbm_2 rfl rfl
theorem qw_99 : Cond.code (qm_y 99) (qm_b 99) (qm_ml 99) (qm_ret 99) ∈ qm_tbl := qm_tb_mem (p := 222) qm_tbm_2 rfl rfl
theorem qw_100 : Cond.code (qm_y 100) (qm_b 100) (qm_ml 100) (qm_ret 100) ∈ qm_tbl := qm_tb_mem (p := 230) qm_tbm_2 rfl rfl
theorem qw_101 : Cond.code (qm_y 101) (qm_b 101) (qm_ml 101) (qm_ret 101) ∈ qm_tbl := qm_tb_mem (p := 235) qm_tbm_2 rfl rfl
theorem qw_102 : Cond.code (qm_y 102) (qm_b 102) (qm_ml 102) (qm_ret 102) ∈ qm_tbl := qm_tb_mem (p := 0) qm_tbm_3 rfl rfl
theorem qw_103 : Cond.code (qm_y 103) (qm_b 103) (qm_ml 103) (qm_ret 103) ∈ qm_tbl := qm_tb_mem (p := 5) qm_tbm_3 rfl rfl
theorem qw_104 : Cond.code (qm_y 104) (qm_b 104) (qm_ml 104) (qm_ret 104) ∈ qm_tbl := qm_tb_mem (p := 9) qm_tbm_3 rfl rfl
theorem qw_105 : Cond.code (qm_y 105) (qm_b 105) (qm_ml 105) (qm_ret 105) ∈ qm_tbl := qm_tb_mem (p := 15) qm_tbm_3 rfl rfl
theorem qw_106 : Cond.code (qm_y 106) (qm_b 106) (qm_ml 106) (qm_ret 106) ∈ qm_tbl := qm_tb_mem (p := 28) qm_tbm_3 rfl rfl
theorem qw_107 : Cond.code (qm_y 107) (qm_b 107) (qm_ml 107) (qm_ret 107) ∈ qm_tbl := qm_tb_mem (p := 72) qm_tbm_3 rfl rfl
theorem qw_108 : Cond.code (qm_y 108) (qm_b 108) (qm_ml 108) (qm_ret 108) ∈ qm_tbl := qm_tb_mem (p := 89) qm_tbm_3 rfl rfl
theorem qw_109 : Cond.code (qm_y 109) (qm_b 109) (qm_ml 109) (qm_ret 109) ∈ qm_tbl := qm_tb_mem (p := 94) qm_tbm_3 rfl rfl
theorem qw_110 : Cond.code (qm_y 110) (qm_b 110) (qm_ml 110) (qm_ret 110) ∈ qm_tbl := qm_tb_mem (p := 102) qm_tbm_3 rfl rfl
theorem qw_111 : Cond.code (qm_y 111) (qm_b 111) (qm_ml 111) (qm_ret 111) ∈ qm_tbl := qm_tb_mem (p := 110) qm_tbm_3 rfl rfl
theorem qw_112 : Cond.code (qm_y 112) (qm_b 112) (qm_ml 112) (qm_ret 112) ∈ qm_tbl := qm_tb_mem (p := 123) qm_tbm_3 rfl rfl
theorem qw_113 : Cond.code (qm_y 113) (qm_b 113) (qm_ml 113) (qm_ret 113) ∈ qm_tbl := qm_tb_mem (p := 142) qm_tbm_3 rfl rfl
theorem qw_114 : Cond.code (qm_y 114) (qm_b 114) (qm_ml 114) (qm_ret 114) ∈ qm_tbl := qm_tb_mem (p := 146) qm_tbm_3 rfl rfl
theorem qw_115 : Cond.code (qm_y 115) (qm_b 115) (qm_ml 115) (qm_ret 115) ∈ qm_tbl := qm_tb_mem (p := 156) qm_tbm_3 rfl rfl
theorem qw_116 : Cond.code (qm_y 116) (qm_b 116) (qm_ml 116) (qm_ret 116) ∈ qm_tbl := qm_tb_mem (p := 164) qm_tbm_3 rfl rfl
theorem qw_117 : Cond.code (qm_y 117) (qm_b 117) (qm_ml 117) (qm_ret 117) ∈ qm_tbl := qm_tb_mem (p := 187) qm_tbm_3 rfl rfl
theorem qw_118 : Cond.code (qm_y 118) (qm_b 118) (qm_ml 118) (qm_ret 118) ∈ qm_tbl := qm_tb_mem (p := 191) qm_tbm_3 rfl rfl
theorem qw_119 : Cond.code (qm_y 119) (qm_b 119) (qm_ml 119) (qm_ret 119) ∈ qm_tbl := qm_tb_mem (p := 195) qm_tbm_3 rfl rfl
theorem qw_120 : Cond.code (qm_y 120) (qm_b 120) (qm_ml 120) (qm_ret 120) ∈ qm_tbl := qm_tb_mem (p := 203) qm_tbm_3 rfl rfl
theorem qw_121 : Cond.code (qm_y 121) (qm_b 121) (qm_ml 121) (qm_ret 121) ∈ qm_tbl := qm_tb_mem (p := 207) qm_tbm_3 rfl rfl
theorem qw_122 : Cond.code (qm_y 122) (qm_b 122) (qm_ml 122) (qm_ret 122) ∈ qm_tbl := qm_tb_mem (p := 228) qm_tbm_3 rfl rfl
theorem qw_123 : Cond.code (qm_y 123) (qm_b 123) (qm_ml 123) (qm_ret 123) ∈ qm_tbl := qm_tb_mem (p := 234) qm_tbm_3 rfl rfl
theorem qw_124 : Cond.code (qm_y 124) (qm_b 124) (qm_ml 124) (qm_ret 124) ∈ qm_tbl := qm_tb_mem (p := 5) qm_tbm_4 rfl rfl
theorem qw_125 : Cond.code (qm_y 125) (qm_b 125) (qm_ml 125) (qm_ret 125) ∈ qm_tbl := qm_tb_mem (p := 9) qm_tbm_4 rfl rfl
theorem qw_126 : Cond.code (qm_y 126) (qm_b 126) (qm_ml 126) (qm_ret 126) ∈ qm_tbl := qm_tb_mem (p := 24) qm_tbm_4 rfl rfl
theorem qw_127 : Cond.code (qm_y 127) (qm_b 127) (qm_ml 127) (qm_ret 127) ∈ qm_tbl := qm_tb_mem (p := 45) qm_tbm_4 rfl rfl
theorem qw_128 : Cond.code (qm_y 128) (qm_b 128) (qm_ml 128) (qm_ret 128) ∈ qm_tbl := qm_tb_mem (p := 65) qm_tbm_4 rfl rfl
theorem qw_129 : Cond.code (qm_y 129) (qm_b 129) (qm_ml 129) (qm_ret 129) ∈ qm_tbl := qm_tb_mem (p := 69) qm_tbm_4 rfl rfl
theorem qw_130 : Cond.code (qm_y 130) (qm_b 130) (qm_ml 130) (qm_ret 130) ∈ qm_tbl := qm_tb_mem (p := 57) qm_tbm_4 rfl rfl
theorem qw_131 : Cond.code (qm_y 131) (qm_b 131) (qm_ml 131) (qm_ret 131) ∈ qm_tbl := qm_tb_mem (p := 23) qm_tbm_3 rfl rfl
theorem qw_132 : Cond.code (qm_y 132) (qm_b 132) (qm_ml 132) (qm_ret 132) ∈ qm_tbl := qm_tb_mem (p := 98) qm_tbm_3 rfl rfl
theorem qw_133 : Cond.code (qm_y 133) (qm_b 133) (qm_ml 133) (qm_ret 133) ∈ qm_tbl := qm_tb_mem (p := 119) qm_tbm_3 rfl rfl
theorem qw_134 : Cond.code (qm_y 134) (qm_b 134) (qm_ml 134) (qm_ret 134) ∈ qm_tbl := qm_tb_mem (p := 1) qm_tbm_4 rfl rfl
theorem qw_135 : Cond.code (qm_y 135) (qm_b 135) (qm_ml 135) (qm_ret 135) ∈ qm_tbl := qm_tb_mem (p := 237) qm_tbm_3 rfl rfl
theorem qw_136 : Cond.code (qm_y 136) (qm_b 136) (qm_ml 136) (qm_ret 136) ∈ qm_tbl := qm_tb_mem (p := 167) qm_tbm_3 rfl rfl
theorem qw_137 : Cond.code (qm_y 137) (qm_b 137) (qm_ml 137) (qm_ret 137) ∈ qm_tbl := qm_tb_mem (p := 170) qm_tbm_3 rfl rfl
theorem qw_138 : Cond.code (qm_y 138) (qm_b 138) (qm_ml 138) (qm_ret 138) ∈ qm_tbl := qm_tb_mem (p := 138) qm_tbm_3 rfl rfl
theorem qw_139 : Cond.code (qm_y 139) (qm_b 139) (qm_ml 139) (qm_ret 139) ∈ qm_tbl := qm_tb_mem (p := 180) qm_tbm_3 rfl rfl
theorem qw_140 : Cond.code (qm_y 140) (qm_b 140) (qm_ml 140) (qm_ret 140) ∈ qm_tbl := qm_tb_mem (p := 183) qm_tbm_3 rfl rfl
theorem qw_141 : Cond.code (qm_y 141) (qm_b 141) (qm_ml 141) (qm_ret 141) ∈ qm_tbl := qm_tb_mem (p := 178) qm_tbm_4 rfl rfl
theorem qw_142 : Cond.code (qm_y 142) (qm_b 142) (qm_ml 142) (qm_ret 142) ∈ qm_tbl := qm_tb_mem (p := 9) qm_tbm_5 rfl rfl
theorem qw_143 : Cond.code (qm_y 143) (qm_b 143) (qm_ml 143) (qm_ret 143) ∈ qm_tbl := qm_tb_mem (p := 87) qm_tbm_4 rfl rfl
theorem qw_144 : Cond.code (qm_y 144) (qm_b 144) (qm_ml 144) (qm_ret 144) ∈ qm_tbl := qm_tb_mem (p := 91) qm_tbm_4 rfl rfl
theorem qw_145 : Cond.code (qm_y 145) (qm_b 145) (qm_ml 145) (qm_ret 145) ∈ qm_tbl := qm_tb_mem (p := 174) qm_tbm_4 rfl rfl
theorem qw_146 : Cond.code (qm_y 146) (qm_b 146) (qm_ml 146) (qm_ret 146) ∈ qm_tbl := qm_tb_mem (p := 182) qm_tbm_4 rfl rfl
theorem qw_147 : Cond.code (qm_y 147) (qm_b 147) (qm_ml 147) (qm_ret 147) ∈ qm_tbl := qm_tb_mem (p := 202) qm_tbm_4 rfl rfl
theorem qw_148 : Cond.code (qm_y 148) (qm_b 148) (qm_ml 148) (qm_ret 148) ∈ qm_tbl := qm_tb_mem (p := 194) qm_tbm_4 rfl rfl
theorem qw_149 : Cond.code (qm_y 149) (qm_b 149) (qm_ml 149) (qm_ret 149) ∈ qm_tbl := qm_tb_mem (p := 214) qm_tbm_4 rfl rfl
theorem qw_150 : Cond.code (qm_y 150) (qm_b 150) (qm_ml 150) (qm_ret 150) ∈ qm_tbl := qm_tb_mem (p := 218) qm_tbm_4 rfl rfl
theorem qw_151 : Cond.code (qm_y 151) (qm_b 151) (qm_ml 151) (qm_ret 151) ∈ qm_tbl := qm_tb_mem (p := 210) qm_tbm_4 rfl rfl
theorem qw_152 : Cond.code (qm_y 152) (qm_b 152) (qm_ml 152) (qm_ret 152) ∈ qm_tbl := qm_tb_mem (p := 190) qm_tbm_4 rfl rfl
theorem qw_153 : Cond.code (qm_y 153) (qm_b 153) (qm_ml 153) (qm_ret 153) ∈ qm_tbl := qm_tb_mem (p := 230) qm_tbm_4 rfl rfl
theorem qw_154 : Cond.code (qm_y 154) (qm_b 154) (qm_ml 154) (qm_ret 154) ∈ qm_tbl := qm_tb_mem (p := 226) qm_tbm_4 rfl rfl
theorem qw_155 : Cond.code (qm_y 155) (qm_b 155) (qm_ml 155) (qm_ret 155) ∈ qm_tbl := qm_tb_mem (p := 238) qm_tbm_4 rfl rfl
theorem qw_156 : Cond.code (qm_y 156) (qm_b 156) (qm_ml 156) (qm_ret 156) ∈ qm_tbl := qm_tb_mem (p := 234) qm_tbm_4 rfl rfl
theorem qw_157 : Cond.code (qm_y 157) (qm_b 157) (qm_ml 157) (qm_ret 157) ∈ qm_tbl := qm_tb_mem (p := 2) qm_tbm_5 rfl rfl
theorem qw_158 : Cond.code (qm_y 158) (qm_b 158) (qm_ml 158) (qm_ret 158) ∈ qm_tbl := qm_tb_mem (p := 222) qm_tbm_4 rfl rfl
theorem qw_159 : Cond.code (qm_y 159) (qm_b 159) (qm_ml 159) (qm_ret 159) ∈ qm_tbl := qm_tb_mem (p := 206) qm_tbm_4 rfl rfl
theorem qw_160 : Cond.code (qm_y 160) (qm_b 160) (qm_ml 160) (qm_ret 160) ∈ qm_tbl := qm_tb_mem (p := 12) qm_tbm_5 rfl rfl
theorem qw_161 : Cond.code (qm_y 161) (qm_b 161) (qm_ml 161) (qm_ret 161) ∈ qm_tbl := qm_tb_mem (p := 6) qm_tbm_5 rfl rfl
theorem qw_162 : Cond.code (qm_y 162) (qm_b 162) (qm_ml 162) (qm_ret 162) ∈ qm_tbl := qm_tb_mem (p := 186) qm_tbm_4 rfl rfl
theorem qw_163 : Cond.code (qm_y 163) (qm_b 163) (qm_ml 163) (qm_ret 163) ∈ qm_tbl := qm_tb_mem (p := 16) qm_tbm_5 rfl rfl
theorem qw_164 : Cond.code (qm_y 164) (qm_b 164) (qm_ml 164) (qm_ret 164) ∈ qm_tbl := qm_tb_mem (p := 48) qm_tbm_5 rfl rfl
theorem qw_165 : Cond.code (qm_y 165) (qm_b 165) (qm_ml 165) (qm_ret 165) ∈ qm_tbl := qm_tb_mem (p := 80) qm_tbm_5 rfl rfl
theorem qw_166 : Cond.code (qm_y 166) (qm_b 166) (qm_ml 166) (qm_ret 166) ∈ qm_tbl := qm_tb_mem (p := 100) qm_tbm_5 rfl rfl
theorem qw_167 : Cond.code (qm_y 167) (qm_b 167) (qm_ml 167) (qm_ret 167) ∈ qm_tbl := qm_tb_mem (p := 91) qm_tbm_5 rfl rfl
theorem qw_168 : Cond.code (qm_y 168) (qm_b 168) (qm_ml 168) (qm_ret 168) ∈ qm_tbl := qm_tb_mem (p := 83) qm_tbm_5 rfl rfl
theorem qw_169 : Cond.code (qm_y 169) (qm_b 169) (qm_ml 169) (qm_ret 169) ∈ qm_tbl := qm_tb_mem (p := 24) qm_tbm_5 rfl rfl
theorem qw_170 : Cond.code (qm_y 170) (qm_b 170) (qm_ml 170) (qm_ret 170) ∈ qm_tbl := qm_tb_mem (p := 118) qm_tbm_5 rfl rfl
theorem qw_171 : Cond.code (qm_y 171) (qm_b 171) (qm_ml 171) (qm_ret 171) ∈ qm_tbl := qm_tb_mem (p := 40) qm_tbm_5 rfl rfl
theorem qw_172 : Cond.code (qm_y 172) (qm_b 172) (qm_ml 172) (qm_ret 172) ∈ qm_tbl := qm_tb_mem (p := 64) qm_tbm_5 rfl rfl
theorem qw_173 : Cond.code (qm_y 173) (qm_b 173) (qm_ml 173) (qm_ret 173) ∈ qm_tbl := qm_tb_mem (p := 32) qm_tbm_5 rfl rfl
theorem qw_174 : Cond.code (qm_y 174) (qm_b 174) (qm_ml 174) (qm_ret 174) ∈ qm_tbl := qm_tb_mem (p := 36) qm_tbm_5 rfl rfl
theorem qw_175 : Cond.code (qm_y 175) (qm_b 175) (qm_ml 175) (qm_ret 175) ∈ qm_tbl := qm_tb_mem (p := 68) qm_tbm_5 rfl rfl
theorem qw_176 : Cond.code (qm_y 176) (qm_b 176) (qm_ml 176) (qm_ret 176) ∈ qm_tbl := qm_tb_mem (p := 28) qm_tbm_5 rfl rfl
theorem qw_177 : Cond.code (qm_y 177) (qm_b 177) (qm_ml 177) (qm_ret 177) ∈ qm_tbl := qm_tb_mem (p := 114) qm_tbm_5 rfl rfl
theorem qw_178 : Cond.code (qm_y 178) (qm_b 178) (qm_ml 178) (qm_ret 178) ∈ qm_tbl := qm_tb_mem (p := 60) qm_tbm_5 rfl rfl
theorem qw_179 : Cond.code (qm_y 179) (qm_b 179) (qm_ml 179) (qm_ret 179) ∈ qm_tbl := qm_tb_mem (p := 56) qm_tbm_5 rfl rfl
theorem qw_180 : Cond.code (qm_y 180) (qm_b 180) (qm_ml 180) (qm_ret 180) ∈ qm_tbl := qm_tb_mem (p := 52) qm_tbm_5 rfl rfl
theorem qw_181 : Cond.code (qm_y 181) (qm_b 181) (qm_ml 181) (qm_ret 181) ∈ qm_tbl := qm_tb_mem (p := 147) qm_tbm_5 rfl rfl
theorem qw_182 : Cond.code (qm_y 182) (qm_b 182) (qm_ml 182) (qm_ret 182) ∈ qm_tbl := qm_tb_mem (p := 72) qm_tbm_5 rfl rfl
theorem qw_183 : Cond.code (qm_y 183) (qm_b 183) (qm_ml 183) (qm_ret 183) ∈ qm_tbl := qm_tb_mem (p := 156) qm_tbm_5 rfl rfl
theorem qw_184 : Cond.code (qm_y 184) (qm_b 184) (qm_ml 184) (qm_ret 184) ∈ qm_tbl := qm_tb_mem (p := 20) qm_tbm_5 rfl rfl
theorem qw_185 : Cond.code (qm_y 185) (qm_b 185) (qm_ml 185) (qm_ret 185) ∈ qm_tbl := qm_tb_mem (p := 44) qm_tbm_5 rfl rfl
theorem qw_186 : Cond.code (qm_y 186) (qm_b 186) (qm_ml 186) (qm_ret 186) ∈ qm_tbl := qm_tb_mem (p := 76) qm_tbm_5 rfl rfl
theorem qw_187 : Cond.code (qm_y 187) (qm_b 187) (qm_ml 187) (qm_ret 187) ∈ qm_tbl := qm_tb_mem (p := 87) qm_tbm_5 rfl rfl
theorem qw_188 : Cond.code (qm_y 188) (qm_b 188) (qm_ml 188) (qm_ret 188) ∈ qm_tbl := qm_tb_mem (p := 106) qm_tbm_5 rfl rfl
theorem qw_189 : Cond.code (qm_y 189) (qm_b 189) (qm_ml 189) (qm_ret 189) ∈ qm_tbl := qm_tb_mem (p := 96) qm_tbm_5 rfl rfl
theorem qw_190 : Cond.code (qm_y 190) (qm_b 190) (qm_ml 190) (qm_ret 190) ∈ qm_tbl := qm_tb_mem (p := 110) qm_tbm_5 rfl rfl
theorem qw_191 : Cond.code (qm_y 191) (qm_b 191) (qm_ml 191) (qm_ret 191) ∈ qm_tbl := qm_tb_mem (p := 122) qm_tbm_5 rfl rfl
theorem qw_192 : Cond.code (qm_y 192) (qm_b 192) (qm_ml 192) (qm_ret 192) ∈ qm_tbl := qm_tb_mem (p := 130) qm_tbm_5 rfl rfl
theorem qw_193 : Cond.code (qm_y 193) (qm_b 193) (qm_ml 193) (qm_ret 193) ∈ qm_tbl := qm_tb_mem (p := 126) qm_tbm_5 rfl rfl
theorem qw_194 : Cond.code (qm_y 194) (qm_b 194) (qm_ml 194) (qm_ret 194) ∈ qm_tbl := qm_tb_mem (p := 134) qm_tbm_5 rfl rfl
theorem qw_195 : Cond.code (qm_y 195) (qm_b 195) (qm_ml 195) (qm_ret 195) ∈ qm_tbl := qm_tb_mem (p := 138) qm_tbm_5 rfl rfl
theorem qw_196 : Cond.code (qm_y 196) (qm_b 196) (qm_ml 196) (qm_ret 196) ∈ qm_tbl := qm_tb_mem (p := 143) qm_tbm_5 rfl rfl
theorem qw_197 : Cond.code (qm_y 197) (qm_b 197) (qm_ml 197) (qm_ret 197) ∈ qm_tbl := qm_tb_mem (p := 151) qm_tbm_5 rfl rfl
theorem qw_198 : Cond.code (qm_y 198) (qm_b 198) (qm_ml 198) (qm_ret 198) ∈ qm_tbl := qm_tb_mem (p := 176) qm_tbm_5 rfl rfl
theorem qw_199 : Cond.code (qm_y 199) (qm_b 199) (qm_ml 199) (qm_ret 199) ∈ qm_tbl := qm_tb_mem (p := 180) qm_tbm_5 rfl rfl
theorem qw_200 : Cond.code (qm_y 200) (qm_b 200) (qm_ml 200) (qm_ret 200) ∈ qm_tbl := qm_tb_mem (p := 172) qm_tbm_5 rfl rfl
theorem qw_201 : Cond.code (qm_y 201) (qm_b 201) (qm_ml 201) (qm_ret 201) ∈ qm_tbl := qm_tb_mem (p := 169) qm_tbm_5 rfl rfl
theorem qw_202 : Cond.code (qm_y 202) (qm_b 202) (qm_ml 202) (qm_ret 202) ∈ qm_tbl := qm_tb_mem (p := 165) qm_tbm_5 rfl rfl
theorem qw_203 : Cond.code (qm_y 203) (qm_b 203) (qm_ml 203) (qm_ret 203) ∈ qm_tbl := qm_tb_mem (p := 160) qm_tbm_5 rfl rfl
theorem qw_204 : Cond.code (qm_y 204) (qm_b 204) (qm_ml 204) (qm_ret 204) ∈ qm_tbl := qm_tb_mem (p := 189) qm_tbm_5 rfl rfl
theorem qw_205 : Cond.code (qm_y 205) (qm_b 205) (qm_ml 205) (qm_ret 205) ∈ qm_tbl := qm_tb_mem (p := 185) qm_tbm_5 rfl rfl
theorem qw_206 : Cond.code (qm_y 206) (qm_b 206) (qm_ml 206) (qm_ret 206) ∈ qm_tbl := qm_tb_mem (p := 193) qm_tbm_5 rfl rfl
theorem qw_207 : Cond.code (qm_y 207) (qm_b 207) (qm_ml 207) (qm_ret 207) ∈ qm_tbl := qm_tb_mem (p := 204) qm_tbm_5 rfl rfl
theorem qw_208 : Cond.code (qm_y 208) (qm_b 208) (qm_ml 208) (qm_ret 208) ∈ qm_tbl := qm_tb_mem (p := 201) qm_tbm_5 rfl rfl
theorem qw_209 : Cond.code (qm_y 209) (qm_b 209) (qm_ml 209) (qm_ret 209) ∈ qm_tbl := qm_tb_mem (p := 197) qm_tbm_5 rfl rfl
theorem qw_210 : Cond.code (qm_y 210) (qm_b 210) (qm_ml 210) (qm_ret 210) ∈ qm_tbl := qm_tb_mem (p := 208) qm_tbm_5 rfl rfl
theorem qw_211 : Cond.code (qm_y 211) (qm_b 211) (qm_ml 211) (qm_ret 211) ∈ qm_tbl := qm_tb_mem (p := 212) qm_tbm_5 rfl rfl
theorem qw_212 : Cond.code (qm_y 212) (qm_b 212) (qm_ml 212) (qm_ret 212) ∈ qm_tbl := qm_tb_mem (p := 228) qm_tbm_5 rfl rfl
theorem qw_213 : Cond.code (qm_y 213) (qm_b 213) (qm_ml 213) (qm_ret 213) ∈ qm_tbl := qm_tb_mem (p := 224) qm_tbm_5 rfl rfl
theorem qw_214 : Cond.code (qm_y 214) (qm_b 214) (qm_ml 214) (qm_ret 214) ∈ qm_tbl := qm_tb_mem (p := 220) qm_tbm_5 rfl rfl
theorem qw_215 : Cond.code (qm_y 215) (qm_b 215) (qm_ml 215) (qm_ret 215) ∈ qm_tbl := qm_tb_mem (p := 216) qm_tbm_5 rfl rfl
theorem qw_216 : Cond.code (qm_y 216) (qm_b 216) (qm_ml 216) (qm_ret 216) ∈ qm_tbl := qm_tb_mem (p := 232) qm_tbm_5 rfl rfl
theorem qw_217 : Cond.code (qm_y 217) (qm_b 217) (qm_ml 217) (qm_ret 217) ∈ qm_tbl := qm_tb_mem (p := 236) qm_tbm_5 rfl rfl
theorem qw_218 : Cond.code (qm_y 218) (qm_b 218) (qm_ml 218) (qm_ret 218) ∈ qm_tbl := qm_tb_mem (p := 0) qm_tbm_6 rfl rfl
theorem qw_219 : Cond.code (qm_y 219) (qm_b 219) (qm_ml 219) (qm_ret 219) ∈ qm_tbl := qm_tb_mem (p := 16) qm_tbm_6 rfl rfl
theorem qw_220 : Cond.code (qm_y 220) (qm_b 220) (qm_ml 220) (qm_ret 220) ∈ qm_tbl := qm_tb_mem (p := 13) qm_tbm_6 rfl rfl
theorem qw_221 : Cond.code (qm_y 221) (qm_b 221) (qm_ml 221) (qm_ret 221) ∈ qm_tbl := qm_tb_mem (p := 9) qm_tbm_6 rfl rfl
theorem qw_222 : Cond.code (qm_y 222) (qm_b 222) (qm_ml 222) (qm_ret 222) ∈ qm_tbl := qm_tb_mem (p := 4) qm_tbm_6 rfl rfl
theorem qw_223 : Cond.code (qm_y 223) (qm_b 223) (qm_ml 223) (qm_ret 223) ∈ qm_tbl := qm_tb_mem (p := 20) qm_tbm_6 rfl rfl
theorem qw_224 : Cond.code (qm_y 224) (qm_b 224) (qm_ml 224) (qm_ret 224) ∈ qm_tbl := qm_tb_mem (p := 24) qm_tbm_6 rfl rfl
theorem qw_225 : Cond.code (qm_y 225) (qm_b 225) (qm_ml 225) (qm_ret 225) ∈ qm_tbl := qm_tb_mem (p := 28) qm_tbm_6 rfl rfl
theorem qw_226 : Cond.code (qm_y 226) (qm_b 226) (qm_ml 226) (qm_ret 226) ∈ qm_tbl := qm_tb_mem (p := 32) qm_tbm_6 rfl rfl
theorem qw_227 : Cond.code (qm_y 227) (qm_b 227) (qm_ml 227) (qm_ret 227) ∈ qm_tbl := qm_tb_mem (p := 41) qm_tbm_6 rfl rfl
theorem qw_228 : Cond.code (qm_y 228) (qm_b 228) (qm_ml 228) (qm_ret 228) ∈ qm_tbl := qm_tb_mem (p := 36) qm_tbm_6 rfl rfl
theorem qw_229 : Cond.code (qm_y 229) (qm_b 229) (qm_ml 229) (qm_ret 229) ∈ qm_tbl := qm_tb_mem (p := 45) qm_tbm_6 rfl rfl
theorem qw_230 : Cond.code (qm_y 230) (qm_b 230) (qm_ml 230) (qm_ret 230) ∈ qm_tbl := qm_tb_mem (p := 54) qm_tbm_6 rfl rfl
theorem qw_231 : Cond.code (qm_y 231) (qm_b 231) (qm_ml 231) (qm_ret 231) ∈ qm_tbl := qm_tb_mem (p := 50) qm_tbm_6 rfl rfl
theorem qw_232 : Cond.code (qm_y 232) (qm_b 232) (qm_ml 232) (qm_ret 232) ∈ qm_tbl := qm_tb_mem (p := 58) qm_tbm_6 rfl rfl
theorem qw_233 : Cond.code (qm_y 233) (qm_b 233) (qm_ml 233) (qm_ret 233) ∈ qm_tbl := qm_tb_mem (p := 65) qm_tbm_6 rfl rfl
theorem qw_234 : Cond.code (qm_y 234) (qm_b 234) (qm_ml 234) (qm_ret 234) ∈ qm_tbl := qm_tb_mem (p := 62) qm_tbm_6 rfl rfl
theorem qw_235 : Cond.code (qm_y 235) (qm_b 235) (qm_ml 235) (qm_ret 235) ∈ qm_tbl := qm_tb_mem (p := 69) qm_tbm_6 rfl rfl
theorem qw_236 : Cond.code (qm_y 236) (qm_b 236) (qm_ml 236) (qm_ret 236) ∈ qm_tbl := qm_tb_mem (p := 73) qm_tbm_6 rfl rfl
theorem qw_237 : Cond.code (qm_y 237) (qm_b 237) (qm_ml 237) (qm_ret 237) ∈ qm_tbl := qm_tb_mem (p := 78) qm_tbm_6 rfl rfl
theorem qw_238 : Cond.code (qm_y 238) (qm_b 238) (qm_ml 238) (qm_ret 238) ∈ qm_tbl := qm_tb_mem (p := 82) qm_tbm_6 rfl rfl
theorem qm_cw (m : Nat) (hm : m < qm_law) : Cond.code (qm_y m) (qm_b m) (qm_ml m) (qm_ret m) ∈ qm_tbl := by
  have hm : m < 239 := hm
  by_cases h0 : m < 20
  · have hd : m = 0 ∨ m = 1 ∨ m = 2 ∨ m = 3 ∨ m = 4 ∨ m = 5 ∨ m = 6 ∨ m = 7 ∨ m = 8 ∨ m = 9 ∨ m = 10 ∨ m = 11 ∨ m = 12 ∨ m = 13 ∨ m = 14 ∨ m = 15 ∨ m = 16 ∨ m = 17 ∨ m = 18 ∨ m = 19 := by omega
    rcases hd with rfl | rfl | rfl | rfl | rfl | rfl | rfl | rfl | rfl | rfl | rfl | rfl | rfl | rfl | rfl | rfl | rfl | rfl | rfl | rfl
    · exact qw_0
    · exact qw_1
    · exact qw_2
    · exact qw_3
    · exact qw_4
    · exact qw_5
    · exact qw_6
    · exact qw_7
    · exact qw_8
    · exact qw_9
    · exact qw_10
    · exact qw_11
    · exact qw_12
    · exact qw_13
    · exact qw_14
    · exact qw_15
    · exact qw_16
    · exact qw_17
    · exact qw_18
    · exact qw_19
  by_cases h20 : m < 40
  · have hd : m = 20 ∨ m = 21 ∨ m = 22 ∨ m = 23 ∨ m = 24 ∨ m = 25 ∨ m = 26 ∨ m = 27 ∨ m = 28 ∨ m = 29 ∨ m = 30 ∨ m = 31 ∨ m = 32 ∨ m = 33 ∨ m = 34 ∨ m = 35 ∨ m = 36 ∨ m = 37 ∨ m = 38 ∨ m = 39 := by omega
    rcases hd with rfl | rfl | rfl | rfl | rfl | rfl | rfl | rfl | rfl | rfl | rfl | rfl | rfl | rfl | rfl | rfl | rfl | rfl | rfl | rfl
    · exact qw_20
    · exact qw_21
    · exact qw_22
    · exact qw_23
    · exact qw_24
    · exact qw_25
    · exact qw_26
    · exact qw_27
    · exact qw_28
    · exact qw_29
    · exact qw_30
    · exact qw_31
    · exact qw_32
    · exact qw_33
    · exact qw_34
    · exact qw_35
    · exact qw_36
    · exact qw_37
    · exact qw_38
    · exact qw_39
  by_cases h40 : m < 60
  · have hd : m = 40 ∨ m = 41 ∨ m = 42 ∨ m = 43 ∨ m = 44 ∨ m = 45 ∨ m = 46 ∨ m = 47 ∨ m = 48 ∨ m = 49 ∨ m = 50 ∨ m = 51 ∨ m = 52 ∨ m = 53 ∨ m = 54 ∨ m = 55 ∨ m = 56 ∨ m = 57 ∨ m = 58 ∨ m = 59 := by omega
    rcases hd with rfl | rfl | rfl | rfl | rfl | rfl | rfl | rfl | rfl | rfl | rfl | rfl | rfl | rfl | rfl | rfl | rfl | rfl | rfl | rfl
    · exact qw_40
    · exact qw_41
    · exact qw_42
    · exact qw_43
    · exact qw_44
    · exact qw_45
    · exact qw_46
    · exact qw_47
    · exact qw_48
    · exact qw_49
    · exact qw_50
    · exact qw_51
    · exact qw_52
    · exact qw_53
    · exact qw_54
    · exact qw_55
    · exact qw_56
    · exact qw_57
    · exact qw_58
    · exact qw_59
  by_cases h60 : m < 80
  · have hd : m = 60 ∨ m = 61 ∨ m = 62 ∨ m = 63 ∨ m = 64 ∨ m = 65 ∨ m = 66 ∨ m = 67 ∨ m = 68 ∨ m = 69 ∨ m = 70 ∨ m = 71 ∨ m = 72 ∨ m = 73 ∨ m = 74 ∨ m = 75 ∨ m = 76 ∨ m = 77 ∨ m = 78 ∨ m = 79 := by omega
    rcases hd with rfl | rfl | rfl | rfl | rfl | rfl | rfl | rfl | rfl | rfl | rfl | rfl | rfl | rfl | rfl | rfl | rfl | rfl | rfl | rfl
    · exact qw_60
    · exact qw_61
    · exact qw_62
    · exact qw_63
    · exact qw_64
    · exact qw_65
    · exact qw_66
    · exact qw_67
    · exact qw_68
    · exact qw_69
    · exact qw_70
    · exact qw_71
    · exact qw_72
    · exact qw_73
    · exact qw_74
    · exact qw_75
    · exact qw_76
    · exact qw_77
    · exact qw_78
    · exact qw_79
  by_cases h80 : m < 100
  · have hd : m = 80 ∨ m = 81 ∨ m = 82 ∨ m = 83 ∨ m = 84 ∨ m = 85 ∨ m = 86 ∨ m = 87 ∨ m = 88 ∨ m = 89 ∨ m = 90 ∨ m = 91 ∨ m = 92 ∨ m = 93 ∨ m = 94 ∨ m = 95 ∨ m = 96 ∨ m = 97 ∨ m = 98 ∨ m = 99 := by omega
    rcases hd with rfl | rfl | rfl | rfl | rfl | rfl | rfl | rfl | rfl | rfl | rfl | rfl | rfl | rfl | rfl | rfl | rfl | rfl | rfl | rfl
    · exact qw_80
    · exact qw_81
    · exact qw_82
    · exact qw_83
    · exact qw_84
    · exact qw_85
    · exact qw_86
    · exact qw_87
    · exact qw_88
    · exact qw_89
    · exact qw_90
    · exact qw_91
    · exact qw_92
    · exact qw_93
    · exact qw_94
    · exact qw_95
    · exact qw_96
    · exact qw_97
    · exact qw_98
    · exact qw_99
  by_cases h100 : m < 120
  · have hd : m = 100 ∨ m = 101 ∨ m = 102 ∨ m = 103 ∨ m = 104 ∨ m = 105 ∨ m = 106 ∨ m = 107 ∨ m = 108 ∨ m = 109 ∨ m = 110 ∨ m = 111 ∨ m = 112 ∨ m = 113 ∨ m = 114 ∨ m = 115 ∨ m = 116 ∨ m = 117 ∨ m = 118 ∨ m = 119 := by omega
    rcases hd with rfl | rfl | rfl | rfl | rfl | rfl | rfl | rfl | rfl | rfl | rfl | rfl | rfl | rfl | rfl | rfl | rfl | rfl | rfl | rfl
    · exact qw_100
    · exact qw_101
    · exact qw_102
    · exact qw_103
    · exact qw_104
    · exact qw_105
    · exact qw_106
    · exact qw_107
    · exact qw_108
    · exact qw_109
    · exact qw_110
    · exact qw_111
    · exact qw_112
    · exact qw_113
    · exact qw_114
    · exact qw_115
    · exact qw_116
    · exact qw_117
    · exact qw_118
    · exact qw_119
  by_cases h120 : m < 140
  · have hd : m = 120 ∨ m = 121 ∨ m = 122 ∨ m = 123 ∨ m = 124 ∨ m = 125 ∨ m = 126 ∨ m = 127 ∨ m = 128 ∨ m = 129 ∨ m = 130 ∨ m = 131 ∨ m = 132 ∨ m = 133 ∨ m = 134 ∨ m = 135 ∨ m = 136 ∨ m = 137 ∨ m = 138 ∨ m = 139 := by omega
    rcases hd with rfl | rfl | rfl | rfl | rfl | rfl | rfl | rfl | rfl | rfl | rfl | rfl | rfl | rfl | rfl | rfl | rfl | rfl | rfl | rfl
    · exact qw_120
    · exact qw_121
    · exact qw_122
    · exact qw_123
    · exact qw_124
    · exact qw_125
    · exact qw_126
    · exact qw_127
    · exact qw_128
    · exact qw_129
    · exact qw_130
    · exact qw_131
    · exact qw_132
    · exact qw_133
    · exact qw_134
    · exact qw_135
    · exact qw_136
    · exact qw_137
    · exact qw_138
    · exact qw_139
  by_cases h140 : m < 160
  · have hd : m = 140 ∨ m = 141 ∨ m = 142 ∨ m = 143 ∨ m = 144 ∨ m = 145 ∨ m = 146 ∨ m = 147 ∨ m = 148 ∨ m = 149 ∨ m = 150 ∨ m = 151 ∨ m = 152 ∨ m = 153 ∨ m = 154 ∨ m = 155 ∨ m = 156 ∨ m = 157 ∨ m = 158 ∨ m = 159 := by omega
    rcases hd with rfl | rfl | rfl | rfl | rfl | rfl | rfl | rfl | rfl | rfl | rfl | rfl | rfl | rfl | rfl | rfl | rfl | rfl | rfl | rfl
    · exact qw_140
    · exact qw_141
    · exact qw_142
    · exact qw_143
    · exact qw_144
    · exact qw_145
    · exact qw_146
    · exact qw_147
    · exact qw_148
    · exact qw_149
    · exact qw_150
    · exact qw_151
    · exact qw_152
    · exact qw_153
    · exact qw_154
    · exact qw_155
    · exact qw_156
    · exact qw_157
    · exact qw_158
    · exact qw_159
  by_cases h160 : m < 180
  · have hd : m = 160 ∨ m = 161 ∨ m = 162 ∨ m = 163 ∨ m = 164 ∨ m = 165 ∨ m = 166 ∨ m = 167 ∨ m = 168 ∨ m = 169 ∨ m = 170 ∨ m = 171 ∨ m = 172 ∨ m = 173 ∨ m = 174 ∨ m = 175 ∨ m = 176 ∨ m = 177 ∨ m = 178 ∨ m = 179 := by omega
    rcases hd with rfl | rfl | rfl | rfl | rfl | rfl | rfl | rfl | rfl | rfl | rfl | rfl | rfl | rfl | rfl | rfl | rfl | rfl | rfl | rfl
    · exact qw_160
    · exact qw_161
    · exact qw_162
    · exact qw_163
    · exact qw_164
    · exact qw_165
    · exact qw_166
    · exact qw_167
    · exact qw_168
    · exact qw_169
    · exact qw_170
    · exact qw_171
    · exact qw_172
    · exact qw_173
    · exact qw_174
    · exact qw_175
    · exact qw_176
    · exact qw_177
    · exact qw_178
    · exact qw_179
  by_cases h180 : m < 200
  · have hd : m = 180 ∨ m = 181 ∨ m = 182 ∨ m = 183 ∨ m = 184 ∨ m = 185 ∨ m = 186 ∨ m = 187 ∨ m = 188 ∨ m = 189 ∨ m = 190 ∨ m = 191 ∨ m = 192 ∨ m = 193 ∨ m = 194 ∨ m = 195 ∨ m = 196 ∨ m = 197 ∨ m = 198 ∨ m = 199 := by omega
    rcases hd with rfl | rfl | rfl | rfl | rfl | rfl | rfl | rfl | rfl | rfl | rfl | rfl | rfl | rfl | rfl | rfl | rfl | rfl | rfl | rfl
    · exact qw_180
    · exact qw_181
    · exact qw_182
    · exact qw_183
    · exact qw_184
    · exact qw_185
    · exact qw_186
    · exact qw_187
    · exact qw_188
    · exact qw_189
    · exact qw_190
    · exact qw_191
    · exact qw_192
    · exact qw_193
    · exact qw_194
    · exact qw_195
    · exact qw_196
    · exact qw_197
    · exact qw_198
    · exact qw_199
  by_cases h200 : m < 220
  · have hd : m = 200 ∨ m = 201 ∨ m = 202 ∨ m = 203 ∨ m = 204 ∨ m = 205 ∨ m = 206 ∨ m = 207 ∨ m = 208 ∨ m = 209 ∨ m = 210 ∨ m = 211 ∨ m = 212 ∨ m = 213 ∨ m = 214 ∨ m = 215 ∨ m = 216 ∨ m = 217 ∨ m = 218 ∨ m = 219 := by omega
    rcases hd with rfl | rfl | rfl | rfl | rfl | rfl | rfl | rfl | rfl | rfl | rfl | rfl | rfl | rfl | rfl | rfl | rfl | rfl | rfl | rfl
    · exact qw_200
    · exact qw_201
    · exact qw_202
    · exact qw_203
    · exact qw_204
    · exact qw_205
    · exact qw_206
    · exact qw_207
    · exact qw_208
    · exact qw_209
    · exact qw_210
    · exact qw_211
    · exact qw_212
    · exact qw_213
    · exact qw_214
    · exact qw_215
    · exact qw_216
    · exact qw_217
    · exact qw_218
    · exact qw_219
  by_cases h220 : m < 239
  · have hd : m = 220 ∨ m = 221 ∨ m = 222 ∨ m = 223 ∨ m = 224 ∨ m = 225 ∨ m = 226 ∨ m = 227 ∨ m = 228 ∨ m = 229 ∨ m = 230 ∨ m = 231 ∨ m = 232 ∨ m = 233 ∨ m = 234 ∨ m = 235 ∨ m = 236 ∨ m = 237 ∨ m = 238 := by omega
    rcases hd with rfl | rfl | rfl | rfl | rfl | rfl | rfl | rfl | rfl | rfl | rfl | rfl | rfl | rfl | rfl | rfl | rfl | rfl | rfl
    · exact qw_220
    · exact qw_221
    · exact qw_222
    · exact qw_223
    · exact qw_224
    · exact qw_225
    · exact qw_226
    · exact qw_227
    · exact qw_228
    · exact qw_229
    · exact qw_230
    · exact qw_231
    · exact qw_232
    · exact qw_233
    · exact qw_234
    · exact qw_235
    · exact qw_236
    · exact qw_237
    · exact qw_238
  exact absurd hm (by omega)
