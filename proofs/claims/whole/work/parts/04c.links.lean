theorem xseg_all {w : Cond} (h : w ∈ tables_1_1 ∨ w ∈ tables_1_2 ∨ w ∈ tables_1_3 ∨ w ∈ tables_1_4 ∨ w ∈ tables_1_5 ∨ w ∈ tables_1_6 ∨ w ∈ tables_1_7 ∨ w ∈ tables_1_8 ∨ w ∈ tables_1_9) : w ∈ lw_tbl := by
  refine List.mem_append_right _ ?_
  show w ∈ tables_1_1 ++ (tables_1_2 ++ (tables_1_3 ++ (tables_1_4 ++ (tables_1_5 ++ (tables_1_6 ++ (tables_1_7 ++ (tables_1_8 ++ (tables_1_9))))))))
  simp only [List.mem_append]
  exact h
theorem xseg_1 {w : Cond} (h : w ∈ tables_1_1) : w ∈ lw_tbl := xseg_all (Or.inl h)
theorem xseg_2 {w : Cond} (h : w ∈ tables_1_2) : w ∈ lw_tbl := xseg_all (Or.inr (Or.inl h))
theorem xseg_3 {w : Cond} (h : w ∈ tables_1_3) : w ∈ lw_tbl := xseg_all (Or.inr (Or.inr (Or.inl h)))
theorem xseg_4 {w : Cond} (h : w ∈ tables_1_4) : w ∈ lw_tbl := xseg_all (Or.inr (Or.inr (Or.inr (Or.inl h))))
theorem xseg_5 {w : Cond} (h : w ∈ tables_1_5) : w ∈ lw_tbl := xseg_all (Or.inr (Or.inr (Or.inr (Or.inr (Or.inl h)))))
theorem xseg_6 {w : Cond} (h : w ∈ tables_1_6) : w ∈ lw_tbl := xseg_all (Or.inr (Or.inr (Or.inr (Or.inr (Or.inr (Or.inl h))))))
theorem xseg_7 {w : Cond} (h : w ∈ tables_1_7) : w ∈ lw_tbl := xseg_all (Or.inr (Or.inr (Or.inr (Or.inr (Or.inr (Or.inr (Or.inl h)))))))
theorem xseg_8 {w : Cond} (h : w ∈ tables_1_8) : w ∈ lw_tbl := xseg_all (Or.inr (Or.inr (Or.inr (Or.inr (Or.inr (Or.inr (Or.inr (Or.inl h))))))))
theorem xseg_9 {w : Cond} (h : w ∈ tables_1_9) : w ∈ lw_tbl := xseg_all (Or.inr (Or.inr (Or.inr (Or.inr (Or.inr (Or.inr (Or.inr (Or.inr (h)))))))))
set_option maxRecDepth 100000 in
theorem xcw_0 : Cond.code (xy 0) (xc 0) (xml 0) (xrt 0) ∈ lw_tbl := xseg_1 (List.mem_of_getElem? (i := 133) rfl)
set_option maxRecDepth 100000 in
theorem xcw_1 : Cond.code (xy 1) (xc 1) (xml 1) (xrt 1) ∈ lw_tbl := xseg_6 (List.mem_of_getElem? (i := 2) rfl)
set_option maxRecDepth 100000 in
theorem xcw_2 : Cond.code (xy 2) (xc 2) (xml 2) (xrt 2) ∈ lw_tbl := xseg_5 (List.mem_of_getElem? (i := 40) rfl)
set_option maxRecDepth 100000 in
theorem xcw_3 : Cond.code (xy 3) (xc 3) (xml 3) (xrt 3) ∈ lw_tbl := xseg_4 (List.mem_of_getElem? (i := 156) rfl)
set_option maxRecDepth 100000 in
theorem xcw_4 : Cond.code (xy 4) (xc 4) (xml 4) (xrt 4) ∈ lw_tbl := xseg_5 (List.mem_of_getElem? (i := 198) rfl)
set_option maxRecDepth 100000 in
theorem xcw_5 : Cond.code (xy 5) (xc 5) (xml 5) (xrt 5) ∈ lw_tbl := xseg_5 (List.mem_of_getElem? (i := 202) rfl)
set_option maxRecDepth 100000 in
theorem xcw_6 : Cond.code (xy 6) (xc 6) (xml 6) (xrt 6) ∈ lw_tbl := xseg_1 (List.mem_of_getElem? (i := 149) rfl)
set_option maxRecDepth 100000 in
theorem xcw_7 : Cond.code (xy 7) (xc 7) (xml 7) (xrt 7) ∈ lw_tbl := xseg_2 (List.mem_of_getElem? (i := 206) rfl)
set_option maxRecDepth 100000 in
theorem xcw_8 : Cond.code (xy 8) (xc 8) (xml 8) (xrt 8) ∈ lw_tbl := xseg_2 (List.mem_of_getElem? (i := 196) rfl)
set_option maxRecDepth 100000 in
theorem xcw_9 : Cond.code (xy 9) (xc 9) (xml 9) (xrt 9) ∈ lw_tbl := xseg_4 (List.mem_of_getElem? (i := 126) rfl)
set_option maxRecDepth 100000 in
theorem xcw_10 : Cond.code (xy 10) (xc 10) (xml 10) (xrt 10) ∈ lw_tbl := xseg_3 (List.mem_of_getElem? (i := 23) rfl)
set_option maxRecDepth 100000 in
theorem xcw_11 : Cond.code (xy 11) (xc 11) (xml 11) (xrt 11) ∈ lw_tbl := xseg_3 (List.mem_of_getElem? (i := 8) rfl)
set_option maxRecDepth 100000 in
theorem xcw_12 : Cond.code (xy 12) (xc 12) (xml 12) (xrt 12) ∈ lw_tbl := xseg_4 (List.mem_of_getElem? (i := 88) rfl)
set_option maxRecDepth 100000 in
theorem xcw_13 : Cond.code (xy 13) (xc 13) (xml 13) (xrt 13) ∈ lw_tbl := xseg_5 (List.mem_of_getElem? (i := 92) rfl)
set_option maxRecDepth 100000 in
theorem xcw_14 : Cond.code (xy 14) (xc 14) (xml 14) (xrt 14) ∈ lw_tbl := xseg_4 (List.mem_of_getElem? (i := 79) rfl)
set_option maxRecDepth 100000 in
theorem xcw_15 : Cond.code (xy 15) (xc 15) (xml 15) (xrt 15) ∈ lw_tbl := xseg_4 (List.mem_of_getElem? (i := 164) rfl)
set_option maxRecDepth 100000 in
theorem xcw_16 : Cond.code (xy 16) (xc 16) (xml 16) (xrt 16) ∈ lw_tbl := xseg_4 (List.mem_of_getElem? (i := 205) rfl)
set_option maxRecDepth 100000 in
theorem xcw_17 : Cond.code (xy 17) (xc 17) (xml 17) (xrt 17) ∈ lw_tbl := xseg_4 (List.mem_of_getElem? (i := 213) rfl)
set_option maxRecDepth 100000 in
theorem xcw_18 : Cond.code (xy 18) (xc 18) (xml 18) (xrt 18) ∈ lw_tbl := xseg_4 (List.mem_of_getElem? (i := 217) rfl)
set_option maxRecDepth 100000 in
theorem xcw_19 : Cond.code (xy 19) (xc 19) (xml 19) (xrt 19) ∈ lw_tbl := xseg_4 (List.mem_of_getElem? (i := 144) rfl)
set_option maxRecDepth 100000 in
theorem xcw_20 : Cond.code (xy 20) (xc 20) (xml 20) (xrt 20) ∈ lw_tbl := xseg_4 (List.mem_of_getElem? (i := 148) rfl)
set_option maxRecDepth 100000 in
theorem xcw_21 : Cond.code (xy 21) (xc 21) (xml 21) (xrt 21) ∈ lw_tbl := xseg_4 (List.mem_of_getElem? (i := 221) rfl)
set_option maxRecDepth 100000 in
theorem xcw_22 : Cond.code (xy 22) (xc 22) (xml 22) (xrt 22) ∈ lw_tbl := xseg_4 (List.mem_of_getElem? (i := 227) rfl)
set_option maxRecDepth 100000 in
theorem xcw_23 : Cond.code (xy 23) (xc 23) (xml 23) (xrt 23) ∈ lw_tbl := xseg_4 (List.mem_of_getElem? (i := 83) rfl)
set_option maxRecDepth 100000 in
theorem xcw_24 : Cond.code (xy 24) (xc 24) (xml 24) (xrt 24) ∈ lw_tbl := xseg_4 (List.mem_of_getElem? (i := 93) rfl)
set_option maxRecDepth 100000 in
theorem xcw_25 : Cond.code (xy 25) (xc 25) (xml 25) (xrt 25) ∈ lw_tbl := xseg_4 (List.mem_of_getElem? (i := 98) rfl)
set_option maxRecDepth 100000 in
theorem xcw_26 : Cond.code (xy 26) (xc 26) (xml 26) (xrt 26) ∈ lw_tbl := xseg_4 (List.mem_of_getElem? (i := 177) rfl)
set_option maxRecDepth 100000 in
theorem xcw_27 : Cond.code (xy 27) (xc 27) (xml 27) (xrt 27) ∈ lw_tbl := xseg_4 (List.mem_of_getElem? (i := 102) rfl)
set_option maxRecDepth 100000 in
theorem xcw_28 : Cond.code (xy 28) (xc 28) (xml 28) (xrt 28) ∈ lw_tbl := xseg_4 (List.mem_of_getElem? (i := 168) rfl)
set_option maxRecDepth 100000 in
theorem xcw_29 : Cond.code (xy 29) (xc 29) (xml 29) (xrt 29) ∈ lw_tbl := xseg_4 (List.mem_of_getElem? (i := 152) rfl)
set_option maxRecDepth 100000 in
theorem xcw_30 : Cond.code (xy 30) (xc 30) (xml 30) (xrt 30) ∈ lw_tbl := xseg_1 (List.mem_of_getElem? (i := 184) rfl)
set_option maxRecDepth 100000 in
theorem xcw_31 : Cond.code (xy 31) (xc 31) (xml 31) (xrt 31) ∈ lw_tbl := xseg_4 (List.mem_of_getElem? (i := 138) rfl)
set_option maxRecDepth 100000 in
theorem xcw_32 : Cond.code (xy 32) (xc 32) (xml 32) (xrt 32) ∈ lw_tbl := xseg_3 (List.mem_of_getElem? (i := 35) rfl)
set_option maxRecDepth 100000 in
theorem xcw_33 : Cond.code (xy 33) (xc 33) (xml 33) (xrt 33) ∈ lw_tbl := xseg_3 (List.mem_of_getElem? (i := 43) rfl)
set_option maxRecDepth 100000 in
theorem xcw_34 : Cond.code (xy 34) (xc 34) (xml 34) (xrt 34) ∈ lw_tbl := xseg_5 (List.mem_of_getElem? (i := 141) rfl)
set_option maxRecDepth 100000 in
theorem xcw_35 : Cond.code (xy 35) (xc 35) (xml 35) (xrt 35) ∈ lw_tbl := xseg_4 (List.mem_of_getElem? (i := 173) rfl)
set_option maxRecDepth 100000 in
theorem xcw_36 : Cond.code (xy 36) (xc 36) (xml 36) (xrt 36) ∈ lw_tbl := xseg_5 (List.mem_of_getElem? (i := 148) rfl)
set_option maxRecDepth 100000 in
theorem xcw_37 : Cond.code (xy 37) (xc 37) (xml 37) (xrt 37) ∈ lw_tbl := xseg_5 (List.mem_of_getElem? (i := 162) rfl)
set_option maxRecDepth 100000 in
theorem xcw_38 : Cond.code (xy 38) (xc 38) (xml 38) (xrt 38) ∈ lw_tbl := xseg_5 (List.mem_of_getElem? (i := 158) rfl)
set_option maxRecDepth 100000 in
theorem xcw_39 : Cond.code (xy 39) (xc 39) (xml 39) (xrt 39) ∈ lw_tbl := xseg_5 (List.mem_of_getElem? (i := 169) rfl)
set_option maxRecDepth 100000 in
theorem xcw_40 : Cond.code (xy 40) (xc 40) (xml 40) (xrt 40) ∈ lw_tbl := xseg_5 (List.mem_of_getElem? (i := 174) rfl)
set_option maxRecDepth 100000 in
theorem xcw_41 : Cond.code (xy 41) (xc 41) (xml 41) (xrt 41) ∈ lw_tbl := xseg_1 (List.mem_of_getElem? (i := 101) rfl)
set_option maxRecDepth 100000 in
theorem xcw_42 : Cond.code (xy 42) (xc 42) (xml 42) (xrt 42) ∈ lw_tbl := xseg_2 (List.mem_of_getElem? (i := 189) rfl)
set_option maxRecDepth 100000 in
theorem xcw_43 : Cond.code (xy 43) (xc 43) (xml 43) (xrt 43) ∈ lw_tbl := xseg_5 (List.mem_of_getElem? (i := 237) rfl)
set_option maxRecDepth 100000 in
theorem xcw_44 : Cond.code (xy 44) (xc 44) (xml 44) (xrt 44) ∈ lw_tbl := xseg_5 (List.mem_of_getElem? (i := 80) rfl)
set_option maxRecDepth 100000 in
theorem xcw_45 : Cond.code (xy 45) (xc 45) (xml 45) (xrt 45) ∈ lw_tbl := xseg_5 (List.mem_of_getElem? (i := 88) rfl)
set_option maxRecDepth 100000 in
theorem xcw_46 : Cond.code (xy 46) (xc 46) (xml 46) (xrt 46) ∈ lw_tbl := xseg_5 (List.mem_of_getElem? (i := 96) rfl)
set_option maxRecDepth 100000 in
theorem xcw_47 : Cond.code (xy 47) (xc 47) (xml 47) (xrt 47) ∈ lw_tbl := xseg_5 (List.mem_of_getElem? (i := 101) rfl)
set_option maxRecDepth 100000 in
theorem xcw_48 : Cond.code (xy 48) (xc 48) (xml 48) (xrt 48) ∈ lw_tbl := xseg_5 (List.mem_of_getElem? (i := 127) rfl)
set_option maxRecDepth 100000 in
theorem xcw_49 : Cond.code (xy 49) (xc 49) (xml 49) (xrt 49) ∈ lw_tbl := xseg_1 (List.mem_of_getElem? (i := 155) rfl)
set_option maxRecDepth 100000 in
theorem xcw_50 : Cond.code (xy 50) (xc 50) (xml 50) (xrt 50) ∈ lw_tbl := xseg_2 (List.mem_of_getElem? (i := 201) rfl)
set_option maxRecDepth 100000 in
theorem xcw_51 : Cond.code (xy 51) (xc 51) (xml 51) (xrt 51) ∈ lw_tbl := xseg_4 (List.mem_of_getElem? (i := 133) rfl)
set_option maxRecDepth 100000 in
theorem xcw_52 : Cond.code (xy 52) (xc 52) (xml 52) (xrt 52) ∈ lw_tbl := xseg_4 (List.mem_of_getElem? (i := 181) rfl)
set_option maxRecDepth 100000 in
theorem xcw_53 : Cond.code (xy 53) (xc 53) (xml 53) (xrt 53) ∈ lw_tbl := xseg_4 (List.mem_of_getElem? (i := 106) rfl)
set_option maxRecDepth 100000 in
theorem xcw_54 : Cond.code (xy 54) (xc 54) (xml 54) (xrt 54) ∈ lw_tbl := xseg_4 (List.mem_of_getElem? (i := 110) rfl)
set_option maxRecDepth 100000 in
theorem xcw_55 : Cond.code (xy 55) (xc 55) (xml 55) (xrt 55) ∈ lw_tbl := xseg_4 (List.mem_of_getElem? (i := 192) rfl)
set_option maxRecDepth 100000 in
theorem xcw_56 : Cond.code (xy 56) (xc 56) (xml 56) (xrt 56) ∈ lw_tbl := xseg_4 (List.mem_of_getElem? (i := 188) rfl)
set_option maxRecDepth 100000 in
theorem xcw_57 : Cond.code (xy 57) (xc 57) (xml 57) (xrt 57) ∈ lw_tbl := xseg_4 (List.mem_of_getElem? (i := 231) rfl)
set_option maxRecDepth 100000 in
theorem xcw_58 : Cond.code (xy 58) (xc 58) (xml 58) (xrt 58) ∈ lw_tbl := xseg_4 (List.mem_of_getElem? (i := 235) rfl)
set_option maxRecDepth 100000 in
theorem xcw_59 : Cond.code (xy 59) (xc 59) (xml 59) (xrt 59) ∈ lw_tbl := xseg_5 (List.mem_of_getElem? (i := 25) rfl)
set_option maxRecDepth 100000 in
theorem xcw_60 : Cond.code (xy 60) (xc 60) (xml 60) (xrt 60) ∈ lw_tbl := xseg_5 (List.mem_of_getElem? (i := 189) rfl)
set_option maxRecDepth 100000 in
theorem xcw_61 : Cond.code (xy 61) (xc 61) (xml 61) (xrt 61) ∈ lw_tbl := xseg_1 (List.mem_of_getElem? (i := 41) rfl)
set_option maxRecDepth 100000 in
theorem xcw_62 : Cond.code (xy 62) (xc 62) (xml 62) (xrt 62) ∈ lw_tbl := xseg_2 (List.mem_of_getElem? (i := 185) rfl)
set_option maxRecDepth 100000 in
theorem xcw_63 : Cond.code (xy 63) (xc 63) (xml 63) (xrt 63) ∈ lw_tbl := xseg_5 (List.mem_of_getElem? (i := 227) rfl)
set_option maxRecDepth 100000 in
theorem xcw_64 : Cond.code (xy 64) (xc 64) (xml 64) (xrt 64) ∈ lw_tbl := xseg_4 (List.mem_of_getElem? (i := 114) rfl)
set_option maxRecDepth 100000 in
theorem xcw_65 : Cond.code (xy 65) (xc 65) (xml 65) (xrt 65) ∈ lw_tbl := xseg_4 (List.mem_of_getElem? (i := 117) rfl)
set_option maxRecDepth 100000 in
theorem xcw_66 : Cond.code (xy 66) (xc 66) (xml 66) (xrt 66) ∈ lw_tbl := xseg_3 (List.mem_of_getElem? (i := 211) rfl)
set_option maxRecDepth 100000 in
theorem xcw_67 : Cond.code (xy 67) (xc 67) (xml 67) (xrt 67) ∈ lw_tbl := xseg_3 (List.mem_of_getElem? (i := 219) rfl)
set_option maxRecDepth 100000 in
theorem xcw_68 : Cond.code (xy 68) (xc 68) (xml 68) (xrt 68) ∈ lw_tbl := xseg_4 (List.mem_of_getElem? (i := 27) rfl)
set_option maxRecDepth 100000 in
theorem xcw_69 : Cond.code (xy 69) (xc 69) (xml 69) (xrt 69) ∈ lw_tbl := xseg_4 (List.mem_of_getElem? (i := 31) rfl)
set_option maxRecDepth 100000 in
theorem xcw_70 : Cond.code (xy 70) (xc 70) (xml 70) (xrt 70) ∈ lw_tbl := xseg_4 (List.mem_of_getElem? (i := 35) rfl)
set_option maxRecDepth 100000 in
theorem xcw_71 : Cond.code (xy 71) (xc 71) (xml 71) (xrt 71) ∈ lw_tbl := xseg_4 (List.mem_of_getElem? (i := 43) rfl)
set_option maxRecDepth 100000 in
theorem xcw_72 : Cond.code (xy 72) (xc 72) (xml 72) (xrt 72) ∈ lw_tbl := xseg_3 (List.mem_of_getElem? (i := 231) rfl)
set_option maxRecDepth 100000 in
theorem xcw_73 : Cond.code (xy 73) (xc 73) (xml 73) (xrt 73) ∈ lw_tbl := xseg_3 (List.mem_of_getElem? (i := 235) rfl)
set_option maxRecDepth 100000 in
theorem xcw_74 : Cond.code (xy 74) (xc 74) (xml 74) (xrt 74) ∈ lw_tbl := xseg_3 (List.mem_of_getElem? (i := 239) rfl)
set_option maxRecDepth 100000 in
theorem xcw_75 : Cond.code (xy 75) (xc 75) (xml 75) (xrt 75) ∈ lw_tbl := xseg_4 (List.mem_of_getElem? (i := 11) rfl)
set_option maxRecDepth 100000 in
theorem xcw_76 : Cond.code (xy 76) (xc 76) (xml 76) (xrt 76) ∈ lw_tbl := xseg_4 (List.mem_of_getElem? (i := 7) rfl)
set_option maxRecDepth 100000 in
theorem xcw_77 : Cond.code (xy 77) (xc 77) (xml 77) (xrt 77) ∈ lw_tbl := xseg_2 (List.mem_of_getElem? (i := 78) rfl)
set_option maxRecDepth 100000 in
theorem xcw_78 : Cond.code (xy 78) (xc 78) (xml 78) (xrt 78) ∈ lw_tbl := xseg_4 (List.mem_of_getElem? (i := 122) rfl)
set_option maxRecDepth 100000 in
theorem xcw_79 : Cond.code (xy 79) (xc 79) (xml 79) (xrt 79) ∈ lw_tbl := xseg_5 (List.mem_of_getElem? (i := 215) rfl)
set_option maxRecDepth 100000 in
theorem xcw_80 : Cond.code (xy 80) (xc 80) (xml 80) (xrt 80) ∈ lw_tbl := xseg_2 (List.mem_of_getElem? (i := 233) rfl)
set_option maxRecDepth 100000 in
theorem xcw_81 : Cond.code (xy 81) (xc 81) (xml 81) (xrt 81) ∈ lw_tbl := xseg_1 (List.mem_of_getElem? (i := 71) rfl)
set_option maxRecDepth 100000 in
theorem xcw_82 : Cond.code (xy 82) (xc 82) (xml 82) (xrt 82) ∈ lw_tbl := xseg_5 (List.mem_of_getElem? (i := 232) rfl)
set_option maxRecDepth 100000 in
theorem xcw_83 : Cond.code (xy 83) (xc 83) (xml 83) (xrt 83) ∈ lw_tbl := xseg_5 (List.mem_of_getElem? (i := 3) rfl)
set_option maxRecDepth 100000 in
theorem xcw_84 : Cond.code (xy 84) (xc 84) (xml 84) (xrt 84) ∈ lw_tbl := xseg_5 (List.mem_of_getElem? (i := 7) rfl)
set_option maxRecDepth 100000 in
theorem xcw_85 : Cond.code (xy 85) (xc 85) (xml 85) (xrt 85) ∈ lw_tbl := xseg_4 (List.mem_of_getElem? (i := 47) rfl)
set_option maxRecDepth 100000 in
theorem xcw_86 : Cond.code (xy 86) (xc 86) (xml 86) (xrt 86) ∈ lw_tbl := xseg_4 (List.mem_of_getElem? (i := 52) rfl)
set_option maxRecDepth 100000 in
theorem xcw_87 : Cond.code (xy 87) (xc 87) (xml 87) (xrt 87) ∈ lw_tbl := xseg_4 (List.mem_of_getElem? (i := 59) rfl)
set_option maxRecDepth 100000 in
theorem xcw_88 : Cond.code (xy 88) (xc 88) (xml 88) (xrt 88) ∈ lw_tbl := xseg_4 (List.mem_of_getElem? (i := 66) rfl)
set_option maxRecDepth 100000 in
theorem xcw_89 : Cond.code (xy 89) (xc 89) (xml 89) (xrt 89) ∈ lw_tbl := xseg_2 (List.mem_of_getElem? (i := 143) rfl)
set_option maxRecDepth 100000 in
theorem xcw_90 : Cond.code (xy 90) (xc 90) (xml 90) (xrt 90) ∈ lw_tbl := xseg_3 (List.mem_of_getElem? (i := 63) rfl)
set_option maxRecDepth 100000 in
theorem xcw_91 : Cond.code (xy 91) (xc 91) (xml 91) (xrt 91) ∈ lw_tbl := xseg_3 (List.mem_of_getElem? (i := 75) rfl)
set_option maxRecDepth 100000 in
theorem xcw_92 : Cond.code (xy 92) (xc 92) (xml 92) (xrt 92) ∈ lw_tbl := xseg_3 (List.mem_of_getElem? (i := 79) rfl)
set_option maxRecDepth 100000 in
theorem xcw_93 : Cond.code (xy 93) (xc 93) (xml 93) (xrt 93) ∈ lw_tbl := xseg_3 (List.mem_of_getElem? (i := 215) rfl)
set_option maxRecDepth 100000 in
theorem xcw_94 : Cond.code (xy 94) (xc 94) (xml 94) (xrt 94) ∈ lw_tbl := xseg_4 (List.mem_of_getElem? (i := 3) rfl)
set_option maxRecDepth 100000 in
theorem xcw_95 : Cond.code (xy 95) (xc 95) (xml 95) (xrt 95) ∈ lw_tbl := xseg_3 (List.mem_of_getElem? (i := 227) rfl)
set_option maxRecDepth 100000 in
theorem xcw_96 : Cond.code (xy 96) (xc 96) (xml 96) (xrt 96) ∈ lw_tbl := xseg_4 (List.mem_of_getElem? (i := 23) rfl)
set_option maxRecDepth 100000 in
theorem xcw_97 : Cond.code (xy 97) (xc 97) (xml 97) (xrt 97) ∈ lw_tbl := xseg_4 (List.mem_of_getElem? (i := 39) rfl)
set_option maxRecDepth 100000 in
theorem xcw_98 : Cond.code (xy 98) (xc 98) (xml 98) (xrt 98) ∈ lw_tbl := xseg_4 (List.mem_of_getElem? (i := 15) rfl)
set_option maxRecDepth 100000 in
theorem xcw_99 : Cond.code (xy 99) (xc 99) (xml 99) (xrt 99) ∈ lw_tbl := xseg_3 (List.mem_of_getElem? (i := 223) rfl)
set_option maxRecDepth 100000 in
theorem xcw_100 : Cond.code (xy 100) (xc 100) (xml 100) (xrt 100) ∈ lw_tbl := xseg_3 (List.mem_of_getElem? (i := 140) rfl)
set_option maxRecDepth 100000 in
theorem xcw_101 : Cond.code (xy 101) (xc 101) (xml 101) (xrt 101) ∈ lw_tbl := xseg_3 (List.mem_of_getElem? (i := 147) rfl)
set_option maxRecDepth 100000 in
theorem xcw_102 : Cond.code (xy 102) (xc 102) (xml 102) (xrt 102) ∈ lw_tbl := xseg_3 (List.mem_of_getElem? (i := 87) rfl)
set_option maxRecDepth 100000 in
theorem xcw_103 : Cond.code (xy 103) (xc 103) (xml 103) (xrt 103) ∈ lw_tbl := xseg_3 (List.mem_of_getElem? (i := 82) rfl)
set_option maxRecDepth 100000 in
theorem xcw_104 : Cond.code (xy 104) (xc 104) (xml 104) (xrt 104) ∈ lw_tbl := xseg_3 (List.mem_of_getElem? (i := 143) rfl)
set_option maxRecDepth 100000 in
theorem xcw_105 : Cond.code (xy 105) (xc 105) (xml 105) (xrt 105) ∈ lw_tbl := xseg_2 (List.mem_of_getElem? (i := 104) rfl)
set_option maxRecDepth 100000 in
theorem xcw_106 : Cond.code (xy 106) (xc 106) (xml 106) (xrt 106) ∈ lw_tbl := xseg_5 (List.mem_of_getElem? (i := 48) rfl)
set_option maxRecDepth 100000 in
theorem xcw_107 : Cond.code (xy 107) (xc 107) (xml 107) (xrt 107) ∈ lw_tbl := xseg_5 (List.mem_of_getElem? (i := 53) rfl)
set_option maxRecDepth 100000 in
theorem xcw_108 : Cond.code (xy 108) (xc 108) (xml 108) (xrt 108) ∈ lw_tbl := xseg_5 (List.mem_of_getElem? (i := 62) rfl)
set_option maxRecDepth 100000 in
theorem xcw_109 : Cond.code (xy 109) (xc 109) (xml 109) (xrt 109) ∈ lw_tbl := xseg_5 (List.mem_of_getElem? (i := 70) rfl)
set_option maxRecDepth 100000 in
theorem xcw_110 : Cond.code (xy 110) (xc 110) (xml 110) (xrt 110) ∈ lw_tbl := xseg_5 (List.mem_of_getElem? (i := 145) rfl)
set_option maxRecDepth 100000 in
theorem xcw_111 : Cond.code (xy 111) (xc 111) (xml 111) (xrt 111) ∈ lw_tbl := xseg_5 (List.mem_of_getElem? (i := 114) rfl)
set_option maxRecDepth 100000 in
theorem xcw_112 : Cond.code (xy 112) (xc 112) (xml 112) (xrt 112) ∈ lw_tbl := xseg_5 (List.mem_of_getElem? (i := 119) rfl)
set_option maxRecDepth 100000 in
theorem xcw_113 : Cond.code (xy 113) (xc 113) (xml 113) (xrt 113) ∈ lw_tbl := xseg_1 (List.mem_of_getElem? (i := 35) rfl)
set_option maxRecDepth 100000 in
theorem xcw_114 : Cond.code (xy 114) (xc 114) (xml 114) (xrt 114) ∈ lw_tbl := xseg_2 (List.mem_of_getElem? (i := 181) rfl)
set_option maxRecDepth 100000 in
theorem xcw_115 : Cond.code (xy 115) (xc 115) (xml 115) (xrt 115) ∈ lw_tbl := xseg_5 (List.mem_of_getElem? (i := 223) rfl)
set_option maxRecDepth 100000 in
theorem xcw_116 : Cond.code (xy 116) (xc 116) (xml 116) (xrt 116) ∈ lw_tbl := xseg_1 (List.mem_of_getElem? (i := 27) rfl)
set_option maxRecDepth 100000 in
theorem xcw_117 : Cond.code (xy 117) (xc 117) (xml 117) (xrt 117) ∈ lw_tbl := xseg_2 (List.mem_of_getElem? (i := 229) rfl)
set_option maxRecDepth 100000 in
theorem xcw_118 : Cond.code (xy 118) (xc 118) (xml 118) (xrt 118) ∈ lw_tbl := xseg_2 (List.mem_of_getElem? (i := 237) rfl)
set_option maxRecDepth 100000 in
theorem xcw_119 : Cond.code (xy 119) (xc 119) (xml 119) (xrt 119) ∈ lw_tbl := xseg_3 (List.mem_of_getElem? (i := 4) rfl)
set_option maxRecDepth 100000 in
theorem xcw_120 : Cond.code (xy 120) (xc 120) (xml 120) (xrt 120) ∈ lw_tbl := xseg_3 (List.mem_of_getElem? (i := 19) rfl)
set_option maxRecDepth 100000 in
theorem xcw_121 : Cond.code (xy 121) (xc 121) (xml 121) (xrt 121) ∈ lw_tbl := xseg_3 (List.mem_of_getElem? (i := 31) rfl)
set_option maxRecDepth 100000 in
theorem xcw_122 : Cond.code (xy 122) (xc 122) (xml 122) (xrt 122) ∈ lw_tbl := xseg_3 (List.mem_of_getElem? (i := 39) rfl)
set_option maxRecDepth 100000 in
theorem xcw_123 : Cond.code (xy 123) (xc 123) (xml 123) (xrt 123) ∈ lw_tbl := xseg_3 (List.mem_of_getElem? (i := 51) rfl)
set_option maxRecDepth 100000 in
theorem xcw_124 : Cond.code (xy 124) (xc 124) (xml 124) (xrt 124) ∈ lw_tbl := xseg_3 (List.mem_of_getElem? (i := 59) rfl)
set_option maxRecDepth 100000 in
theorem xcw_125 : Cond.code (xy 125) (xc 125) (xml 125) (xrt 125) ∈ lw_tbl := xseg_3 (List.mem_of_getElem? (i := 67) rfl)
set_option maxRecDepth 100000 in
theorem xcw_126 : Cond.code (xy 126) (xc 126) (xml 126) (xrt 126) ∈ lw_tbl := xseg_3 (List.mem_of_getElem? (i := 71) rfl)
set_option maxRecDepth 100000 in
theorem xcw_127 : Cond.code (xy 127) (xc 127) (xml 127) (xrt 127) ∈ lw_tbl := xseg_4 (List.mem_of_getElem? (i := 71) rfl)
set_option maxRecDepth 100000 in
theorem xcw_128 : Cond.code (xy 128) (xc 128) (xml 128) (xrt 128) ∈ lw_tbl := xseg_4 (List.mem_of_getElem? (i := 75) rfl)
set_option maxRecDepth 100000 in
theorem xcw_129 : Cond.code (xy 129) (xc 129) (xml 129) (xrt 129) ∈ lw_tbl := xseg_4 (List.mem_of_getElem? (i := 160) rfl)
set_option maxRecDepth 100000 in
theorem xcw_130 : Cond.code (xy 130) (xc 130) (xml 130) (xrt 130) ∈ lw_tbl := xseg_4 (List.mem_of_getElem? (i := 201) rfl)
set_option maxRecDepth 100000 in
theorem xcw_131 : Cond.code (xy 131) (xc 131) (xml 131) (xrt 131) ∈ lw_tbl := xseg_4 (List.mem_of_getElem? (i := 209) rfl)
set_option maxRecDepth 100000 in
theorem xcw_132 : Cond.code (xy 132) (xc 132) (xml 132) (xrt 132) ∈ lw_tbl := xseg_4 (List.mem_of_getElem? (i := 239) rfl)
set_option maxRecDepth 100000 in
theorem xcw_133 : Cond.code (xy 133) (xc 133) (xml 133) (xrt 133) ∈ lw_tbl := xseg_5 (List.mem_of_getElem? (i := 17) rfl)
set_option maxRecDepth 100000 in
theorem xcw_134 : Cond.code (xy 134) (xc 134) (xml 134) (xrt 134) ∈ lw_tbl := xseg_5 (List.mem_of_getElem? (i := 21) rfl)
set_option maxRecDepth 100000 in
theorem xcw_135 : Cond.code (xy 135) (xc 135) (xml 135) (xrt 135) ∈ lw_tbl := xseg_5 (List.mem_of_getElem? (i := 31) rfl)
set_option maxRecDepth 100000 in
theorem xcw_136 : Cond.code (xy 136) (xc 136) (xml 136) (xrt 136) ∈ lw_tbl := xseg_5 (List.mem_of_getElem? (i := 36) rfl)
set_option maxRecDepth 100000 in
theorem xcw_137 : Cond.code (xy 137) (xc 137) (xml 137) (xrt 137) ∈ lw_tbl := xseg_5 (List.mem_of_getElem? (i := 44) rfl)
set_option maxRecDepth 100000 in
theorem xcw_138 : Cond.code (xy 138) (xc 138) (xml 138) (xrt 138) ∈ lw_tbl := xseg_5 (List.mem_of_getElem? (i := 58) rfl)
set_option maxRecDepth 100000 in
theorem xcw_139 : Cond.code (xy 139) (xc 139) (xml 139) (xrt 139) ∈ lw_tbl := xseg_5 (List.mem_of_getElem? (i := 76) rfl)
set_option maxRecDepth 100000 in
theorem xcw_140 : Cond.code (xy 140) (xc 140) (xml 140) (xrt 140) ∈ lw_tbl := xseg_5 (List.mem_of_getElem? (i := 84) rfl)
set_option maxRecDepth 100000 in
theorem xcw_141 : Cond.code (xy 141) (xc 141) (xml 141) (xrt 141) ∈ lw_tbl := xseg_5 (List.mem_of_getElem? (i := 106) rfl)
set_option maxRecDepth 100000 in
theorem xcw_142 : Cond.code (xy 142) (xc 142) (xml 142) (xrt 142) ∈ lw_tbl := xseg_5 (List.mem_of_getElem? (i := 110) rfl)
set_option maxRecDepth 100000 in
theorem xcw_143 : Cond.code (xy 143) (xc 143) (xml 143) (xrt 143) ∈ lw_tbl := xseg_5 (List.mem_of_getElem? (i := 123) rfl)
set_option maxRecDepth 100000 in
theorem xcw_144 : Cond.code (xy 144) (xc 144) (xml 144) (xrt 144) ∈ lw_tbl := xseg_5 (List.mem_of_getElem? (i := 131) rfl)
set_option maxRecDepth 100000 in
theorem xcw_145 : Cond.code (xy 145) (xc 145) (xml 145) (xrt 145) ∈ lw_tbl := xseg_5 (List.mem_of_getElem? (i := 154) rfl)
set_option maxRecDepth 100000 in
theorem xcw_146 : Cond.code (xy 146) (xc 146) (xml 146) (xrt 146) ∈ lw_tbl := xseg_5 (List.mem_of_getElem? (i := 180) rfl)
set_option maxRecDepth 100000 in
theorem xcw_147 : Cond.code (xy 147) (xc 147) (xml 147) (xrt 147) ∈ lw_tbl := xseg_5 (List.mem_of_getElem? (i := 185) rfl)
set_option maxRecDepth 100000 in
theorem xcw_148 : Cond.code (xy 148) (xc 148) (xml 148) (xrt 148) ∈ lw_tbl := xseg_5 (List.mem_of_getElem? (i := 194) rfl)
set_option maxRecDepth 100000 in
theorem xcw_149 : Cond.code (xy 149) (xc 149) (xml 149) (xrt 149) ∈ lw_tbl := xseg_5 (List.mem_of_getElem? (i := 207) rfl)
set_option maxRecDepth 100000 in
theorem xcw_150 : Cond.code (xy 150) (xc 150) (xml 150) (xrt 150) ∈ lw_tbl := xseg_5 (List.mem_of_getElem? (i := 211) rfl)
set_option maxRecDepth 100000 in
theorem xcw_151 : Cond.code (xy 151) (xc 151) (xml 151) (xrt 151) ∈ lw_tbl := xseg_5 (List.mem_of_getElem? (i := 219) rfl)
set_option maxRecDepth 100000 in
theorem xcw_152 : Cond.code (xy 152) (xc 152) (xml 152) (xrt 152) ∈ lw_tbl := xseg_6 (List.mem_of_getElem? (i := 8) rfl)
set_option maxRecDepth 100000 in
theorem xcw_153 : Cond.code (xy 153) (xc 153) (xml 153) (xrt 153) ∈ lw_tbl := xseg_3 (List.mem_of_getElem? (i := 15) rfl)
set_option maxRecDepth 100000 in
theorem xcw_154 : Cond.code (xy 154) (xc 154) (xml 154) (xrt 154) ∈ lw_tbl := xseg_3 (List.mem_of_getElem? (i := 27) rfl)
set_option maxRecDepth 100000 in
theorem xcw_155 : Cond.code (xy 155) (xc 155) (xml 155) (xrt 155) ∈ lw_tbl := xseg_3 (List.mem_of_getElem? (i := 47) rfl)
set_option maxRecDepth 100000 in
theorem xcw_156 : Cond.code (xy 156) (xc 156) (xml 156) (xrt 156) ∈ lw_tbl := xseg_3 (List.mem_of_getElem? (i := 55) rfl)
set_option maxRecDepth 100000 in
theorem xcw_157 : Cond.code (xy 157) (xc 157) (xml 157) (xrt 157) ∈ lw_tbl := xseg_3 (List.mem_of_getElem? (i := 0) rfl)
set_option maxRecDepth 100000 in
theorem xcw_158 : Cond.code (xy 158) (xc 158) (xml 158) (xrt 158) ∈ lw_tbl := xseg_4 (List.mem_of_getElem? (i := 184) rfl)
set_option maxRecDepth 100000 in
theorem xcw_159 : Cond.code (xy 159) (xc 159) (xml 159) (xrt 159) ∈ lw_tbl := xseg_3 (List.mem_of_getElem? (i := 11) rfl)
set_option maxRecDepth 100000 in
theorem xcw_160 : Cond.code (xy 160) (xc 160) (xml 160) (xrt 160) ∈ lw_tbl := xseg_6 (List.mem_of_getElem? (i := 15) rfl)
set_option maxRecDepth 100000 in
theorem xcw_161 : Cond.code (xy 161) (xc 161) (xml 161) (xrt 161) ∈ lw_tbl := xseg_6 (List.mem_of_getElem? (i := 231) rfl)
set_option maxRecDepth 100000 in
theorem xcw_162 : Cond.code (xy 162) (xc 162) (xml 162) (xrt 162) ∈ lw_tbl := xseg_8 (List.mem_of_getElem? (i := 43) rfl)
set_option maxRecDepth 100000 in
theorem xcw_163 : Cond.code (xy 163) (xc 163) (xml 163) (xrt 163) ∈ lw_tbl := xseg_8 (List.mem_of_getElem? (i := 225) rfl)
set_option maxRecDepth 100000 in
theorem xcw_164 : Cond.code (xy 164) (xc 164) (xml 164) (xrt 164) ∈ lw_tbl := xseg_8 (List.mem_of_getElem? (i := 3) rfl)
set_option maxRecDepth 100000 in
theorem xcw_165 : Cond.code (xy 165) (xc 165) (xml 165) (xrt 165) ∈ lw_tbl := xseg_6 (List.mem_of_getElem? (i := 219) rfl)
set_option maxRecDepth 100000 in
theorem xcw_166 : Cond.code (xy 166) (xc 166) (xml 166) (xrt 166) ∈ lw_tbl := xseg_8 (List.mem_of_getElem? (i := 113) rfl)
set_option maxRecDepth 100000 in
theorem xcw_167 : Cond.code (xy 167) (xc 167) (xml 167) (xrt 167) ∈ lw_tbl := xseg_8 (List.mem_of_getElem? (i := 121) rfl)
set_option maxRecDepth 100000 in
theorem xcw_168 : Cond.code (xy 168) (xc 168) (xml 168) (xrt 168) ∈ lw_tbl := xseg_8 (List.mem_of_getElem? (i := 117) rfl)
set_option maxRecDepth 100000 in
theorem xcw_169 : Cond.code (xy 169) (xc 169) (xml 169) (xrt 169) ∈ lw_tbl := xseg_6 (List.mem_of_getElem? (i := 223) rfl)
set_option maxRecDepth 100000 in
theorem xcw_170 : Cond.code (xy 170) (xc 170) (xml 170) (xrt 170) ∈ lw_tbl := xseg_8 (List.mem_of_getElem? (i := 75) rfl)
set_option maxRecDepth 100000 in
theorem xcw_171 : Cond.code (xy 171) (xc 171) (xml 171) (xrt 171) ∈ lw_tbl := xseg_7 (List.mem_of_getElem? (i := 15) rfl)
set_option maxRecDepth 100000 in
theorem xcw_172 : Cond.code (xy 172) (xc 172) (xml 172) (xrt 172) ∈ lw_tbl := xseg_7 (List.mem_of_getElem? (i := 3) rfl)
set_option maxRecDepth 100000 in
theorem xcw_173 : Cond.code (xy 173) (xc 173) (xml 173) (xrt 173) ∈ lw_tbl := xseg_7 (List.mem_of_getElem? (i := 31) rfl)
set_option maxRecDepth 100000 in
theorem xcw_174 : Cond.code (xy 174) (xc 174) (xml 174) (xrt 174) ∈ lw_tbl := xseg_8 (List.mem_of_getElem? (i := 27) rfl)
set_option maxRecDepth 100000 in
theorem xcw_175 : Cond.code (xy 175) (xc 175) (xml 175) (xrt 175) ∈ lw_tbl := xseg_7 (List.mem_of_getElem? (i := 235) rfl)
set_option maxRecDepth 100000 in
theorem xcw_176 : Cond.code (xy 176) (xc 176) (xml 176) (xrt 176) ∈ lw_tbl := xseg_7 (List.mem_of_getElem? (i := 199) rfl)
set_option maxRecDepth 100000 in
theorem xcw_177 : Cond.code (xy 177) (xc 177) (xml 177) (xrt 177) ∈ lw_tbl := xseg_7 (List.mem_of_getElem? (i := 215) rfl)
set_option maxRecDepth 100000 in
theorem xcw_178 : Cond.code (xy 178) (xc 178) (xml 178) (xrt 178) ∈ lw_tbl := xseg_7 (List.mem_of_getElem? (i := 219) rfl)
set_option maxRecDepth 100000 in
theorem xcw_179 : Cond.code (xy 179) (xc 179) (xml 179) (xrt 179) ∈ lw_tbl := xseg_7 (List.mem_of_getElem? (i := 211) rfl)
set_option maxRecDepth 100000 in
theorem xcw_180 : Cond.code (xy 180) (xc 180) (xml 180) (xrt 180) ∈ lw_tbl := xseg_8 (List.mem_of_getElem? (i := 31) rfl)
set_option maxRecDepth 100000 in
theorem xcw_181 : Cond.code (xy 181) (xc 181) (xml 181) (xrt 181) ∈ lw_tbl := xseg_6 (List.mem_of_getElem? (i := 235) rfl)
set_option maxRecDepth 100000 in
theorem xcw_182 : Cond.code (xy 182) (xc 182) (xml 182) (xrt 182) ∈ lw_tbl := xseg_6 (List.mem_of_getElem? (i := 227) rfl)
set_option maxRecDepth 100000 in
theorem xcw_183 : Cond.code (xy 183) (xc 183) (xml 183) (xrt 183) ∈ lw_tbl := xseg_6 (List.mem_of_getElem? (i := 239) rfl)
set_option maxRecDepth 100000 in
theorem xcw_184 : Cond.code (xy 184) (xc 184) (xml 184) (xrt 184) ∈ lw_tbl := xseg_7 (List.mem_of_getElem? (i := 11) rfl)
set_option maxRecDepth 100000 in
theorem xcw_185 : Cond.code (xy 185) (xc 185) (xml 185) (xrt 185) ∈ lw_tbl := xseg_7 (List.mem_of_getElem? (i := 7) rfl)
set_option maxRecDepth 100000 in
theorem xcw_186 : Cond.code (xy 186) (xc 186) (xml 186) (xrt 186) ∈ lw_tbl := xseg_7 (List.mem_of_getElem? (i := 19) rfl)
set_option maxRecDepth 100000 in
theorem xcw_187 : Cond.code (xy 187) (xc 187) (xml 187) (xrt 187) ∈ lw_tbl := xseg_7 (List.mem_of_getElem? (i := 27) rfl)
set_option maxRecDepth 100000 in
theorem xcw_188 : Cond.code (xy 188) (xc 188) (xml 188) (xrt 188) ∈ lw_tbl := xseg_7 (List.mem_of_getElem? (i := 23) rfl)
set_option maxRecDepth 100000 in
theorem xcw_189 : Cond.code (xy 189) (xc 189) (xml 189) (xrt 189) ∈ lw_tbl := xseg_7 (List.mem_of_getElem? (i := 39) rfl)
set_option maxRecDepth 100000 in
theorem xcw_190 : Cond.code (xy 190) (xc 190) (xml 190) (xrt 190) ∈ lw_tbl := xseg_7 (List.mem_of_getElem? (i := 35) rfl)
set_option maxRecDepth 100000 in
theorem xcw_191 : Cond.code (xy 191) (xc 191) (xml 191) (xrt 191) ∈ lw_tbl := xseg_7 (List.mem_of_getElem? (i := 47) rfl)
set_option maxRecDepth 100000 in
theorem xcw_192 : Cond.code (xy 192) (xc 192) (xml 192) (xrt 192) ∈ lw_tbl := xseg_7 (List.mem_of_getElem? (i := 43) rfl)
set_option maxRecDepth 100000 in
theorem xcw_193 : Cond.code (xy 193) (xc 193) (xml 193) (xrt 193) ∈ lw_tbl := xseg_7 (List.mem_of_getElem? (i := 51) rfl)
set_option maxRecDepth 100000 in
theorem xcw_194 : Cond.code (xy 194) (xc 194) (xml 194) (xrt 194) ∈ lw_tbl := xseg_7 (List.mem_of_getElem? (i := 63) rfl)
set_option maxRecDepth 100000 in
theorem xcw_195 : Cond.code (xy 195) (xc 195) (xml 195) (xrt 195) ∈ lw_tbl := xseg_7 (List.mem_of_getElem? (i := 67) rfl)
set_option maxRecDepth 100000 in
theorem xcw_196 : Cond.code (xy 196) (xc 196) (xml 196) (xrt 196) ∈ lw_tbl := xseg_7 (List.mem_of_getElem? (i := 75) rfl)
set_option maxRecDepth 100000 in
theorem xcw_197 : Cond.code (xy 197) (xc 197) (xml 197) (xrt 197) ∈ lw_tbl := xseg_7 (List.mem_of_getElem? (i := 79) rfl)
set_option maxRecDepth 100000 in
theorem xcw_198 : Cond.code (xy 198) (xc 198) (xml 198) (xrt 198) ∈ lw_tbl := xseg_7 (List.mem_of_getElem? (i := 71) rfl)
set_option maxRecDepth 100000 in
theorem xcw_199 : Cond.code (xy 199) (xc 199) (xml 199) (xrt 199) ∈ lw_tbl := xseg_7 (List.mem_of_getElem? (i := 59) rfl)
set_option maxRecDepth 100000 in
theorem xcw_200 : Cond.code (xy 200) (xc 200) (xml 200) (xrt 200) ∈ lw_tbl := xseg_7 (List.mem_of_getElem? (i := 95) rfl)
set_option maxRecDepth 100000 in
theorem xcw_201 : Cond.code (xy 201) (xc 201) (xml 201) (xrt 201) ∈ lw_tbl := xseg_7 (List.mem_of_getElem? (i := 91) rfl)
set_option maxRecDepth 100000 in
theorem xcw_202 : Cond.code (xy 202) (xc 202) (xml 202) (xrt 202) ∈ lw_tbl := xseg_7 (List.mem_of_getElem? (i := 119) rfl)
set_option maxRecDepth 100000 in
theorem xcw_203 : Cond.code (xy 203) (xc 203) (xml 203) (xrt 203) ∈ lw_tbl := xseg_7 (List.mem_of_getElem? (i := 147) rfl)
set_option maxRecDepth 100000 in
theorem xcw_204 : Cond.code (xy 204) (xc 204) (xml 204) (xrt 204) ∈ lw_tbl := xseg_7 (List.mem_of_getElem? (i := 143) rfl)
set_option maxRecDepth 100000 in
theorem xcw_205 : Cond.code (xy 205) (xc 205) (xml 205) (xrt 205) ∈ lw_tbl := xseg_7 (List.mem_of_getElem? (i := 139) rfl)
set_option maxRecDepth 100000 in
theorem xcw_206 : Cond.code (xy 206) (xc 206) (xml 206) (xrt 206) ∈ lw_tbl := xseg_7 (List.mem_of_getElem? (i := 135) rfl)
set_option maxRecDepth 100000 in
theorem xcw_207 : Cond.code (xy 207) (xc 207) (xml 207) (xrt 207) ∈ lw_tbl := xseg_7 (List.mem_of_getElem? (i := 131) rfl)
set_option maxRecDepth 100000 in
theorem xcw_208 : Cond.code (xy 208) (xc 208) (xml 208) (xrt 208) ∈ lw_tbl := xseg_7 (List.mem_of_getElem? (i := 159) rfl)
set_option maxRecDepth 100000 in
theorem xcw_209 : Cond.code (xy 209) (xc 209) (xml 209) (xrt 209) ∈ lw_tbl := xseg_7 (List.mem_of_getElem? (i := 155) rfl)
set_option maxRecDepth 100000 in
theorem xcw_210 : Cond.code (xy 210) (xc 210) (xml 210) (xrt 210) ∈ lw_tbl := xseg_7 (List.mem_of_getElem? (i := 163) rfl)
set_option maxRecDepth 100000 in
theorem xcw_211 : Cond.code (xy 211) (xc 211) (xml 211) (xrt 211) ∈ lw_tbl := xseg_7 (List.mem_of_getElem? (i := 151) rfl)
set_option maxRecDepth 100000 in
theorem xcw_212 : Cond.code (xy 212) (xc 212) (xml 212) (xrt 212) ∈ lw_tbl := xseg_7 (List.mem_of_getElem? (i := 127) rfl)
set_option maxRecDepth 100000 in
theorem xcw_213 : Cond.code (xy 213) (xc 213) (xml 213) (xrt 213) ∈ lw_tbl := xseg_7 (List.mem_of_getElem? (i := 123) rfl)
set_option maxRecDepth 100000 in
theorem xcw_214 : Cond.code (xy 214) (xc 214) (xml 214) (xrt 214) ∈ lw_tbl := xseg_7 (List.mem_of_getElem? (i := 171) rfl)
set_option maxRecDepth 100000 in
theorem xcw_215 : Cond.code (xy 215) (xc 215) (xml 215) (xrt 215) ∈ lw_tbl := xseg_7 (List.mem_of_getElem? (i := 107) rfl)
set_option maxRecDepth 100000 in
theorem xcw_216 : Cond.code (xy 216) (xc 216) (xml 216) (xrt 216) ∈ lw_tbl := xseg_7 (List.mem_of_getElem? (i := 115) rfl)
set_option maxRecDepth 100000 in
theorem xcw_217 : Cond.code (xy 217) (xc 217) (xml 217) (xrt 217) ∈ lw_tbl := xseg_7 (List.mem_of_getElem? (i := 103) rfl)
set_option maxRecDepth 100000 in
theorem xcw_218 : Cond.code (xy 218) (xc 218) (xml 218) (xrt 218) ∈ lw_tbl := xseg_7 (List.mem_of_getElem? (i := 111) rfl)
set_option maxRecDepth 100000 in
theorem xcw_219 : Cond.code (xy 219) (xc 219) (xml 219) (xrt 219) ∈ lw_tbl := xseg_7 (List.mem_of_getElem? (i := 99) rfl)
set_option maxRecDepth 100000 in
theorem xcw_220 : Cond.code (xy 220) (xc 220) (xml 220) (xrt 220) ∈ lw_tbl := xseg_7 (List.mem_of_getElem? (i := 87) rfl)
set_option maxRecDepth 100000 in
theorem xcw_221 : Cond.code (xy 221) (xc 221) (xml 221) (xrt 221) ∈ lw_tbl := xseg_7 (List.mem_of_getElem? (i := 83) rfl)
set_option maxRecDepth 100000 in
theorem xcw_222 : Cond.code (xy 222) (xc 222) (xml 222) (xrt 222) ∈ lw_tbl := xseg_7 (List.mem_of_getElem? (i := 167) rfl)
set_option maxRecDepth 100000 in
theorem xcw_223 : Cond.code (xy 223) (xc 223) (xml 223) (xrt 223) ∈ lw_tbl := xseg_7 (List.mem_of_getElem? (i := 55) rfl)
set_option maxRecDepth 100000 in
theorem xcw_224 : Cond.code (xy 224) (xc 224) (xml 224) (xrt 224) ∈ lw_tbl := xseg_7 (List.mem_of_getElem? (i := 175) rfl)
set_option maxRecDepth 100000 in
theorem xcw_225 : Cond.code (xy 225) (xc 225) (xml 225) (xrt 225) ∈ lw_tbl := xseg_7 (List.mem_of_getElem? (i := 231) rfl)
set_option maxRecDepth 100000 in
theorem xcw_226 : Cond.code (xy 226) (xc 226) (xml 226) (xrt 226) ∈ lw_tbl := xseg_7 (List.mem_of_getElem? (i := 227) rfl)
set_option maxRecDepth 100000 in
theorem xcw_227 : Cond.code (xy 227) (xc 227) (xml 227) (xrt 227) ∈ lw_tbl := xseg_7 (List.mem_of_getElem? (i := 223) rfl)
set_option maxRecDepth 100000 in
theorem xcw_228 : Cond.code (xy 228) (xc 228) (xml 228) (xrt 228) ∈ lw_tbl := xseg_8 (List.mem_of_getElem? (i := 11) rfl)
set_option maxRecDepth 100000 in
theorem xcw_229 : Cond.code (xy 229) (xc 229) (xml 229) (xrt 229) ∈ lw_tbl := xseg_8 (List.mem_of_getElem? (i := 7) rfl)
set_option maxRecDepth 100000 in
theorem xcw_230 : Cond.code (xy 230) (xc 230) (xml 230) (xrt 230) ∈ lw_tbl := xseg_8 (List.mem_of_getElem? (i := 15) rfl)
set_option maxRecDepth 100000 in
theorem xcw_231 : Cond.code (xy 231) (xc 231) (xml 231) (xrt 231) ∈ lw_tbl := xseg_7 (List.mem_of_getElem? (i := 207) rfl)
set_option maxRecDepth 100000 in
theorem xcw_232 : Cond.code (xy 232) (xc 232) (xml 232) (xrt 232) ∈ lw_tbl := xseg_7 (List.mem_of_getElem? (i := 203) rfl)
set_option maxRecDepth 100000 in
theorem xcw_233 : Cond.code (xy 233) (xc 233) (xml 233) (xrt 233) ∈ lw_tbl := xseg_7 (List.mem_of_getElem? (i := 191) rfl)
set_option maxRecDepth 100000 in
theorem xcw_234 : Cond.code (xy 234) (xc 234) (xml 234) (xrt 234) ∈ lw_tbl := xseg_7 (List.mem_of_getElem? (i := 239) rfl)
set_option maxRecDepth 100000 in
theorem xcw_235 : Cond.code (xy 235) (xc 235) (xml 235) (xrt 235) ∈ lw_tbl := xseg_7 (List.mem_of_getElem? (i := 195) rfl)
set_option maxRecDepth 100000 in
theorem xcw_236 : Cond.code (xy 236) (xc 236) (xml 236) (xrt 236) ∈ lw_tbl := xseg_7 (List.mem_of_getElem? (i := 187) rfl)
set_option maxRecDepth 100000 in
theorem xcw_237 : Cond.code (xy 237) (xc 237) (xml 237) (xrt 237) ∈ lw_tbl := xseg_7 (List.mem_of_getElem? (i := 183) rfl)
set_option maxRecDepth 100000 in
theorem xcw_238 : Cond.code (xy 238) (xc 238) (xml 238) (xrt 238) ∈ lw_tbl := xseg_7 (List.mem_of_getElem? (i := 179) rfl)
set_option maxRecDepth 100000 in
theorem xcw_239 : Cond.code (xy 239) (xc 239) (xml 239) (xrt 239) ∈ lw_tbl := xseg_8 (List.mem_of_getElem? (i := 23) rfl)
set_option maxRecDepth 100000 in
theorem xcw_240 : Cond.code (xy 240) (xc 240) (xml 240) (xrt 240) ∈ lw_tbl := xseg_8 (List.mem_of_getElem? (i := 39) rfl)
set_option maxRecDepth 100000 in
theorem xcw_241 : Cond.code (xy 241) (xc 241) (xml 241) (xrt 241) ∈ lw_tbl := xseg_8 (List.mem_of_getElem? (i := 47) rfl)
set_option maxRecDepth 100000 in
theorem xcw_242 : Cond.code (xy 242) (xc 242) (xml 242) (xrt 242) ∈ lw_tbl := xseg_8 (List.mem_of_getElem? (i := 35) rfl)
set_option maxRecDepth 100000 in
theorem xcw_243 : Cond.code (xy 243) (xc 243) (xml 243) (xrt 243) ∈ lw_tbl := xseg_8 (List.mem_of_getElem? (i := 19) rfl)
set_option maxRecDepth 100000 in
theorem xcw_244 : Cond.code (xy 244) (xc 244) (xml 244) (xrt 244) ∈ lw_tbl := xseg_8 (List.mem_of_getElem? (i := 55) rfl)
set_option maxRecDepth 100000 in
theorem xcw_245 : Cond.code (xy 245) (xc 245) (xml 245) (xrt 245) ∈ lw_tbl := xseg_8 (List.mem_of_getElem? (i := 51) rfl)
set_option maxRecDepth 100000 in
theorem xcw_246 : Cond.code (xy 246) (xc 246) (xml 246) (xrt 246) ∈ lw_tbl := xseg_8 (List.mem_of_getElem? (i := 71) rfl)
set_option maxRecDepth 100000 in
theorem xcw_247 : Cond.code (xy 247) (xc 247) (xml 247) (xrt 247) ∈ lw_tbl := xseg_8 (List.mem_of_getElem? (i := 81) rfl)
set_option maxRecDepth 100000 in
theorem xcw_248 : Cond.code (xy 248) (xc 248) (xml 248) (xrt 248) ∈ lw_tbl := xseg_8 (List.mem_of_getElem? (i := 85) rfl)
set_option maxRecDepth 100000 in
theorem xcw_249 : Cond.code (xy 249) (xc 249) (xml 249) (xrt 249) ∈ lw_tbl := xseg_8 (List.mem_of_getElem? (i := 93) rfl)
set_option maxRecDepth 100000 in
theorem xcw_250 : Cond.code (xy 250) (xc 250) (xml 250) (xrt 250) ∈ lw_tbl := xseg_8 (List.mem_of_getElem? (i := 89) rfl)
set_option maxRecDepth 100000 in
theorem xcw_251 : Cond.code (xy 251) (xc 251) (xml 251) (xrt 251) ∈ lw_tbl := xseg_8 (List.mem_of_getElem? (i := 67) rfl)
set_option maxRecDepth 100000 in
theorem xcw_252 : Cond.code (xy 252) (xc 252) (xml 252) (xrt 252) ∈ lw_tbl := xseg_8 (List.mem_of_getElem? (i := 63) rfl)
set_option maxRecDepth 100000 in
theorem xcw_253 : Cond.code (xy 253) (xc 253) (xml 253) (xrt 253) ∈ lw_tbl := xseg_8 (List.mem_of_getElem? (i := 59) rfl)
set_option maxRecDepth 100000 in
theorem xcw_254 : Cond.code (xy 254) (xc 254) (xml 254) (xrt 254) ∈ lw_tbl := xseg_8 (List.mem_of_getElem? (i := 105) rfl)
set_option maxRecDepth 100000 in
theorem xcw_255 : Cond.code (xy 255) (xc 255) (xml 255) (xrt 255) ∈ lw_tbl := xseg_8 (List.mem_of_getElem? (i := 101) rfl)
set_option maxRecDepth 100000 in
theorem xcw_256 : Cond.code (xy 256) (xc 256) (xml 256) (xrt 256) ∈ lw_tbl := xseg_8 (List.mem_of_getElem? (i := 97) rfl)
set_option maxRecDepth 100000 in
theorem xcw_257 : Cond.code (xy 257) (xc 257) (xml 257) (xrt 257) ∈ lw_tbl := xseg_8 (List.mem_of_getElem? (i := 109) rfl)
set_option maxRecDepth 100000 in
theorem xcw_258 : Cond.code (xy 258) (xc 258) (xml 258) (xrt 258) ∈ lw_tbl := xseg_8 (List.mem_of_getElem? (i := 125) rfl)
set_option maxRecDepth 100000 in
theorem xcw_259 : Cond.code (xy 259) (xc 259) (xml 259) (xrt 259) ∈ lw_tbl := xseg_8 (List.mem_of_getElem? (i := 133) rfl)
set_option maxRecDepth 100000 in
theorem xcw_260 : Cond.code (xy 260) (xc 260) (xml 260) (xrt 260) ∈ lw_tbl := xseg_8 (List.mem_of_getElem? (i := 129) rfl)
set_option maxRecDepth 100000 in
theorem xcw_261 : Cond.code (xy 261) (xc 261) (xml 261) (xrt 261) ∈ lw_tbl := xseg_8 (List.mem_of_getElem? (i := 137) rfl)
set_option maxRecDepth 100000 in
theorem xcw_262 : Cond.code (xy 262) (xc 262) (xml 262) (xrt 262) ∈ lw_tbl := xseg_8 (List.mem_of_getElem? (i := 141) rfl)
set_option maxRecDepth 100000 in
theorem xcw_263 : Cond.code (xy 263) (xc 263) (xml 263) (xrt 263) ∈ lw_tbl := xseg_8 (List.mem_of_getElem? (i := 149) rfl)
set_option maxRecDepth 100000 in
theorem xcw_264 : Cond.code (xy 264) (xc 264) (xml 264) (xrt 264) ∈ lw_tbl := xseg_8 (List.mem_of_getElem? (i := 145) rfl)
set_option maxRecDepth 100000 in
theorem xcw_265 : Cond.code (xy 265) (xc 265) (xml 265) (xrt 265) ∈ lw_tbl := xseg_8 (List.mem_of_getElem? (i := 165) rfl)
set_option maxRecDepth 100000 in
theorem xcw_266 : Cond.code (xy 266) (xc 266) (xml 266) (xrt 266) ∈ lw_tbl := xseg_8 (List.mem_of_getElem? (i := 173) rfl)
set_option maxRecDepth 100000 in
theorem xcw_267 : Cond.code (xy 267) (xc 267) (xml 267) (xrt 267) ∈ lw_tbl := xseg_8 (List.mem_of_getElem? (i := 169) rfl)
set_option maxRecDepth 100000 in
theorem xcw_268 : Cond.code (xy 268) (xc 268) (xml 268) (xrt 268) ∈ lw_tbl := xseg_8 (List.mem_of_getElem? (i := 161) rfl)
set_option maxRecDepth 100000 in
theorem xcw_269 : Cond.code (xy 269) (xc 269) (xml 269) (xrt 269) ∈ lw_tbl := xseg_8 (List.mem_of_getElem? (i := 157) rfl)
set_option maxRecDepth 100000 in
theorem xcw_270 : Cond.code (xy 270) (xc 270) (xml 270) (xrt 270) ∈ lw_tbl := xseg_8 (List.mem_of_getElem? (i := 153) rfl)
set_option maxRecDepth 100000 in
theorem xcw_271 : Cond.code (xy 271) (xc 271) (xml 271) (xrt 271) ∈ lw_tbl := xseg_8 (List.mem_of_getElem? (i := 177) rfl)
set_option maxRecDepth 100000 in
theorem xcw_272 : Cond.code (xy 272) (xc 272) (xml 272) (xrt 272) ∈ lw_tbl := xseg_8 (List.mem_of_getElem? (i := 185) rfl)
set_option maxRecDepth 100000 in
theorem xcw_273 : Cond.code (xy 273) (xc 273) (xml 273) (xrt 273) ∈ lw_tbl := xseg_8 (List.mem_of_getElem? (i := 189) rfl)
set_option maxRecDepth 100000 in
theorem xcw_274 : Cond.code (xy 274) (xc 274) (xml 274) (xrt 274) ∈ lw_tbl := xseg_8 (List.mem_of_getElem? (i := 181) rfl)
set_option maxRecDepth 100000 in
theorem xcw_275 : Cond.code (xy 275) (xc 275) (xml 275) (xrt 275) ∈ lw_tbl := xseg_8 (List.mem_of_getElem? (i := 193) rfl)
set_option maxRecDepth 100000 in
theorem xcw_276 : Cond.code (xy 276) (xc 276) (xml 276) (xrt 276) ∈ lw_tbl := xseg_8 (List.mem_of_getElem? (i := 205) rfl)
set_option maxRecDepth 100000 in
theorem xcw_277 : Cond.code (xy 277) (xc 277) (xml 277) (xrt 277) ∈ lw_tbl := xseg_8 (List.mem_of_getElem? (i := 201) rfl)
set_option maxRecDepth 100000 in
theorem xcw_278 : Cond.code (xy 278) (xc 278) (xml 278) (xrt 278) ∈ lw_tbl := xseg_8 (List.mem_of_getElem? (i := 197) rfl)
set_option maxRecDepth 100000 in
theorem xcw_279 : Cond.code (xy 279) (xc 279) (xml 279) (xrt 279) ∈ lw_tbl := xseg_8 (List.mem_of_getElem? (i := 213) rfl)
set_option maxRecDepth 100000 in
theorem xcw_280 : Cond.code (xy 280) (xc 280) (xml 280) (xrt 280) ∈ lw_tbl := xseg_8 (List.mem_of_getElem? (i := 209) rfl)
set_option maxRecDepth 100000 in
theorem xcw_281 : Cond.code (xy 281) (xc 281) (xml 281) (xrt 281) ∈ lw_tbl := xseg_8 (List.mem_of_getElem? (i := 229) rfl)
set_option maxRecDepth 100000 in
theorem xcw_282 : Cond.code (xy 282) (xc 282) (xml 282) (xrt 282) ∈ lw_tbl := xseg_9 (List.mem_of_getElem? (i := 1) rfl)
set_option maxRecDepth 100000 in
theorem xcw_283 : Cond.code (xy 283) (xc 283) (xml 283) (xrt 283) ∈ lw_tbl := xseg_8 (List.mem_of_getElem? (i := 237) rfl)
set_option maxRecDepth 100000 in
theorem xcw_284 : Cond.code (xy 284) (xc 284) (xml 284) (xrt 284) ∈ lw_tbl := xseg_8 (List.mem_of_getElem? (i := 233) rfl)
set_option maxRecDepth 100000 in
theorem xcw_285 : Cond.code (xy 285) (xc 285) (xml 285) (xrt 285) ∈ lw_tbl := xseg_8 (List.mem_of_getElem? (i := 221) rfl)
set_option maxRecDepth 100000 in
theorem xcw_286 : Cond.code (xy 286) (xc 286) (xml 286) (xrt 286) ∈ lw_tbl := xseg_8 (List.mem_of_getElem? (i := 217) rfl)
set_option maxRecDepth 100000 in
theorem xcw_287 : Cond.code (xy 287) (xc 287) (xml 287) (xrt 287) ∈ lw_tbl := xseg_9 (List.mem_of_getElem? (i := 13) rfl)
set_option maxRecDepth 100000 in
theorem xcw_288 : Cond.code (xy 288) (xc 288) (xml 288) (xrt 288) ∈ lw_tbl := xseg_9 (List.mem_of_getElem? (i := 9) rfl)
set_option maxRecDepth 100000 in
theorem xcw_289 : Cond.code (xy 289) (xc 289) (xml 289) (xrt 289) ∈ lw_tbl := xseg_9 (List.mem_of_getElem? (i := 5) rfl)
set_option maxRecDepth 100000 in
theorem xcw_290 : Cond.code (xy 290) (xc 290) (xml 290) (xrt 290) ∈ lw_tbl := xseg_9 (List.mem_of_getElem? (i := 21) rfl)
set_option maxRecDepth 100000 in
theorem xcw_291 : Cond.code (xy 291) (xc 291) (xml 291) (xrt 291) ∈ lw_tbl := xseg_9 (List.mem_of_getElem? (i := 17) rfl)
set_option maxRecDepth 100000 in
theorem xcw_292 : Cond.code (xy 292) (xc 292) (xml 292) (xrt 292) ∈ lw_tbl := xseg_9 (List.mem_of_getElem? (i := 25) rfl)
set_option maxRecDepth 100000 in
theorem xcw_293 : Cond.code (xy 293) (xc 293) (xml 293) (xrt 293) ∈ lw_tbl := xseg_9 (List.mem_of_getElem? (i := 33) rfl)
set_option maxRecDepth 100000 in
theorem xcw_294 : Cond.code (xy 294) (xc 294) (xml 294) (xrt 294) ∈ lw_tbl := xseg_9 (List.mem_of_getElem? (i := 29) rfl)
set_option maxRecDepth 100000 in
theorem xcw_295 : Cond.code (xy 295) (xc 295) (xml 295) (xrt 295) ∈ lw_tbl := xseg_9 (List.mem_of_getElem? (i := 41) rfl)
set_option maxRecDepth 100000 in
theorem xcw_296 : Cond.code (xy 296) (xc 296) (xml 296) (xrt 296) ∈ lw_tbl := xseg_9 (List.mem_of_getElem? (i := 53) rfl)
set_option maxRecDepth 100000 in
theorem xcw_297 : Cond.code (xy 297) (xc 297) (xml 297) (xrt 297) ∈ lw_tbl := xseg_9 (List.mem_of_getElem? (i := 45) rfl)
set_option maxRecDepth 100000 in
theorem xcw_298 : Cond.code (xy 298) (xc 298) (xml 298) (xrt 298) ∈ lw_tbl := xseg_9 (List.mem_of_getElem? (i := 49) rfl)
set_option maxRecDepth 100000 in
theorem xcw_299 : Cond.code (xy 299) (xc 299) (xml 299) (xrt 299) ∈ lw_tbl := xseg_9 (List.mem_of_getElem? (i := 37) rfl)
set_option maxRecDepth 100000 in
theorem xcw_300 : Cond.code (xy 300) (xc 300) (xml 300) (xrt 300) ∈ lw_tbl := xseg_9 (List.mem_of_getElem? (i := 57) rfl)
set_option maxRecDepth 100000 in
theorem xcw_301 : Cond.code (xy 301) (xc 301) (xml 301) (xrt 301) ∈ lw_tbl := xseg_4 (List.mem_of_getElem? (i := 197) rfl)
set_option maxRecDepth 100000 in
theorem xcw_302 : Cond.code (xy 302) (xc 302) (xml 302) (xrt 302) ∈ lw_tbl := xseg_5 (List.mem_of_getElem? (i := 134) rfl)
set_option maxRecDepth 100000 in
theorem xcw_303 : Cond.code (xy 303) (xc 303) (xml 303) (xrt 303) ∈ lw_tbl := xseg_3 (List.mem_of_getElem? (i := 92) rfl)
set_option maxRecDepth 100000 in
theorem xcw_304 : Cond.code (xy 304) (xc 304) (xml 304) (xrt 304) ∈ lw_tbl := xseg_3 (List.mem_of_getElem? (i := 102) rfl)
set_option maxRecDepth 100000 in
theorem xcw_305 : Cond.code (xy 305) (xc 305) (xml 305) (xrt 305) ∈ lw_tbl := xseg_3 (List.mem_of_getElem? (i := 152) rfl)
set_option maxRecDepth 100000 in
theorem xcw_306 : Cond.code (xy 306) (xc 306) (xml 306) (xrt 306) ∈ lw_tbl := xseg_3 (List.mem_of_getElem? (i := 156) rfl)
set_option maxRecDepth 100000 in
theorem xcw_307 : Cond.code (xy 307) (xc 307) (xml 307) (xrt 307) ∈ lw_tbl := xseg_3 (List.mem_of_getElem? (i := 96) rfl)
set_option maxRecDepth 100000 in
theorem xcw_308 : Cond.code (xy 308) (xc 308) (xml 308) (xrt 308) ∈ lw_tbl := xseg_3 (List.mem_of_getElem? (i := 106) rfl)
set_option maxRecDepth 100000 in
theorem xcw_309 : Cond.code (xy 309) (xc 309) (xml 309) (xrt 309) ∈ lw_tbl := xseg_3 (List.mem_of_getElem? (i := 112) rfl)
set_option maxRecDepth 100000 in
theorem xcw_310 : Cond.code (xy 310) (xc 310) (xml 310) (xrt 310) ∈ lw_tbl := xseg_3 (List.mem_of_getElem? (i := 109) rfl)
set_option maxRecDepth 100000 in
theorem xcw_311 : Cond.code (xy 311) (xc 311) (xml 311) (xrt 311) ∈ lw_tbl := xseg_3 (List.mem_of_getElem? (i := 163) rfl)
set_option maxRecDepth 100000 in
theorem xcw_312 : Cond.code (xy 312) (xc 312) (xml 312) (xrt 312) ∈ lw_tbl := xseg_3 (List.mem_of_getElem? (i := 160) rfl)
set_option maxRecDepth 100000 in
theorem xcw_313 : Cond.code (xy 313) (xc 313) (xml 313) (xrt 313) ∈ lw_tbl := xseg_3 (List.mem_of_getElem? (i := 172) rfl)
set_option maxRecDepth 100000 in
theorem xcw_314 : Cond.code (xy 314) (xc 314) (xml 314) (xrt 314) ∈ lw_tbl := xseg_2 (List.mem_of_getElem? (i := 192) rfl)
set_option maxRecDepth 100000 in
theorem xcw_315 : Cond.code (xy 315) (xc 315) (xml 315) (xrt 315) ∈ lw_tbl := xseg_3 (List.mem_of_getElem? (i := 117) rfl)
def xCW (i : Nat) : Prop := Cond.code (xy i) (xc i) (xml i) (xrt i) ∈ lw_tbl
theorem xCW_all0 : ∀ a, a < 0 → xCW a := lt_0
theorem xCW_all20 : ∀ a, a < 20 → xCW a := (lt_s (lt_s (lt_s (lt_s (lt_s (lt_s (lt_s (lt_s (lt_s (lt_s (lt_s (lt_s (lt_s (lt_s (lt_s (lt_s (lt_s (lt_s (lt_s (lt_s xCW_all0 xcw_0) xcw_1) xcw_2) xcw_3) xcw_4) xcw_5) xcw_6) xcw_7) xcw_8) xcw_9) xcw_10) xcw_11) xcw_12) xcw_13) xcw_14) xcw_15) xcw_16) xcw_17) xcw_18) xcw_19)
theorem xCW_all40 : ∀ a, a < 40 → xCW a := (lt_s (lt_s (lt_s (lt_s (lt_s (lt_s (lt_s (lt_s (lt_s (lt_s (lt_s (lt_s (lt_s (lt_s (lt_s (lt_s (lt_s (lt_s (lt_s (lt_s xCW_all20 xcw_20) xcw_21) xcw_22) xcw_23) xcw_24) xcw_25) xcw_26) xcw_27) xcw_28) xcw_29) xcw_30) xcw_31) xcw_32) xcw_33) xcw_34) xcw_35) xcw_36) xcw_37) xcw_38) xcw_39)
theorem xCW_all60 : ∀ a, a < 60 → xCW a := (lt_s (lt_s (lt_s (lt_s (lt_s (lt_s (lt_s (lt_s (lt_s (lt_s (lt_s (lt_s (lt_s (lt_s (lt_s (lt_s (lt_s (lt_s (lt_s (lt_s xCW_all40 xcw_40) xcw_41) xcw_42) xcw_43) xcw_44) xcw_45) xcw_46) xcw_47) xcw_48) xcw_49) xcw_50) xcw_51) xcw_52) xcw_53) xcw_54) xcw_55) xcw_56) xcw_57) xcw_58) xcw_59)
theorem xCW_all80 : ∀ a, a < 80 → xCW a := (lt_s (lt_s (lt_s (lt_s (lt_s (lt_s (lt_s (lt_s (lt_s (lt_s (lt_s (lt_s (lt_s (lt_s (lt_s (lt_s (lt_s (lt_s (lt_s (lt_s xCW_all60 xcw_60) xcw_61) xcw_62) xcw_63) xcw_64) xcw_65) xcw_66) xcw_67) xcw_68) xcw_69) xcw_70) xcw_71) xcw_72) xcw_73) xcw_74) xcw_75) xcw_76) xcw_77) xcw_78) xcw_79)
theorem xCW_all100 : ∀ a, a < 100 → xCW a := (lt_s (lt_s (lt_s (lt_s (lt_s (lt_s (lt_s (lt_s (lt_s (lt_s (lt_s (lt_s (lt_s (lt_s (lt_s (lt_s (lt_s (lt_s (lt_s (lt_s xCW_all80 xcw_80) xcw_81) xcw_82) xcw_83) xcw_84) xcw_85) xcw_86) xcw_87) xcw_88) xcw_89) xcw_90) xcw_91) xcw_92) xcw_93) xcw_94) xcw_95) xcw_96) xcw_97) xcw_98) xcw_99)
theorem xCW_all120 : ∀ a, a < 120 → xCW a := (lt_s (lt_s (lt_s (lt_s (lt_s (lt_s (lt_s (lt_s (lt_s (lt_s (lt_s (lt_s (lt_s (lt_s (lt_s (lt_s (lt_s (lt_s (lt_s (lt_s xCW_all100 xcw_100) xcw_101) xcw_102) xcw_103) xcw_104) xcw_105) xcw_106) xcw_107) xcw_108) xcw_109) xcw_110) xcw_111) xcw_112) xcw_113) xcw_114) xcw_115) xcw_116) xcw_117) xcw_118) xcw_119)
theorem xCW_all140 : ∀ a, a < 140 → xCW a := (lt_s (lt_s (lt_s (lt_s (lt_s (lt_s (lt_s (lt_s (lt_s (lt_s (lt_s (lt_s (lt_s (lt_s (lt_s (lt_s (lt_s (lt_s (lt_s (lt_s xCW_all120 xcw_120) xcw_121) xcw_122) xcw_123) xcw_124) xcw_125) xcw_126) xcw_127) xcw_128) xcw_129) xcw_130) xcw_131) xcw_132) xcw_133) xcw_134) xcw_135) xcw_136) xcw_137) xcw_138) xcw_139)
theorem xCW_all160 : ∀ a, a < 160 → xCW a := (lt_s (lt_s (lt_s (lt_s (lt_s (lt_s (lt_s (lt_s (lt_s (lt_s (lt_s (lt_s (lt_s (lt_s (lt_s (lt_s (lt_s (lt_s (lt_s (lt_s xCW_all140 xcw_140) xcw_141) xcw_142) xcw_143) xcw_144) xcw_145) xcw_146) xcw_147) xcw_148) xcw_149) xcw_150) xcw_151) xcw_152) xcw_153) xcw_154) xcw_155) xcw_156) xcw_157) xcw_158) xcw_159)
theorem xCW_all180 : ∀ a, a < 180 → xCW a := (lt_s (lt_s (lt_s (lt_s (lt_s (lt_s (lt_s (lt_s (lt_s (lt_s (lt_s (lt_s (lt_s (lt_s (lt_s (lt_s (lt_s (lt_s (lt_s (lt_s xCW_all160 xcw_160) xcw_161) xcw_162) xcw_163) xcw_164) xcw_165) xcw_166) xcw_167) xcw_168) xcw_169) xcw_170) xcw_171) xcw_172) xcw_173) xcw_174) xcw_175) xcw_176) xcw_177) xcw_178) xcw_179)
theorem xCW_all200 : ∀ a, a < 200 → xCW a := (lt_s (lt_s (lt_s (lt_s (lt_s (lt_s (lt_s (lt_s (lt_s (lt_s (lt_s (lt_s (lt_s (lt_s (lt_s (lt_s (lt_s (lt_s (lt_s (lt_s xCW_all180 xcw_180) xcw_181) xcw_182) xcw_183) xcw_184) xcw_185) xcw_186) xcw_187) xcw_188) xcw_189) xcw_190) xcw_191) xcw_192) xcw_193) xcw_194) xcw_195) xcw_196) xcw_197) xcw_198) xcw_199)
theorem xCW_all220 : ∀ a, a < 220 → xCW a := (lt_s (lt_s (lt_s (lt_s (lt_s (lt_s (lt_s (lt_s (lt_s (lt_s (lt_s (lt_s (lt_s (lt_s (lt_s (lt_s (lt_s (lt_s (lt_s (lt_s xCW_all200 xcw_200) xcw_201) xcw_202) xcw_203) xcw_204) xcw_205) xcw_206) xcw_207) xcw_208) xcw_209) xcw_210) xcw_211) xcw_212) xcw_213) xcw_214) xcw_215) xcw_216) xcw_217) xcw_218) xcw_219)
theorem xCW_all240 : ∀ a, a < 240 → xCW a := (lt_s (lt_s (lt_s (lt_s (lt_s (lt_s (lt_s (lt_s (lt_s (lt_s (lt_s (lt_s (lt_s (lt_s (lt_s (lt_s (lt_s (lt_s (lt_s (lt_s xCW_all220 xcw_220) xcw_221) xcw_222) xcw_223) xcw_224) xcw_225) xcw_226) xcw_227) xcw_228) xcw_229) xcw_230) xcw_231) xcw_232) xcw_233) xcw_234) xcw_235) xcw_236) xcw_237) xcw_238) xcw_239)
theorem xCW_all260 : ∀ a, a < 260 → xCW a := (lt_s (lt_s (lt_s (lt_s (lt_s (lt_s (lt_s (lt_s (lt_s (lt_s (lt_s (lt_s (lt_s (lt_s (lt_s (lt_s (lt_s (lt_s (lt_s (lt_s xCW_all240 xcw_240) xcw_241) xcw_242) xcw_243) xcw_244) xcw_245) xcw_246) xcw_247) xcw_248) xcw_249) xcw_250) xcw_251) xcw_252) xcw_253) xcw_254) xcw_255) xcw_256) xcw_257) xcw_258) xcw_259)
theorem xCW_all280 : ∀ a, a < 280 → xCW a := (lt_s (lt_s (lt_s (lt_s (lt_s (lt_s (lt_s (lt_s (lt_s (lt_s (lt_s (lt_s (lt_s (lt_s (lt_s (lt_s (lt_s (lt_s (lt_s (lt_s xCW_all260 xcw_260) xcw_261) xcw_262) xcw_263) xcw_264) xcw_265) xcw_266) xcw_267) xcw_268) xcw_269) xcw_270) xcw_271) xcw_272) xcw_273) xcw_274) xcw_275) xcw_276) xcw_277) xcw_278) xcw_279)
theorem xCW_all300 : ∀ a, a < 300 → xCW a := (lt_s (lt_s (lt_s (lt_s (lt_s (lt_s (lt_s (lt_s (lt_s (lt_s (lt_s (lt_s (lt_s (lt_s (lt_s (lt_s (lt_s (lt_s (lt_s (lt_s xCW_all280 xcw_280) xcw_281) xcw_282) xcw_283) xcw_284) xcw_285) xcw_286) xcw_287) xcw_288) xcw_289) xcw_290) xcw_291) xcw_292) xcw_293) xcw_294) xcw_295) xcw_296) xcw_297) xcw_298) xcw_299)
theorem xCW_all316 : ∀ a, a < 316 → xCW a := (lt_s (lt_s (lt_s (lt_s (lt_s (lt_s (lt_s (lt_s (lt_s (lt_s (lt_s (lt_s (lt_s (lt_s (lt_s (lt_s xCW_all300 xcw_300) xcw_301) xcw_302) xcw_303) xcw_304) xcw_305) xcw_306) xcw_307) xcw_308) xcw_309) xcw_310) xcw_311) xcw_312) xcw_313) xcw_314) xcw_315)
