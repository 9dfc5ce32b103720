/-! The cells: shapes and references, canals by their base. Made by gen11.py. -/
def xS0 : List (Nat × Nat) := [(21, 2), (21, 2), (22, 158), (22, 10), (13, 6), (12, 6), (7, 7), (0, 400), (0, 400), (0, 64), (7, 7), (0, 400), (0, 400), (0, 64), (9, 6), (0, 150), (0, 150), (5, 7), (0, 12), (0, 12), (0, 12), (0, 10), (0, 10), (0, 9), (2, 2), (0, 750), (3, 17), (0, 10), (0, 9), (0, 9), (0, 9), (0, 9), (0, 5), (6, 5), (0, 9), (0, 9), (0, 9), (0, 36), (0, 54), (4, 5), (0, 6), (0, 6), (0, 6), (0, 24), (0, 15), (12, 6), (7, 7), (0, 400), (0, 400), (0, 64), (7, 7), (0, 400), (0, 400), (0, 64), (9, 6), (0, 150), (0, 150), (5, 7), (0, 12), (0, 12), (0, 12), (0, 10), (0, 10), (0, 9), (2, 2), (0, 750), (3, 17), (0, 10), (0, 9), (0, 9), (0, 9), (0, 9), (0, 5), (6, 5), (0, 9), (0, 9), (0, 9), (0, 36), (0, 54), (4, 5), (0, 6), (0, 6), (0, 6), (0, 24), (0, 15), (8, 5), (1, 10), (0, 10), (3, 17), (0, 10), (0, 9), (0, 9), (0, 9), (0, 9), (0, 5), (6, 5), (0, 9), (0, 9), (0, 9), (0, 36), (0, 54), (4, 5), (0, 6), (0, 6), (0, 6), (0, 24), (0, 15), (3, 17), (0, 10), (0, 9), (0, 9), (0, 9), (0, 9), (0, 5), (6, 5), (0, 9), (0, 9), (0, 9), (0, 36), (0, 54), (4, 5), (0, 6), (0, 6), (0, 6), (0, 24), (0, 15), (3, 17), (0, 10), (0, 9), (0, 9), (0, 9), (0, 9), (0, 5), (6, 5), (0, 9), (0, 9), (0, 9), (0, 36), (0, 54), (4, 5), (0, 6), (0, 6), (0, 6), (0, 24), (0, 15), (3, 17), (0, 10), (0, 9), (0, 9), (0, 9), (0, 9), (0, 5), (6, 5), (0, 9), (0, 9), (0, 9), (0, 36), (0, 54), (4, 5), (0, 6), (0, 6), (0, 6), (0, 24), (0, 15), (3, 17), (0, 10), (0, 9), (0, 9), (0, 9), (0, 9), (0, 5), (6, 5), (0, 9), (0, 9), (0, 9), (0, 36), (0, 54), (4, 5), (0, 6), (0, 6), (0, 6), (0, 24), (0, 15), (3, 17), (0, 10), (0, 9), (0, 9), (0, 9), (0, 9), (0, 5), (6, 5), (0, 9), (0, 9), (0, 9), (0, 36), (0, 54), (4, 5), (0, 6), (0, 6), (0, 6), (0, 24), (0, 15), (3, 17), (0, 10), (0, 9), (0, 9), (0, 9), (0, 9), (0, 5), (6, 5), (0, 9), (0, 9), (0, 9), (0, 36), (0, 54), (4, 5), (0, 6), (0, 6), (0, 6), (0, 24), (0, 15), (3, 17), (0, 10), (0, 9), (0, 9), (0, 9), (0, 9), (0, 5), (6, 5), (0, 9), (0, 9), (0, 9), (0, 36), (0, 54), (4, 5), (0, 6), (0, 6), (0, 6), (0, 24), (0, 15), (3, 17), (0, 10), (0, 9), (0, 9), (0, 9), (0, 9), (0, 5), (6, 5), (0, 9), (0, 9), (0, 9), (0, 36), (0, 54), (4, 5), (0, 6), (0, 6), (0, 6), (0, 24), (0, 15), (3, 17), (0, 10), (0, 9), (0, 9), (0, 9), (0, 9), (0, 5), (6, 5), (0, 9), (0, 9), (0, 9), (0, 36), (0, 54), (4, 5), (0, 6), (0, 6), (0, 6), (0, 24), (0, 15), (11, 8), (0, 9), (0, 6), (0, 6), (1, 10), (3, 17), (0, 10), (0, 9), (0, 9), (0, 9), (0, 9), (0, 5), (6, 5), (0, 9), (0, 9), (0, 9), (0, 36), (0, 54), (4, 5), (0, 6), (0, 6), (0, 6), (0, 24), (0, 15), (3, 17), (0, 10), (0, 9), (0, 9), (0, 9), (0, 9), (0, 5), (6, 5), (0, 9), (0, 9), (0, 9), (0, 36), (0, 54), (4, 5), (0, 6), (0, 6), (0, 6), (0, 24), (0, 15), (3, 17), (0, 10), (0, 9), (0, 9), (0, 9), (0, 9), (0, 5), (6, 5), (0, 9), (0, 9), (0, 9), (0, 36), (0, 54), (4, 5), (0, 6), (0, 6), (0, 6), (0, 24), (0, 15), (3, 17), (0, 10), (0, 9), (0, 9), (0, 9), (0, 9), (0, 5), (6, 5), (0, 9), (0, 9), (0, 9), (0, 36), (0, 54), (4, 5), (0, 6), (0, 6), (0, 6), (0, 24), (0, 15), (3, 17), (0, 10), (0, 9), (0, 9), (0, 9), (0, 9), (0, 5), (6, 5), (0, 9), (0, 9), (0, 9), (0, 36), (0, 54), (4, 5), (0, 6), (0, 6), (0, 6), (0, 24), (0, 15), (3, 17), (0, 10), (0, 9), (0, 9), (0, 9), (0, 9), (0, 5), (6, 5), (0, 9), (0, 9), (0, 9), (0, 36), (0, 54), (4, 5), (0, 6), (0, 6), (0, 6), (0, 24), (0, 15), (3, 17), (0, 10), (0, 9), (0, 9), (0, 9), (0, 9), (0, 5), (6, 5), (0, 9), (0, 9), (0, 9), (0, 36), (0, 54), (4, 5), (0, 6), (0, 6), (0, 6), (0, 24), (0, 15), (3, 17), (0, 10), (0, 9), (0, 9), (0, 9), (0, 9), (0, 5), (6, 5), (0, 9), (0, 9), (0, 9), (0, 36), (0, 54), (4, 5), (0, 6), (0, 6), (0, 6), (0, 24), (0, 15), (3, 17), (0, 10), (0, 9), (0, 9), (0, 9), (0, 9), (0, 5), (6, 5), (0, 9), (0, 9), (0, 9), (0, 36), (0, 54), (4, 5), (0, 6), (0, 6), (0, 6), (0, 24), (0, 15), (3, 17), (0, 10), (0, 9), (0, 9), (0, 9), (0, 9), (0, 5), (6, 5), (0, 9), (0, 9), (0, 9), (0, 36), (0, 54), (4, 5), (0, 6), (0, 6), (0, 6), (0, 24), (0, 15), (10, 9), (0, 400), (0, 401), (0, 401), (0, 401), (14, 66), (0, 125), (0, 1250), (0, 125), (0, 9), (0, 9), (0, 9), (0, 9), (0, 36), (0, 6), (0, 6), (0, 5), (0, 12), (0, 12), (0, 12), (0, 10), (0, 10), (0, 750), (0, 400), (0, 159), (0, 2), (0, 48), (0, 48), (0, 48), (0, 48), (0, 1200), (0, 1200), (0, 40), (0, 300), (0, 16), (0, 420), (0, 9), (0, 9), (0, 9), (0, 6), (0, 6), (0, 3200)]
def xS (n : Nat) : List (Nat × Nat) := (20, n) :: xS0
theorem xS_0 {n : Nat} : (xS n)[0]? = some (20, n) := rfl
set_option maxRecDepth 100000 in
theorem xS_1 {n : Nat} : (xS n)[1]? = some (21, 2) := rfl
set_option maxRecDepth 100000 in
theorem xS_2 {n : Nat} : (xS n)[2]? = some (21, 2) := rfl
set_option maxRecDepth 100000 in
theorem xS_3 {n : Nat} : (xS n)[3]? = some (22, 158) := rfl
set_option maxRecDepth 100000 in
theorem xS_4 {n : Nat} : (xS n)[4]? = some (22, 10) := rfl
set_option maxRecDepth 100000 in
theorem xS_5 {n : Nat} : (xS n)[5]? = some (13, 6) := rfl
set_option maxRecDepth 100000 in
theorem xS_6 {n : Nat} : (xS n)[6]? = some (12, 6) := rfl
set_option maxRecDepth 100000 in
theorem xS_7 {n : Nat} : (xS n)[7]? = some (7, 7) := rfl
set_option maxRecDepth 100000 in
theorem xS_8 {n : Nat} : (xS n)[8]? = some (0, 400) := rfl
set_option maxRecDepth 100000 in
theorem xS_9 {n : Nat} : (xS n)[9]? = some (0, 400) := rfl
set_option maxRecDepth 100000 in
theorem xS_10 {n : Nat} : (xS n)[10]? = some (0, 64) := rfl
set_option maxRecDepth 100000 in
theorem xS_11 {n : Nat} : (xS n)[11]? = some (7, 7) := rfl
set_option maxRecDepth 100000 in
theorem xS_12 {n : Nat} : (xS n)[12]? = some (0, 400) := rfl
set_option maxRecDepth 100000 in
theorem xS_13 {n : Nat} : (xS n)[13]? = some (0, 400) := rfl
set_option maxRecDepth 100000 in
theorem xS_14 {n : Nat} : (xS n)[14]? = some (0, 64) := rfl
set_option maxRecDepth 100000 in
theorem xS_15 {n : Nat} : (xS n)[15]? = some (9, 6) := rfl
set_option maxRecDepth 100000 in
theorem xS_16 {n : Nat} : (xS n)[16]? = some (0, 150) := rfl
set_option maxRecDepth 100000 in
theorem xS_17 {n : Nat} : (xS n)[17]? = some (0, 150) := rfl
set_option maxRecDepth 100000 in
theorem xS_18 {n : Nat} : (xS n)[18]? = some (5, 7) := rfl
set_option maxRecDepth 100000 in
theorem xS_19 {n : Nat} : (xS n)[19]? = some (0, 12) := rfl
set_option maxRecDepth 100000 in
theorem xS_20 {n : Nat} : (xS n)[20]? = some (0, 12) := rfl
set_option maxRecDepth 100000 in
theorem xS_21 {n : Nat} : (xS n)[21]? = some (0, 12) := rfl
set_option maxRecDepth 100000 in
theorem xS_22 {n : Nat} : (xS n)[22]? = some (0, 10) := rfl
set_option maxRecDepth 100000 in
theorem xS_23 {n : Nat} : (xS n)[23]? = some (0, 10) := rfl
set_option maxRecDepth 100000 in
theorem xS_24 {n : Nat} : (xS n)[24]? = some (0, 9) := rfl
set_option maxRecDepth 100000 in
theorem xS_25 {n : Nat} : (xS n)[25]? = some (2, 2) := rfl
set_option maxRecDepth 100000 in
theorem xS_26 {n : Nat} : (xS n)[26]? = some (0, 750) := rfl
set_option maxRecDepth 100000 in
theorem xS_27 {n : Nat} : (xS n)[27]? = some (3, 17) := rfl
set_option maxRecDepth 100000 in
theorem xS_28 {n : Nat} : (xS n)[28]? = some (0, 10) := rfl
set_option maxRecDepth 100000 in
theorem xS_29 {n : Nat} : (xS n)[29]? = some (0, 9) := rfl
set_option maxRecDepth 100000 in
theorem xS_30 {n : Nat} : (xS n)[30]? = some (0, 9) := rfl
set_option maxRecDepth 100000 in
theorem xS_31 {n : Nat} : (xS n)[31]? = some (0, 9) := rfl
set_option maxRecDepth 100000 in
theorem xS_32 {n : Nat} : (xS n)[32]? = some (0, 9) := rfl
set_option maxRecDepth 100000 in
theorem xS_33 {n : Nat} : (xS n)[33]? = some (0, 5) := rfl
set_option maxRecDepth 100000 in
theorem xS_34 {n : Nat} : (xS n)[34]? = some (6, 5) := rfl
set_option maxRecDepth 100000 in
theorem xS_35 {n : Nat} : (xS n)[35]? = some (0, 9) := rfl
set_option maxRecDepth 100000 in
theorem xS_36 {n : Nat} : (xS n)[36]? = some (0, 9) := rfl
set_option maxRecDepth 100000 in
theorem xS_37 {n : Nat} : (xS n)[37]? = some (0, 9) := rfl
set_option maxRecDepth 100000 in
theorem xS_38 {n : Nat} : (xS n)[38]? = some (0, 36) := rfl
set_option maxRecDepth 100000 in
theorem xS_39 {n : Nat} : (xS n)[39]? = some (0, 54) := rfl
set_option maxRecDepth 100000 in
theorem xS_40 {n : Nat} : (xS n)[40]? = some (4, 5) := rfl
set_option maxRecDepth 100000 in
theorem xS_41 {n : Nat} : (xS n)[41]? = some (0, 6) := rfl
set_option maxRecDepth 100000 in
theorem xS_42 {n : Nat} : (xS n)[42]? = some (0, 6) := rfl
set_option maxRecDepth 100000 in
theorem xS_43 {n : Nat} : (xS n)[43]? = some (0, 6) := rfl
set_option maxRecDepth 100000 in
theorem xS_44 {n : Nat} : (xS n)[44]? = some (0, 24) := rfl
set_option maxRecDepth 100000 in
theorem xS_45 {n : Nat} : (xS n)[45]? = some (0, 15) := rfl
set_option maxRecDepth 100000 in
theorem xS_46 {n : Nat} : (xS n)[46]? = some (12, 6) := rfl
set_option maxRecDepth 100000 in
theorem xS_47 {n : Nat} : (xS n)[47]? = some (7, 7) := rfl
set_option maxRecDepth 100000 in
theorem xS_48 {n : Nat} : (xS n)[48]? = some (0, 400) := rfl
set_option maxRecDepth 100000 in
theorem xS_49 {n : Nat} : (xS n)[49]? = some (0, 400) := rfl
set_option maxRecDepth 100000 in
theorem xS_50 {n : Nat} : (xS n)[50]? = some (0, 64) := rfl
set_option maxRecDepth 100000 in
theorem xS_51 {n : Nat} : (xS n)[51]? = some (7, 7) := rfl
set_option maxRecDepth 100000 in
theorem xS_52 {n : Nat} : (xS n)[52]? = some (0, 400) := rfl
set_option maxRecDepth 100000 in
theorem xS_53 {n : Nat} : (xS n)[53]? = some (0, 400) := rfl
set_option maxRecDepth 100000 in
theorem xS_54 {n : Nat} : (xS n)[54]? = some (0, 64) := rfl
set_option maxRecDepth 100000 in
theorem xS_55 {n : Nat} : (xS n)[55]? = some (9, 6) := rfl
set_option maxRecDepth 100000 in
theorem xS_56 {n : Nat} : (xS n)[56]? = some (0, 150) := rfl
set_option maxRecDepth 100000 in
theorem xS_57 {n : Nat} : (xS n)[57]? = some (0, 150) := rfl
set_option maxRecDepth 100000 in
theorem xS_58 {n : Nat} : (xS n)[58]? = some (5, 7) := rfl
set_option maxRecDepth 100000 in
theorem xS_59 {n : Nat} : (xS n)[59]? = some (0, 12) := rfl
set_option maxRecDepth 100000 in
theorem xS_60 {n : Nat} : (xS n)[60]? = some (0, 12) := rfl
set_option maxRecDepth 100000 in
theorem xS_61 {n : Nat} : (xS n)[61]? = some (0, 12) := rfl
set_option maxRecDepth 100000 in
theorem xS_62 {n : Nat} : (xS n)[62]? = some (0, 10) := rfl
set_option maxRecDepth 100000 in
theorem xS_63 {n : Nat} : (xS n)[63]? = some (0, 10) := rfl
set_option maxRecDepth 100000 in
theorem xS_64 {n : Nat} : (xS n)[64]? = some (0, 9) := rfl
set_option maxRecDepth 100000 in
theorem xS_65 {n : Nat} : (xS n)[65]? = some (2, 2) := rfl
set_option maxRecDepth 100000 in
theorem xS_66 {n : Nat} : (xS n)[66]? = some (0, 750) := rfl
set_option maxRecDepth 100000 in
theorem xS_86 {n : Nat} : (xS n)[86]? = some (8, 5) := rfl
set_option maxRecDepth 100000 in
theorem xS_87 {n : Nat} : (xS n)[87]? = some (1, 10) := rfl
set_option maxRecDepth 100000 in
theorem xS_88 {n : Nat} : (xS n)[88]? = some (0, 10) := rfl
set_option maxRecDepth 100000 in
theorem xS_279 {n : Nat} : (xS n)[279]? = some (11, 8) := rfl
set_option maxRecDepth 100000 in
theorem xS_280 {n : Nat} : (xS n)[280]? = some (0, 9) := rfl
set_option maxRecDepth 100000 in
theorem xS_281 {n : Nat} : (xS n)[281]? = some (0, 6) := rfl
set_option maxRecDepth 100000 in
theorem xS_282 {n : Nat} : (xS n)[282]? = some (0, 6) := rfl
set_option maxRecDepth 100000 in
theorem xS_283 {n : Nat} : (xS n)[283]? = some (1, 10) := rfl
set_option maxRecDepth 100000 in
theorem xS_474 {n : Nat} : (xS n)[474]? = some (10, 9) := rfl
set_option maxRecDepth 100000 in
theorem xS_475 {n : Nat} : (xS n)[475]? = some (0, 400) := rfl
set_option maxRecDepth 100000 in
theorem xS_476 {n : Nat} : (xS n)[476]? = some (0, 401) := rfl
set_option maxRecDepth 100000 in
theorem xS_477 {n : Nat} : (xS n)[477]? = some (0, 401) := rfl
set_option maxRecDepth 100000 in
theorem xS_478 {n : Nat} : (xS n)[478]? = some (0, 401) := rfl
set_option maxRecDepth 100000 in
theorem xS_479 {n : Nat} : (xS n)[479]? = some (14, 66) := rfl
set_option maxRecDepth 100000 in
theorem xS_480 {n : Nat} : (xS n)[480]? = some (0, 125) := rfl
set_option maxRecDepth 100000 in
theorem xS_481 {n : Nat} : (xS n)[481]? = some (0, 1250) := rfl
set_option maxRecDepth 100000 in
theorem xS_482 {n : Nat} : (xS n)[482]? = some (0, 125) := rfl
set_option maxRecDepth 100000 in
theorem xS_483 {n : Nat} : (xS n)[483]? = some (0, 9) := rfl
set_option maxRecDepth 100000 in
theorem xS_484 {n : Nat} : (xS n)[484]? = some (0, 9) := rfl
set_option maxRecDepth 100000 in
theorem xS_485 {n : Nat} : (xS n)[485]? = some (0, 9) := rfl
set_option maxRecDepth 100000 in
theorem xS_486 {n : Nat} : (xS n)[486]? = some (0, 9) := rfl
set_option maxRecDepth 100000 in
theorem xS_487 {n : Nat} : (xS n)[487]? = some (0, 36) := rfl
set_option maxRecDepth 100000 in
theorem xS_488 {n : Nat} : (xS n)[488]? = some (0, 6) := rfl
set_option maxRecDepth 100000 in
theorem xS_489 {n : Nat} : (xS n)[489]? = some (0, 6) := rfl
set_option maxRecDepth 100000 in
theorem xS_490 {n : Nat} : (xS n)[490]? = some (0, 5) := rfl
set_option maxRecDepth 100000 in
theorem xS_491 {n : Nat} : (xS n)[491]? = some (0, 12) := rfl
set_option maxRecDepth 100000 in
theorem xS_492 {n : Nat} : (xS n)[492]? = some (0, 12) := rfl
set_option maxRecDepth 100000 in
theorem xS_493 {n : Nat} : (xS n)[493]? = some (0, 12) := rfl
set_option maxRecDepth 100000 in
theorem xS_494 {n : Nat} : (xS n)[494]? = some (0, 10) := rfl
set_option maxRecDepth 100000 in
theorem xS_495 {n : Nat} : (xS n)[495]? = some (0, 10) := rfl
set_option maxRecDepth 100000 in
theorem xS_496 {n : Nat} : (xS n)[496]? = some (0, 750) := rfl
set_option maxRecDepth 100000 in
theorem xS_497 {n : Nat} : (xS n)[497]? = some (0, 400) := rfl
set_option maxRecDepth 100000 in
theorem xS_498 {n : Nat} : (xS n)[498]? = some (0, 159) := rfl
set_option maxRecDepth 100000 in
theorem xS_499 {n : Nat} : (xS n)[499]? = some (0, 2) := rfl
set_option maxRecDepth 100000 in
theorem xS_500 {n : Nat} : (xS n)[500]? = some (0, 48) := rfl
set_option maxRecDepth 100000 in
theorem xS_501 {n : Nat} : (xS n)[501]? = some (0, 48) := rfl
set_option maxRecDepth 100000 in
theorem xS_502 {n : Nat} : (xS n)[502]? = some (0, 48) := rfl
set_option maxRecDepth 100000 in
theorem xS_503 {n : Nat} : (xS n)[503]? = some (0, 48) := rfl
set_option maxRecDepth 100000 in
theorem xS_504 {n : Nat} : (xS n)[504]? = some (0, 1200) := rfl
set_option maxRecDepth 100000 in
theorem xS_505 {n : Nat} : (xS n)[505]? = some (0, 1200) := rfl
set_option maxRecDepth 100000 in
theorem xS_506 {n : Nat} : (xS n)[506]? = some (0, 40) := rfl
set_option maxRecDepth 100000 in
theorem xS_507 {n : Nat} : (xS n)[507]? = some (0, 300) := rfl
set_option maxRecDepth 100000 in
theorem xS_508 {n : Nat} : (xS n)[508]? = some (0, 16) := rfl
set_option maxRecDepth 100000 in
theorem xS_509 {n : Nat} : (xS n)[509]? = some (0, 420) := rfl
set_option maxRecDepth 100000 in
theorem xS_510 {n : Nat} : (xS n)[510]? = some (0, 9) := rfl
set_option maxRecDepth 100000 in
theorem xS_511 {n : Nat} : (xS n)[511]? = some (0, 9) := rfl
set_option maxRecDepth 100000 in
theorem xS_512 {n : Nat} : (xS n)[512]? = some (0, 9) := rfl
set_option maxRecDepth 100000 in
theorem xS_513 {n : Nat} : (xS n)[513]? = some (0, 6) := rfl
set_option maxRecDepth 100000 in
theorem xS_514 {n : Nat} : (xS n)[514]? = some (0, 6) := rfl
set_option maxRecDepth 100000 in
theorem xS_515 {n : Nat} : (xS n)[515]? = some (0, 3200) := rfl
def isC (c : Nat) : Prop := c ∈ [27, 67, 89, 108, 127, 146, 165, 184, 203, 222, 241, 260, 284, 303, 322, 341, 360, 379, 398, 417, 436, 455]
def isT (c : Nat) : Prop := c ∈ [89, 108, 127, 146, 165, 184, 203, 222, 241, 260, 284, 303, 322, 341, 360, 379, 398, 417, 436, 455]
theorem isT_C {c : Nat} (h : isT c) : isC c := by
  unfold isT at h; unfold isC
  simp only [List.mem_cons, List.not_mem_nil, or_false] at h ⊢
  omega
theorem isC_27 : isC 27 := by unfold isC; decide
theorem isC_67 : isC 67 := by unfold isC; decide
theorem isC_ge {c : Nat} (h : isC c) : c = 27 ∨ c = 67 ∨ (89 ≤ c ∧ c + 19 ≤ 279) ∨ (284 ≤ c ∧ c + 19 ≤ 474) := by
  unfold isC at h
  simp only [List.mem_cons, List.not_mem_nil, or_false] at h
  omega
theorem isT_ge {c : Nat} (h : isT c) : (89 ≤ c ∧ c + 19 ≤ 279) ∨ (284 ≤ c ∧ c + 19 ≤ 474) := by
  unfold isT at h
  simp only [List.mem_cons, List.not_mem_nil, or_false] at h
  omega
set_option maxRecDepth 100000 in
theorem xSc_0 {n c : Nat} (h : isC c) : (xS n)[c]? = some (3, 17) := by
  unfold isC at h
  simp only [List.mem_cons, List.not_mem_nil, or_false] at h
  rcases h with rfl | rfl | rfl | rfl | rfl | rfl | rfl | rfl | rfl | rfl | rfl | rfl | rfl | rfl | rfl | rfl | rfl | rfl | rfl | rfl | rfl | rfl <;> rfl
set_option maxRecDepth 100000 in
theorem xSc_1 {n c : Nat} (h : isC c) : (xS n)[c + 1]? = some (0, 10) := by
  unfold isC at h
  simp only [List.mem_cons, List.not_mem_nil, or_false] at h
  rcases h with rfl | rfl | rfl | rfl | rfl | rfl | rfl | rfl | rfl | rfl | rfl | rfl | rfl | rfl | rfl | rfl | rfl | rfl | rfl | rfl | rfl | rfl <;> rfl
set_option maxRecDepth 100000 in
theorem xSc_2 {n c : Nat} (h : isC c) : (xS n)[c + 2]? = some (0, 9) := by
  unfold isC at h
  simp only [List.mem_cons, List.not_mem_nil, or_false] at h
  rcases h with rfl | rfl | rfl | rfl | rfl | rfl | rfl | rfl | rfl | rfl | rfl | rfl | rfl | rfl | rfl | rfl | rfl | rfl | rfl | rfl | rfl | rfl <;> rfl
set_option maxRecDepth 100000 in
theorem xSc_3 {n c : Nat} (h : isC c) : (xS n)[c + 3]? = some (0, 9) := by
  unfold isC at h
  simp only [List.mem_cons, List.not_mem_nil, or_false] at h
  rcases h with rfl | rfl | rfl | rfl | rfl | rfl | rfl | rfl | rfl | rfl | rfl | rfl | rfl | rfl | rfl | rfl | rfl | rfl | rfl | rfl | rfl | rfl <;> rfl
set_option maxRecDepth 100000 in
theorem xSc_4 {n c : Nat} (h : isC c) : (xS n)[c + 4]? = some (0, 9) := by
  unfold isC at h
  simp only [List.mem_cons, List.not_mem_nil, or_false] at h
  rcases h with rfl | rfl | rfl | rfl | rfl | rfl | rfl | rfl | rfl | rfl | rfl | rfl | rfl | rfl | rfl | rfl | rfl | rfl | rfl | rfl | rfl | rfl <;> rfl
set_option maxRecDepth 100000 in
theorem xSc_5 {n c : Nat} (h : isC c) : (xS n)[c + 5]? = some (0, 9) := by
  unfold isC at h
  simp only [List.mem_cons, List.not_mem_nil, or_false] at h
  rcases h with rfl | rfl | rfl | rfl | rfl | rfl | rfl | rfl | rfl | rfl | rfl | rfl | rfl | rfl | rfl | rfl | rfl | rfl | rfl | rfl | rfl | rfl <;> rfl
set_option maxRecDepth 100000 in
theorem xSc_6 {n c : Nat} (h : isC c) : (xS n)[c + 6]? = some (0, 5) := by
  unfold isC at h
  simp only [List.mem_cons, List.not_mem_nil, or_false] at h
  rcases h with rfl | rfl | rfl | rfl | rfl | rfl | rfl | rfl | rfl | rfl | rfl | rfl | rfl | rfl | rfl | rfl | rfl | rfl | rfl | rfl | rfl | rfl <;> rfl
set_option maxRecDepth 100000 in
theorem xSc_7 {n c : Nat} (h : isC c) : (xS n)[c + 7]? = some (6, 5) := by
  unfold isC at h
  simp only [List.mem_cons, List.not_mem_nil, or_false] at h
  rcases h with rfl | rfl | rfl | rfl | rfl | rfl | rfl | rfl | rfl | rfl | rfl | rfl | rfl | rfl | rfl | rfl | rfl | rfl | rfl | rfl | rfl | rfl <;> rfl
set_option maxRecDepth 100000 in
theorem xSc_8 {n c : Nat} (h : isC c) : (xS n)[c + 8]? = some (0, 9) := by
  unfold isC at h
  simp only [List.mem_cons, List.not_mem_nil, or_false] at h
  rcases h with rfl | rfl | rfl | rfl | rfl | rfl | rfl | rfl | rfl | rfl | rfl | rfl | rfl | rfl | rfl | rfl | rfl | rfl | rfl | rfl | rfl | rfl <;> rfl
set_option maxRecDepth 100000 in
theorem xSc_9 {n c : Nat} (h : isC c) : (xS n)[c + 9]? = some (0, 9) := by
  unfold isC at h
  simp only [List.mem_cons, List.not_mem_nil, or_false] at h
  rcases h with rfl | rfl | rfl | rfl | rfl | rfl | rfl | rfl | rfl | rfl | rfl | rfl | rfl | rfl | rfl | rfl | rfl | rfl | rfl | rfl | rfl | rfl <;> rfl
set_option maxRecDepth 100000 in
theorem xSc_10 {n c : Nat} (h : isC c) : (xS n)[c + 10]? = some (0, 9) := by
  unfold isC at h
  simp only [List.mem_cons, List.not_mem_nil, or_false] at h
  rcases h with rfl | rfl | rfl | rfl | rfl | rfl | rfl | rfl | rfl | rfl | rfl | rfl | rfl | rfl | rfl | rfl | rfl | rfl | rfl | rfl | rfl | rfl <;> rfl
set_option maxRecDepth 100000 in
theorem xSc_11 {n c : Nat} (h : isC c) : (xS n)[c + 11]? = some (0, 36) := by
  unfold isC at h
  simp only [List.mem_cons, List.not_mem_nil, or_false] at h
  rcases h with rfl | rfl | rfl | rfl | rfl | rfl | rfl | rfl | rfl | rfl | rfl | rfl | rfl | rfl | rfl | rfl | rfl | rfl | rfl | rfl | rfl | rfl <;> rfl
set_option maxRecDepth 100000 in
theorem xSc_12 {n c : Nat} (h : isC c) : (xS n)[c + 12]? = some (0, 54) := by
  unfold isC at h
  simp only [List.mem_cons, List.not_mem_nil, or_false] at h
  rcases h with rfl | rfl | rfl | rfl | rfl | rfl | rfl | rfl | rfl | rfl | rfl | rfl | rfl | rfl | rfl | rfl | rfl | rfl | rfl | rfl | rfl | rfl <;> rfl
set_option maxRecDepth 100000 in
theorem xSc_13 {n c : Nat} (h : isC c) : (xS n)[c + 13]? = some (4, 5) := by
  unfold isC at h
  simp only [List.mem_cons, List.not_mem_nil, or_false] at h
  rcases h with rfl | rfl | rfl | rfl | rfl | rfl | rfl | rfl | rfl | rfl | rfl | rfl | rfl | rfl | rfl | rfl | rfl | rfl | rfl | rfl | rfl | rfl <;> rfl
set_option maxRecDepth 100000 in
theorem xSc_14 {n c : Nat} (h : isC c) : (xS n)[c + 14]? = some (0, 6) := by
  unfold isC at h
  simp only [List.mem_cons, List.not_mem_nil, or_false] at h
  rcases h with rfl | rfl | rfl | rfl | rfl | rfl | rfl | rfl | rfl | rfl | rfl | rfl | rfl | rfl | rfl | rfl | rfl | rfl | rfl | rfl | rfl | rfl <;> rfl
set_option maxRecDepth 100000 in
theorem xSc_15 {n c : Nat} (h : isC c) : (xS n)[c + 15]? = some (0, 6) := by
  unfold isC at h
  simp only [List.mem_cons, List.not_mem_nil, or_false] at h
  rcases h with rfl | rfl | rfl | rfl | rfl | rfl | rfl | rfl | rfl | rfl | rfl | rfl | rfl | rfl | rfl | rfl | rfl | rfl | rfl | rfl | rfl | rfl <;> rfl
set_option maxRecDepth 100000 in
theorem xSc_16 {n c : Nat} (h : isC c) : (xS n)[c + 16]? = some (0, 6) := by
  unfold isC at h
  simp only [List.mem_cons, List.not_mem_nil, or_false] at h
  rcases h with rfl | rfl | rfl | rfl | rfl | rfl | rfl | rfl | rfl | rfl | rfl | rfl | rfl | rfl | rfl | rfl | rfl | rfl | rfl | rfl | rfl | rfl <;> rfl
set_option maxRecDepth 100000 in
theorem xSc_17 {n c : Nat} (h : isC c) : (xS n)[c + 17]? = some (0, 24) := by
  unfold isC at h
  simp only [List.mem_cons, List.not_mem_nil, or_false] at h
  rcases h with rfl | rfl | rfl | rfl | rfl | rfl | rfl | rfl | rfl | rfl | rfl | rfl | rfl | rfl | rfl | rfl | rfl | rfl | rfl | rfl | rfl | rfl <;> rfl
set_option maxRecDepth 100000 in
theorem xSc_18 {n c : Nat} (h : isC c) : (xS n)[c + 18]? = some (0, 15) := by
  unfold isC at h
  simp only [List.mem_cons, List.not_mem_nil, or_false] at h
  rcases h with rfl | rfl | rfl | rfl | rfl | rfl | rfl | rfl | rfl | rfl | rfl | rfl | rfl | rfl | rfl | rfl | rfl | rfl | rfl | rfl | rfl | rfl <;> rfl
def rT (a k : Nat) : Option Nat := (bif Nat.blt a 216 then (bif Nat.blt a 86 then (bif Nat.blt a 34 then (bif Nat.blt a 11 then (bif Nat.blt a 5 then (bif Nat.blt a 2 then (bif Nat.beq a 1 then (bif Nat.beq k 0 then some 3 else none) else none) else (bif Nat.beq a 2 then (bif Nat.beq k 0 then some 4 else none) else none)) else (bif Nat.blt a 6 then (bif Nat.beq a 5 then (bif Nat.blt k 2 then (bif Nat.blt k 1 then (bif Nat.beq k 0 then some 6 else none) else (bif Nat.beq k 1 then some 46 else none)) else (bif Nat.blt k 3 then (bif Nat.beq k 2 then some 86 else none) else (bif Nat.blt k 4 then (bif Nat.beq k 3 then some 279 else none) else (bif Nat.beq k 4 then some 474 else none)))) else none) else (bif Nat.blt a 7 then (bif Nat.beq a 6 then (bif Nat.blt k 3 then (bif Nat.blt k 1 then (bif Nat.beq k 0 then some 7 else none) else (bif Nat.blt k 2 then (bif Nat.beq k 1 then some 11 else none) else (bif Nat.beq k 2 then some 15 else none))) else (bif Nat.blt k 4 then (bif Nat.beq k 3 then some 18 else none) else (bif Nat.blt k 5 then (bif Nat.beq k 4 then some 25 else none) else (bif Nat.beq k 5 then some 27 else none)))) else none) else (bif Nat.beq a 7 then (bif Nat.blt k 5 then (bif Nat.beq k 3 then some 8 else none) else (bif Nat.blt k 6 then (bif Nat.beq k 5 then some 9 else none) else (bif Nat.beq k 6 then some 10 else none))) else none)))) else (bif Nat.blt a 18 then (bif Nat.blt a 15 then (bif Nat.beq a 11 then (bif Nat.blt k 5 then (bif Nat.beq k 3 then some 12 else none) else (bif Nat.blt k 6 then (bif Nat.beq k 5 then some 13 else none) else (bif Nat.beq k 6 then some 14 else none))) else none) else (bif Nat.beq a 15 then (bif Nat.blt k 5 then (bif Nat.beq k 4 then some 16 else none) else (bif Nat.beq k 5 then some 17 else none)) else none)) else (bif Nat.blt a 25 then (bif Nat.beq a 18 then (bif Nat.blt k 4 then (bif Nat.blt k 2 then (bif Nat.beq k 1 then some 19 else none) else (bif Nat.blt k 3 then (bif Nat.beq k 2 then some 20 else none) else (bif Nat.beq k 3 then some 21 else none))) else (bif Nat.blt k 5 then (bif Nat.beq k 4 then some 22 else none) else (bif Nat.blt k 6 then (bif Nat.beq k 5 then some 23 else none) else (bif Nat.beq k 6 then some 24 else none)))) else none) else (bif Nat.blt a 27 then (bif Nat.beq a 25 then (bif Nat.beq k 1 then some 26 else none) else none) else (bif Nat.beq a 27 then (bif Nat.blt k 10 then (bif Nat.blt k 7 then (bif Nat.blt k 5 then (bif Nat.beq k 4 then some 28 else none) else (bif Nat.blt k 6 then (bif Nat.beq k 5 then some 29 else none) else (bif Nat.beq k 6 then some 30 else none))) else (bif Nat.blt k 8 then (bif Nat.beq k 7 then some 31 else none) else (bif Nat.blt k 9 then (bif Nat.beq k 8 then some 32 else none) else (bif Nat.beq k 9 then some 33 else none)))) else (bif Nat.blt k 13 then (bif Nat.blt k 11 then (bif Nat.beq k 10 then some 34 else none) else (bif Nat.blt k 12 then (bif Nat.beq k 11 then some 40 else none) else (bif Nat.beq k 12 then some 45 else none))) else (bif Nat.blt k 15 then (bif Nat.blt k 14 then (bif Nat.beq k 13 then some 7 else none) else (bif Nat.beq k 14 then some 11 else none)) else (bif Nat.blt k 16 then (bif Nat.beq k 15 then some 25 else none) else (bif Nat.beq k 16 then some 86 else none))))) else none))))) else (bif Nat.blt a 55 then (bif Nat.blt a 46 then (bif Nat.blt a 40 then (bif Nat.beq a 34 then (bif Nat.blt k 2 then (bif Nat.blt k 1 then (bif Nat.beq k 0 then some 35 else none) else (bif Nat.beq k 1 then some 36 else none)) else (bif Nat.blt k 3 then (bif Nat.beq k 2 then some 37 else none) else (bif Nat.blt k 4 then (bif Nat.beq k 3 then some 38 else none) else (bif Nat.beq k 4 then some 39 else none)))) else none) else (bif Nat.beq a 40 then (bif Nat.blt k 3 then (bif Nat.blt k 2 then (bif Nat.beq k 1 then some 41 else none) else (bif Nat.beq k 2 then some 42 else none)) else (bif Nat.blt k 4 then (bif Nat.beq k 3 then some 43 else none) else (bif Nat.beq k 4 then some 44 else none))) else none)) else (bif Nat.blt a 47 then (bif Nat.beq a 46 then (bif Nat.blt k 3 then (bif Nat.blt k 1 then (bif Nat.beq k 0 then some 47 else none) else (bif Nat.blt k 2 then (bif Nat.beq k 1 then some 51 else none) else (bif Nat.beq k 2 then some 55 else none))) else (bif Nat.blt k 4 then (bif Nat.beq k 3 then some 58 else none) else (bif Nat.blt k 5 then (bif Nat.beq k 4 then some 65 else none) else (bif Nat.beq k 5 then some 67 else none)))) else none) else (bif Nat.blt a 51 then (bif Nat.beq a 47 then (bif Nat.blt k 5 then (bif Nat.beq k 3 then some 48 else none) else (bif Nat.blt k 6 then (bif Nat.beq k 5 then some 49 else none) else (bif Nat.beq k 6 then some 50 else none))) else none) else (bif Nat.beq a 51 then (bif Nat.blt k 5 then (bif Nat.beq k 3 then some 52 else none) else (bif Nat.blt k 6 then (bif Nat.beq k 5 then some 53 else none) else (bif Nat.beq k 6 then some 54 else none))) else none)))) else (bif Nat.blt a 67 then (bif Nat.blt a 58 then (bif Nat.beq a 55 then (bif Nat.blt k 5 then (bif Nat.beq k 4 then some 56 else none) else (bif Nat.beq k 5 then some 57 else none)) else none) else (bif Nat.blt a 65 then (bif Nat.beq a 58 then (bif Nat.blt k 4 then (bif Nat.blt k 2 then (bif Nat.beq k 1 then some 59 else none) else (bif Nat.blt k 3 then (bif Nat.beq k 2 then some 60 else none) else (bif Nat.beq k 3 then some 61 else none))) else (bif Nat.blt k 5 then (bif Nat.beq k 4 then some 62 else none) else (bif Nat.blt k 6 then (bif Nat.beq k 5 then some 63 else none) else (bif Nat.beq k 6 then some 64 else none)))) else none) else (bif Nat.beq a 65 then (bif Nat.beq k 1 then some 66 else none) else none))) else (bif Nat.blt a 74 then (bif Nat.beq a 67 then (bif Nat.blt k 9 then (bif Nat.blt k 6 then (bif Nat.blt k 5 then (bif Nat.beq k 4 then some 68 else none) else (bif Nat.beq k 5 then some 69 else none)) else (bif Nat.blt k 7 then (bif Nat.beq k 6 then some 70 else none) else (bif Nat.blt k 8 then (bif Nat.beq k 7 then some 71 else none) else (bif Nat.beq k 8 then some 72 else none)))) else (bif Nat.blt k 12 then (bif Nat.blt k 10 then (bif Nat.beq k 9 then some 73 else none) else (bif Nat.blt k 11 then (bif Nat.beq k 10 then some 74 else none) else (bif Nat.beq k 11 then some 80 else none))) else (bif Nat.blt k 13 then (bif Nat.beq k 12 then some 85 else none) else (bif Nat.blt k 14 then (bif Nat.beq k 13 then some 47 else none) else (bif Nat.beq k 14 then some 51 else none))))) else none) else (bif Nat.blt a 80 then (bif Nat.beq a 74 then (bif Nat.blt k 2 then (bif Nat.blt k 1 then (bif Nat.beq k 0 then some 75 else none) else (bif Nat.beq k 1 then some 76 else none)) else (bif Nat.blt k 3 then (bif Nat.beq k 2 then some 77 else none) else (bif Nat.blt k 4 then (bif Nat.beq k 3 then some 78 else none) else (bif Nat.beq k 4 then some 79 else none)))) else none) else (bif Nat.beq a 80 then (bif Nat.blt k 3 then (bif Nat.blt k 2 then (bif Nat.beq k 1 then some 81 else none) else (bif Nat.beq k 2 then some 82 else none)) else (bif Nat.blt k 4 then (bif Nat.beq k 3 then some 83 else none) else (bif Nat.beq k 4 then some 84 else none))) else none)))))) else (bif Nat.blt a 146 then (bif Nat.blt a 108 then (bif Nat.blt a 89 then (bif Nat.blt a 87 then (bif Nat.beq a 86 then (bif Nat.blt k 3 then (bif Nat.beq k 2 then some 87 else none) else (bif Nat.blt k 4 then (bif Nat.beq k 3 then some 88 else none) else (bif Nat.beq k 4 then some 25 else none))) else none) else (bif Nat.beq a 87 then (bif Nat.blt k 5 then (bif Nat.blt k 2 then (bif Nat.blt k 1 then (bif Nat.beq k 0 then some 89 else none) else (bif Nat.beq k 1 then some 108 else none)) else (bif Nat.blt k 3 then (bif Nat.beq k 2 then some 127 else none) else (bif Nat.blt k 4 then (bif Nat.beq k 3 then some 146 else none) else (bif Nat.beq k 4 then some 165 else none)))) else (bif Nat.blt k 7 then (bif Nat.blt k 6 then (bif Nat.beq k 5 then some 184 else none) else (bif Nat.beq k 6 then some 203 else none)) else (bif Nat.blt k 8 then (bif Nat.beq k 7 then some 222 else none) else (bif Nat.blt k 9 then (bif Nat.beq k 8 then some 241 else none) else (bif Nat.beq k 9 then some 260 else none))))) else none)) else (bif Nat.blt a 96 then (bif Nat.beq a 89 then (bif Nat.blt k 9 then (bif Nat.blt k 6 then (bif Nat.blt k 5 then (bif Nat.beq k 4 then some 90 else none) else (bif Nat.beq k 5 then some 91 else none)) else (bif Nat.blt k 7 then (bif Nat.beq k 6 then some 92 else none) else (bif Nat.blt k 8 then (bif Nat.beq k 7 then some 93 else none) else (bif Nat.beq k 8 then some 94 else none)))) else (bif Nat.blt k 12 then (bif Nat.blt k 10 then (bif Nat.beq k 9 then some 95 else none) else (bif Nat.blt k 11 then (bif Nat.beq k 10 then some 96 else none) else (bif Nat.beq k 11 then some 102 else none))) else (bif Nat.blt k 13 then (bif Nat.beq k 12 then some 107 else none) else (bif Nat.blt k 14 then (bif Nat.beq k 13 then some 7 else none) else (bif Nat.beq k 14 then some 11 else none))))) else none) else (bif Nat.blt a 102 then (bif Nat.beq a 96 then (bif Nat.blt k 2 then (bif Nat.blt k 1 then (bif Nat.beq k 0 then some 97 else none) else (bif Nat.beq k 1 then some 98 else none)) else (bif Nat.blt k 3 then (bif Nat.beq k 2 then some 99 else none) else (bif Nat.blt k 4 then (bif Nat.beq k 3 then some 100 else none) else (bif Nat.beq k 4 then some 101 else none)))) else none) else (bif Nat.beq a 102 then (bif Nat.blt k 3 then (bif Nat.blt k 2 then (bif Nat.beq k 1 then some 103 else none) else (bif Nat.beq k 2 then some 104 else none)) else (bif Nat.blt k 4 then (bif Nat.beq k 3 then some 105 else none) else (bif Nat.beq k 4 then some 106 else none))) else none)))) else (bif Nat.blt a 127 then (bif Nat.blt a 115 then (bif Nat.beq a 108 then (bif Nat.blt k 9 then (bif Nat.blt k 6 then (bif Nat.blt k 5 then (bif Nat.beq k 4 then some 109 else none) else (bif Nat.beq k 5 then some 110 else none)) else (bif Nat.blt k 7 then (bif Nat.beq k 6 then some 111 else none) else (bif Nat.blt k 8 then (bif Nat.beq k 7 then some 112 else none) else (bif Nat.beq k 8 then some 113 else none)))) else (bif Nat.blt k 12 then (bif Nat.blt k 10 then (bif Nat.beq k 9 then some 114 else none) else (bif Nat.blt k 11 then (bif Nat.beq k 10 then some 115 else none) else (bif Nat.beq k 11 then some 121 else none))) else (bif Nat.blt k 13 then (bif Nat.beq k 12 then some 126 else none) else (bif Nat.blt k 14 then (bif Nat.beq k 13 then some 7 else none) else (bif Nat.beq k 14 then some 11 else none))))) else none) else (bif Nat.blt a 121 then (bif Nat.beq a 115 then (bif Nat.blt k 2 then (bif Nat.blt k 1 then (bif Nat.beq k 0 then some 116 else none) else (bif Nat.beq k 1 then some 117 else none)) else (bif Nat.blt k 3 then (bif Nat.beq k 2 then some 118 else none) else (bif Nat.blt k 4 then (bif Nat.beq k 3 then some 119 else none) else (bif Nat.beq k 4 then some 120 else none)))) else none) else (bif Nat.beq a 121 then (bif Nat.blt k 3 then (bif Nat.blt k 2 then (bif Nat.beq k 1 then some 122 else none) else (bif Nat.beq k 2 then some 123 else none)) else (bif Nat.blt k 4 then (bif Nat.beq k 3 then some 124 else none) else (bif Nat.beq k 4 then some 125 else none))) else none))) else (bif Nat.blt a 134 then (bif Nat.beq a 127 then (bif Nat.blt k 9 then (bif Nat.blt k 6 then (bif Nat.blt k 5 then (bif Nat.beq k 4 then some 128 else none) else (bif Nat.beq k 5 then some 129 else none)) else (bif Nat.blt k 7 then (bif Nat.beq k 6 then some 130 else none) else (bif Nat.blt k 8 then (bif Nat.beq k 7 then some 131 else none) else (bif Nat.beq k 8 then some 132 else none)))) else (bif Nat.blt k 12 then (bif Nat.blt k 10 then (bif Nat.beq k 9 then some 133 else none) else (bif Nat.blt k 11 then (bif Nat.beq k 10 then some 134 else none) else (bif Nat.beq k 11 then some 140 else none))) else (bif Nat.blt k 13 then (bif Nat.beq k 12 then some 145 else none) else (bif Nat.blt k 14 then (bif Nat.beq k 13 then some 7 else none) else (bif Nat.beq k 14 then some 11 else none))))) else none) else (bif Nat.blt a 140 then (bif Nat.beq a 134 then (bif Nat.blt k 2 then (bif Nat.blt k 1 then (bif Nat.beq k 0 then some 135 else none) else (bif Nat.beq k 1 then some 136 else none)) else (bif Nat.blt k 3 then (bif Nat.beq k 2 then some 137 else none) else (bif Nat.blt k 4 then (bif Nat.beq k 3 then some 138 else none) else (bif Nat.beq k 4 then some 139 else none)))) else none) else (bif Nat.beq a 140 then (bif Nat.blt k 3 then (bif Nat.blt k 2 then (bif Nat.beq k 1 then some 141 else none) else (bif Nat.beq k 2 then some 142 else none)) else (bif Nat.blt k 4 then (bif Nat.beq k 3 then some 143 else none) else (bif Nat.beq k 4 then some 144 else none))) else none))))) else (bif Nat.blt a 178 then (bif Nat.blt a 159 then (bif Nat.blt a 153 then (bif Nat.beq a 146 then (bif Nat.blt k 9 then (bif Nat.blt k 6 then (bif Nat.blt k 5 then (bif Nat.beq k 4 then some 147 else none) else (bif Nat.beq k 5 then some 148 else none)) else (bif Nat.blt k 7 then (bif Nat.beq k 6 then some 149 else none) else (bif Nat.blt k 8 then (bif Nat.beq k 7 then some 150 else none) else (bif Nat.beq k 8 then some 151 else none)))) else (bif Nat.blt k 12 then (bif Nat.blt k 10 then (bif Nat.beq k 9 then some 152 else none) else (bif Nat.blt k 11 then (bif Nat.beq k 10 then some 153 else none) else (bif Nat.beq k 11 then some 159 else none))) else (bif Nat.blt k 13 then (bif Nat.beq k 12 then some 164 else none) else (bif Nat.blt k 14 then (bif Nat.beq k 13 then some 7 else none) else (bif Nat.beq k 14 then some 11 else none))))) else none) else (bif Nat.beq a 153 then (bif Nat.blt k 2 then (bif Nat.blt k 1 then (bif Nat.beq k 0 then some 154 else none) else (bif Nat.beq k 1 then some 155 else none)) else (bif Nat.blt k 3 then (bif Nat.beq k 2 then some 156 else none) else (bif Nat.blt k 4 then (bif Nat.beq k 3 then some 157 else none) else (bif Nat.beq k 4 then some 158 else none)))) else none)) else (bif Nat.blt a 165 then (bif Nat.beq a 159 then (bif Nat.blt k 3 then (bif Nat.blt k 2 then (bif Nat.beq k 1 then some 160 else none) else (bif Nat.beq k 2 then some 161 else none)) else (bif Nat.blt k 4 then (bif Nat.beq k 3 then some 162 else none) else (bif Nat.beq k 4 then some 163 else none))) else none) else (bif Nat.blt a 172 then (bif Nat.beq a 165 then (bif Nat.blt k 9 then (bif Nat.blt k 6 then (bif Nat.blt k 5 then (bif Nat.beq k 4 then some 166 else none) else (bif Nat.beq k 5 then some 167 else none)) else (bif Nat.blt k 7 then (bif Nat.beq k 6 then some 168 else none) else (bif Nat.blt k 8 then (bif Nat.beq k 7 then some 169 else none) else (bif Nat.beq k 8 then some 170 else none)))) else (bif Nat.blt k 12 then (bif Nat.blt k 10 then (bif Nat.beq k 9 then some 171 else none) else (bif Nat.blt k 11 then (bif Nat.beq k 10 then some 172 else none) else (bif Nat.beq k 11 then some 178 else none))) else (bif Nat.blt k 13 then (bif Nat.beq k 12 then some 183 else none) else (bif Nat.blt k 14 then (bif Nat.beq k 13 then some 7 else none) else (bif Nat.beq k 14 then some 11 else none))))) else none) else (bif Nat.beq a 172 then (bif Nat.blt k 2 then (bif Nat.blt k 1 then (bif Nat.beq k 0 then some 173 else none) else (bif Nat.beq k 1 then some 174 else none)) else (bif Nat.blt k 3 then (bif Nat.beq k 2 then some 175 else none) else (bif Nat.blt k 4 then (bif Nat.beq k 3 then some 176 else none) else (bif Nat.beq k 4 then some 177 else none)))) else none)))) else (bif Nat.blt a 197 then (bif Nat.blt a 184 then (bif Nat.beq a 178 then (bif Nat.blt k 3 then (bif Nat.blt k 2 then (bif Nat.beq k 1 then some 179 else none) else (bif Nat.beq k 2 then some 180 else none)) else (bif Nat.blt k 4 then (bif Nat.beq k 3 then some 181 else none) else (bif Nat.beq k 4 then some 182 else none))) else none) else (bif Nat.blt a 191 then (bif Nat.beq a 184 then (bif Nat.blt k 9 then (bif Nat.blt k 6 then (bif Nat.blt k 5 then (bif Nat.beq k 4 then some 185 else none) else (bif Nat.beq k 5 then some 186 else none)) else (bif Nat.blt k 7 then (bif Nat.beq k 6 then some 187 else none) else (bif Nat.blt k 8 then (bif Nat.beq k 7 then some 188 else none) else (bif Nat.beq k 8 then some 189 else none)))) else (bif Nat.blt k 12 then (bif Nat.blt k 10 then (bif Nat.beq k 9 then some 190 else none) else (bif Nat.blt k 11 then (bif Nat.beq k 10 then some 191 else none) else (bif Nat.beq k 11 then some 197 else none))) else (bif Nat.blt k 13 then (bif Nat.beq k 12 then some 202 else none) else (bif Nat.blt k 14 then (bif Nat.beq k 13 then some 7 else none) else (bif Nat.beq k 14 then some 11 else none))))) else none) else (bif Nat.beq a 191 then (bif Nat.blt k 2 then (bif Nat.blt k 1 then (bif Nat.beq k 0 then some 192 else none) else (bif Nat.beq k 1 then some 193 else none)) else (bif Nat.blt k 3 then (bif Nat.beq k 2 then some 194 else none) else (bif Nat.blt k 4 then (bif Nat.beq k 3 then some 195 else none) else (bif Nat.beq k 4 then some 196 else none)))) else none))) else (bif Nat.blt a 203 then (bif Nat.beq a 197 then (bif Nat.blt k 3 then (bif Nat.blt k 2 then (bif Nat.beq k 1 then some 198 else none) else (bif Nat.beq k 2 then some 199 else none)) else (bif Nat.blt k 4 then (bif Nat.beq k 3 then some 200 else none) else (bif Nat.beq k 4 then some 201 else none))) else none) else (bif Nat.blt a 210 then (bif Nat.beq a 203 then (bif Nat.blt k 9 then (bif Nat.blt k 6 then (bif Nat.blt k 5 then (bif Nat.beq k 4 then some 204 else none) else (bif Nat.beq k 5 then some 205 else none)) else (bif Nat.blt k 7 then (bif Nat.beq k 6 then some 206 else none) else (bif Nat.blt k 8 then (bif Nat.beq k 7 then some 207 else none) else (bif Nat.beq k 8 then some 208 else none)))) else (bif Nat.blt k 12 then (bif Nat.blt k 10 then (bif Nat.beq k 9 then some 209 else none) else (bif Nat.blt k 11 then (bif Nat.beq k 10 then some 210 else none) else (bif Nat.beq k 11 then some 216 else none))) else (bif Nat.blt k 13 then (bif Nat.beq k 12 then some 221 else none) else (bif Nat.blt k 14 then (bif Nat.beq k 13 then some 7 else none) else (bif Nat.beq k 14 then some 11 else none))))) else none) else (bif Nat.beq a 210 then (bif Nat.blt k 2 then (bif Nat.blt k 1 then (bif Nat.beq k 0 then some 211 else none) else (bif Nat.beq k 1 then some 212 else none)) else (bif Nat.blt k 3 then (bif Nat.beq k 2 then some 213 else none) else (bif Nat.blt k 4 then (bif Nat.beq k 3 then some 214 else none) else (bif Nat.beq k 4 then some 215 else none)))) else none))))))) else (bif Nat.blt a 348 then (bif Nat.blt a 283 then (bif Nat.blt a 248 then (bif Nat.blt a 229 then (bif Nat.blt a 222 then (bif Nat.beq a 216 then (bif Nat.blt k 3 then (bif Nat.blt k 2 then (bif Nat.beq k 1 then some 217 else none) else (bif Nat.beq k 2 then some 218 else none)) else (bif Nat.blt k 4 then (bif Nat.beq k 3 then some 219 else none) else (bif Nat.beq k 4 then some 220 else none))) else none) else (bif Nat.beq a 222 then (bif Nat.blt k 9 then (bif Nat.blt k 6 then (bif Nat.blt k 5 then (bif Nat.beq k 4 then some 223 else none) else (bif Nat.beq k 5 then some 224 else none)) else (bif Nat.blt k 7 then (bif Nat.beq k 6 then some 225 else none) else (bif Nat.blt k 8 then (bif Nat.beq k 7 then some 226 else none) else (bif Nat.beq k 8 then some 227 else none)))) else (bif Nat.blt k 12 then (bif Nat.blt k 10 then (bif Nat.beq k 9 then some 228 else none) else (bif Nat.blt k 11 then (bif Nat.beq k 10 then some 229 else none) else (bif Nat.beq k 11 then some 235 else none))) else (bif Nat.blt k 13 then (bif Nat.beq k 12 then some 240 else none) else (bif Nat.blt k 14 then (bif Nat.beq k 13 then some 7 else none) else (bif Nat.beq k 14 then some 11 else none))))) else none)) else (bif Nat.blt a 235 then (bif Nat.beq a 229 then (bif Nat.blt k 2 then (bif Nat.blt k 1 then (bif Nat.beq k 0 then some 230 else none) else (bif Nat.beq k 1 then some 231 else none)) else (bif Nat.blt k 3 then (bif Nat.beq k 2 then some 232 else none) else (bif Nat.blt k 4 then (bif Nat.beq k 3 then some 233 else none) else (bif Nat.beq k 4 then some 234 else none)))) else none) else (bif Nat.blt a 241 then (bif Nat.beq a 235 then (bif Nat.blt k 3 then (bif Nat.blt k 2 then (bif Nat.beq k 1 then some 236 else none) else (bif Nat.beq k 2 then some 237 else none)) else (bif Nat.blt k 4 then (bif Nat.beq k 3 then some 238 else none) else (bif Nat.beq k 4 then some 239 else none))) else none) else (bif Nat.beq a 241 then (bif Nat.blt k 9 then (bif Nat.blt k 6 then (bif Nat.blt k 5 then (bif Nat.beq k 4 then some 242 else none) else (bif Nat.beq k 5 then some 243 else none)) else (bif Nat.blt k 7 then (bif Nat.beq k 6 then some 244 else none) else (bif Nat.blt k 8 then (bif Nat.beq k 7 then some 245 else none) else (bif Nat.beq k 8 then some 246 else none)))) else (bif Nat.blt k 12 then (bif Nat.blt k 10 then (bif Nat.beq k 9 then some 247 else none) else (bif Nat.blt k 11 then (bif Nat.beq k 10 then some 248 else none) else (bif Nat.beq k 11 then some 254 else none))) else (bif Nat.blt k 13 then (bif Nat.beq k 12 then some 259 else none) else (bif Nat.blt k 14 then (bif Nat.beq k 13 then some 7 else none) else (bif Nat.beq k 14 then some 11 else none))))) else none)))) else (bif Nat.blt a 267 then (bif Nat.blt a 254 then (bif Nat.beq a 248 then (bif Nat.blt k 2 then (bif Nat.blt k 1 then (bif Nat.beq k 0 then some 249 else none) else (bif Nat.beq k 1 then some 250 else none)) else (bif Nat.blt k 3 then (bif Nat.beq k 2 then some 251 else none) else (bif Nat.blt k 4 then (bif Nat.beq k 3 then some 252 else none) else (bif Nat.beq k 4 then some 253 else none)))) else none) else (bif Nat.blt a 260 then (bif Nat.beq a 254 then (bif Nat.blt k 3 then (bif Nat.blt k 2 then (bif Nat.beq k 1 then some 255 else none) else (bif Nat.beq k 2 then some 256 else none)) else (bif Nat.blt k 4 then (bif Nat.beq k 3 then some 257 else none) else (bif Nat.beq k 4 then some 258 else none))) else none) else (bif Nat.beq a 260 then (bif Nat.blt k 9 then (bif Nat.blt k 6 then (bif Nat.blt k 5 then (bif Nat.beq k 4 then some 261 else none) else (bif Nat.beq k 5 then some 262 else none)) else (bif Nat.blt k 7 then (bif Nat.beq k 6 then some 263 else none) else (bif Nat.blt k 8 then (bif Nat.beq k 7 then some 264 else none) else (bif Nat.beq k 8 then some 265 else none)))) else (bif Nat.blt k 12 then (bif Nat.blt k 10 then (bif Nat.beq k 9 then some 266 else none) else (bif Nat.blt k 11 then (bif Nat.beq k 10 then some 267 else none) else (bif Nat.beq k 11 then some 273 else none))) else (bif Nat.blt k 13 then (bif Nat.beq k 12 then some 278 else none) else (bif Nat.blt k 14 then (bif Nat.beq k 13 then some 7 else none) else (bif Nat.beq k 14 then some 11 else none))))) else none))) else (bif Nat.blt a 273 then (bif Nat.beq a 267 then (bif Nat.blt k 2 then (bif Nat.blt k 1 then (bif Nat.beq k 0 then some 268 else none) else (bif Nat.beq k 1 then some 269 else none)) else (bif Nat.blt k 3 then (bif Nat.beq k 2 then some 270 else none) else (bif Nat.blt k 4 then (bif Nat.beq k 3 then some 271 else none) else (bif Nat.beq k 4 then some 272 else none)))) else none) else (bif Nat.blt a 279 then (bif Nat.beq a 273 then (bif Nat.blt k 3 then (bif Nat.blt k 2 then (bif Nat.beq k 1 then some 274 else none) else (bif Nat.beq k 2 then some 275 else none)) else (bif Nat.blt k 4 then (bif Nat.beq k 3 then some 276 else none) else (bif Nat.beq k 4 then some 277 else none))) else none) else (bif Nat.beq a 279 then (bif Nat.blt k 6 then (bif Nat.blt k 5 then (bif Nat.beq k 4 then some 280 else none) else (bif Nat.beq k 5 then some 281 else none)) else (bif Nat.blt k 7 then (bif Nat.beq k 6 then some 282 else none) else (bif Nat.beq k 7 then some 283 else none))) else none))))) else (bif Nat.blt a 310 then (bif Nat.blt a 291 then (bif Nat.blt a 284 then (bif Nat.beq a 283 then (bif Nat.blt k 5 then (bif Nat.blt k 2 then (bif Nat.blt k 1 then (bif Nat.beq k 0 then some 284 else none) else (bif Nat.beq k 1 then some 303 else none)) else (bif Nat.blt k 3 then (bif Nat.beq k 2 then some 322 else none) else (bif Nat.blt k 4 then (bif Nat.beq k 3 then some 341 else none) else (bif Nat.beq k 4 then some 360 else none)))) else (bif Nat.blt k 7 then (bif Nat.blt k 6 then (bif Nat.beq k 5 then some 379 else none) else (bif Nat.beq k 6 then some 398 else none)) else (bif Nat.blt k 8 then (bif Nat.beq k 7 then some 417 else none) else (bif Nat.blt k 9 then (bif Nat.beq k 8 then some 436 else none) else (bif Nat.beq k 9 then some 455 else none))))) else none) else (bif Nat.beq a 284 then (bif Nat.blt k 9 then (bif Nat.blt k 6 then (bif Nat.blt k 5 then (bif Nat.beq k 4 then some 285 else none) else (bif Nat.beq k 5 then some 286 else none)) else (bif Nat.blt k 7 then (bif Nat.beq k 6 then some 287 else none) else (bif Nat.blt k 8 then (bif Nat.beq k 7 then some 288 else none) else (bif Nat.beq k 8 then some 289 else none)))) else (bif Nat.blt k 12 then (bif Nat.blt k 10 then (bif Nat.beq k 9 then some 290 else none) else (bif Nat.blt k 11 then (bif Nat.beq k 10 then some 291 else none) else (bif Nat.beq k 11 then some 297 else none))) else (bif Nat.blt k 13 then (bif Nat.beq k 12 then some 302 else none) else (bif Nat.blt k 14 then (bif Nat.beq k 13 then some 7 else none) else (bif Nat.beq k 14 then some 11 else none))))) else none)) else (bif Nat.blt a 297 then (bif Nat.beq a 291 then (bif Nat.blt k 2 then (bif Nat.blt k 1 then (bif Nat.beq k 0 then some 292 else none) else (bif Nat.beq k 1 then some 293 else none)) else (bif Nat.blt k 3 then (bif Nat.beq k 2 then some 294 else none) else (bif Nat.blt k 4 then (bif Nat.beq k 3 then some 295 else none) else (bif Nat.beq k 4 then some 296 else none)))) else none) else (bif Nat.blt a 303 then (bif Nat.beq a 297 then (bif Nat.blt k 3 then (bif Nat.blt k 2 then (bif Nat.beq k 1 then some 298 else none) else (bif Nat.beq k 2 then some 299 else none)) else (bif Nat.blt k 4 then (bif Nat.beq k 3 then some 300 else none) else (bif Nat.beq k 4 then some 301 else none))) else none) else (bif Nat.beq a 303 then (bif Nat.blt k 9 then (bif Nat.blt k 6 then (bif Nat.blt k 5 then (bif Nat.beq k 4 then some 304 else none) else (bif Nat.beq k 5 then some 305 else none)) else (bif Nat.blt k 7 then (bif Nat.beq k 6 then some 306 else none) else (bif Nat.blt k 8 then (bif Nat.beq k 7 then some 307 else none) else (bif Nat.beq k 8 then some 308 else none)))) else (bif Nat.blt k 12 then (bif Nat.blt k 10 then (bif Nat.beq k 9 then some 309 else none) else (bif Nat.blt k 11 then (bif Nat.beq k 10 then some 310 else none) else (bif Nat.beq k 11 then some 316 else none))) else (bif Nat.blt k 13 then (bif Nat.beq k 12 then some 321 else none) else (bif Nat.blt k 14 then (bif Nat.beq k 13 then some 7 else none) else (bif Nat.beq k 14 then some 11 else none))))) else none)))) else (bif Nat.blt a 329 then (bif Nat.blt a 316 then (bif Nat.beq a 310 then (bif Nat.blt k 2 then (bif Nat.blt k 1 then (bif Nat.beq k 0 then some 311 else none) else (bif Nat.beq k 1 then some 312 else none)) else (bif Nat.blt k 3 then (bif Nat.beq k 2 then some 313 else none) else (bif Nat.blt k 4 then (bif Nat.beq k 3 then some 314 else none) else (bif Nat.beq k 4 then some 315 else none)))) else none) else (bif Nat.blt a 322 then (bif Nat.beq a 316 then (bif Nat.blt k 3 then (bif Nat.blt k 2 then (bif Nat.beq k 1 then some 317 else none) else (bif Nat.beq k 2 then some 318 else none)) else (bif Nat.blt k 4 then (bif Nat.beq k 3 then some 319 else none) else (bif Nat.beq k 4 then some 320 else none))) else none) else (bif Nat.beq a 322 then (bif Nat.blt k 9 then (bif Nat.blt k 6 then (bif Nat.blt k 5 then (bif Nat.beq k 4 then some 323 else none) else (bif Nat.beq k 5 then some 324 else none)) else (bif Nat.blt k 7 then (bif Nat.beq k 6 then some 325 else none) else (bif Nat.blt k 8 then (bif Nat.beq k 7 then some 326 else none) else (bif Nat.beq k 8 then some 327 else none)))) else (bif Nat.blt k 12 then (bif Nat.blt k 10 then (bif Nat.beq k 9 then some 328 else none) else (bif Nat.blt k 11 then (bif Nat.beq k 10 then some 329 else none) else (bif Nat.beq k 11 then some 335 else none))) else (bif Nat.blt k 13 then (bif Nat.beq k 12 then some 340 else none) else (bif Nat.blt k 14 then (bif Nat.beq k 13 then some 7 else none) else (bif Nat.beq k 14 then some 11 else none))))) else none))) else (bif Nat.blt a 335 then (bif Nat.beq a 329 then (bif Nat.blt k 2 then (bif Nat.blt k 1 then (bif Nat.beq k 0 then some 330 else none) else (bif Nat.beq k 1 then some 331 else none)) else (bif Nat.blt k 3 then (bif Nat.beq k 2 then some 332 else none) else (bif Nat.blt k 4 then (bif Nat.beq k 3 then some 333 else none) else (bif Nat.beq k 4 then some 334 else none)))) else none) else (bif Nat.blt a 341 then (bif Nat.beq a 335 then (bif Nat.blt k 3 then (bif Nat.blt k 2 then (bif Nat.beq k 1 then some 336 else none) else (bif Nat.beq k 2 then some 337 else none)) else (bif Nat.blt k 4 then (bif Nat.beq k 3 then some 338 else none) else (bif Nat.beq k 4 then some 339 else none))) else none) else (bif Nat.beq a 341 then (bif Nat.blt k 9 then (bif Nat.blt k 6 then (bif Nat.blt k 5 then (bif Nat.beq k 4 then some 342 else none) else (bif Nat.beq k 5 then some 343 else none)) else (bif Nat.blt k 7 then (bif Nat.beq k 6 then some 344 else none) else (bif Nat.blt k 8 then (bif Nat.beq k 7 then some 345 else none) else (bif Nat.beq k 8 then some 346 else none)))) else (bif Nat.blt k 12 then (bif Nat.blt k 10 then (bif Nat.beq k 9 then some 347 else none) else (bif Nat.blt k 11 then (bif Nat.beq k 10 then some 348 else none) else (bif Nat.beq k 11 then some 354 else none))) else (bif Nat.blt k 13 then (bif Nat.beq k 12 then some 359 else none) else (bif Nat.blt k 14 then (bif Nat.beq k 13 then some 7 else none) else (bif Nat.beq k 14 then some 11 else none))))) else none)))))) else (bif Nat.blt a 417 then (bif Nat.blt a 379 then (bif Nat.blt a 360 then (bif Nat.blt a 354 then (bif Nat.beq a 348 then (bif Nat.blt k 2 then (bif Nat.blt k 1 then (bif Nat.beq k 0 then some 349 else none) else (bif Nat.beq k 1 then some 350 else none)) else (bif Nat.blt k 3 then (bif Nat.beq k 2 then some 351 else none) else (bif Nat.blt k 4 then (bif Nat.beq k 3 then some 352 else none) else (bif Nat.beq k 4 then some 353 else none)))) else none) else (bif Nat.beq a 354 then (bif Nat.blt k 3 then (bif Nat.blt k 2 then (bif Nat.beq k 1 then some 355 else none) else (bif Nat.beq k 2 then some 356 else none)) else (bif Nat.blt k 4 then (bif Nat.beq k 3 then some 357 else none) else (bif Nat.beq k 4 then some 358 else none))) else none)) else (bif Nat.blt a 367 then (bif Nat.beq a 360 then (bif Nat.blt k 9 then (bif Nat.blt k 6 then (bif Nat.blt k 5 then (bif Nat.beq k 4 then some 361 else none) else (bif Nat.beq k 5 then some 362 else none)) else (bif Nat.blt k 7 then (bif Nat.beq k 6 then some 363 else none) else (bif Nat.blt k 8 then (bif Nat.beq k 7 then some 364 else none) else (bif Nat.beq k 8 then some 365 else none)))) else (bif Nat.blt k 12 then (bif Nat.blt k 10 then (bif Nat.beq k 9 then some 366 else none) else (bif Nat.blt k 11 then (bif Nat.beq k 10 then some 367 else none) else (bif Nat.beq k 11 then some 373 else none))) else (bif Nat.blt k 13 then (bif Nat.beq k 12 then some 378 else none) else (bif Nat.blt k 14 then (bif Nat.beq k 13 then some 7 else none) else (bif Nat.beq k 14 then some 11 else none))))) else none) else (bif Nat.blt a 373 then (bif Nat.beq a 367 then (bif Nat.blt k 2 then (bif Nat.blt k 1 then (bif Nat.beq k 0 then some 368 else none) else (bif Nat.beq k 1 then some 369 else none)) else (bif Nat.blt k 3 then (bif Nat.beq k 2 then some 370 else none) else (bif Nat.blt k 4 then (bif Nat.beq k 3 then some 371 else none) else (bif Nat.beq k 4 then some 372 else none)))) else none) else (bif Nat.beq a 373 then (bif Nat.blt k 3 then (bif Nat.blt k 2 then (bif Nat.beq k 1 then some 374 else none) else (bif Nat.beq k 2 then some 375 else none)) else (bif Nat.blt k 4 then (bif Nat.beq k 3 then some 376 else none) else (bif Nat.beq k 4 then some 377 else none))) else none)))) else (bif Nat.blt a 398 then (bif Nat.blt a 386 then (bif Nat.beq a 379 then (bif Nat.blt k 9 then (bif Nat.blt k 6 then (bif Nat.blt k 5 then (bif Nat.beq k 4 then some 380 else none) else (bif Nat.beq k 5 then some 381 else none)) else (bif Nat.blt k 7 then (bif Nat.beq k 6 then some 382 else none) else (bif Nat.blt k 8 then (bif Nat.beq k 7 then some 383 else none) else (bif Nat.beq k 8 then some 384 else none)))) else (bif Nat.blt k 12 then (bif Nat.blt k 10 then (bif Nat.beq k 9 then some 385 else none) else (bif Nat.blt k 11 then (bif Nat.beq k 10 then some 386 else none) else (bif Nat.beq k 11 then some 392 else none))) else (bif Nat.blt k 13 then (bif Nat.beq k 12 then some 397 else none) else (bif Nat.blt k 14 then (bif Nat.beq k 13 then some 7 else none) else (bif Nat.beq k 14 then some 11 else none))))) else none) else (bif Nat.blt a 392 then (bif Nat.beq a 386 then (bif Nat.blt k 2 then (bif Nat.blt k 1 then (bif Nat.beq k 0 then some 387 else none) else (bif Nat.beq k 1 then some 388 else none)) else (bif Nat.blt k 3 then (bif Nat.beq k 2 then some 389 else none) else (bif Nat.blt k 4 then (bif Nat.beq k 3 then some 390 else none) else (bif Nat.beq k 4 then some 391 else none)))) else none) else (bif Nat.beq a 392 then (bif Nat.blt k 3 then (bif Nat.blt k 2 then (bif Nat.beq k 1 then some 393 else none) else (bif Nat.beq k 2 then some 394 else none)) else (bif Nat.blt k 4 then (bif Nat.beq k 3 then some 395 else none) else (bif Nat.beq k 4 then some 396 else none))) else none))) else (bif Nat.blt a 405 then (bif Nat.beq a 398 then (bif Nat.blt k 9 then (bif Nat.blt k 6 then (bif Nat.blt k 5 then (bif Nat.beq k 4 then some 399 else none) else (bif Nat.beq k 5 then some 400 else none)) else (bif Nat.blt k 7 then (bif Nat.beq k 6 then some 401 else none) else (bif Nat.blt k 8 then (bif Nat.beq k 7 then some 402 else none) else (bif Nat.beq k 8 then some 403 else none)))) else (bif Nat.blt k 12 then (bif Nat.blt k 10 then (bif Nat.beq k 9 then some 404 else none) else (bif Nat.blt k 11 then (bif Nat.beq k 10 then some 405 else none) else (bif Nat.beq k 11 then some 411 else none))) else (bif Nat.blt k 13 then (bif Nat.beq k 12 then some 416 else none) else (bif Nat.blt k 14 then (bif Nat.beq k 13 then some 7 else none) else (bif Nat.beq k 14 then some 11 else none))))) else none) else (bif Nat.blt a 411 then (bif Nat.beq a 405 then (bif Nat.blt k 2 then (bif Nat.blt k 1 then (bif Nat.beq k 0 then some 406 else none) else (bif Nat.beq k 1 then some 407 else none)) else (bif Nat.blt k 3 then (bif Nat.beq k 2 then some 408 else none) else (bif Nat.blt k 4 then (bif Nat.beq k 3 then some 409 else none) else (bif Nat.beq k 4 then some 410 else none)))) else none) else (bif Nat.beq a 411 then (bif Nat.blt k 3 then (bif Nat.blt k 2 then (bif Nat.beq k 1 then some 412 else none) else (bif Nat.beq k 2 then some 413 else none)) else (bif Nat.blt k 4 then (bif Nat.beq k 3 then some 414 else none) else (bif Nat.beq k 4 then some 415 else none))) else none))))) else (bif Nat.blt a 449 then (bif Nat.blt a 430 then (bif Nat.blt a 424 then (bif Nat.beq a 417 then (bif Nat.blt k 9 then (bif Nat.blt k 6 then (bif Nat.blt k 5 then (bif Nat.beq k 4 then some 418 else none) else (bif Nat.beq k 5 then some 419 else none)) else (bif Nat.blt k 7 then (bif Nat.beq k 6 then some 420 else none) else (bif Nat.blt k 8 then (bif Nat.beq k 7 then some 421 else none) else (bif Nat.beq k 8 then some 422 else none)))) else (bif Nat.blt k 12 then (bif Nat.blt k 10 then (bif Nat.beq k 9 then some 423 else none) else (bif Nat.blt k 11 then (bif Nat.beq k 10 then some 424 else none) else (bif Nat.beq k 11 then some 430 else none))) else (bif Nat.blt k 13 then (bif Nat.beq k 12 then some 435 else none) else (bif Nat.blt k 14 then (bif Nat.beq k 13 then some 7 else none) else (bif Nat.beq k 14 then some 11 else none))))) else none) else (bif Nat.beq a 424 then (bif Nat.blt k 2 then (bif Nat.blt k 1 then (bif Nat.beq k 0 then some 425 else none) else (bif Nat.beq k 1 then some 426 else none)) else (bif Nat.blt k 3 then (bif Nat.beq k 2 then some 427 else none) else (bif Nat.blt k 4 then (bif Nat.beq k 3 then some 428 else none) else (bif Nat.beq k 4 then some 429 else none)))) else none)) else (bif Nat.blt a 436 then (bif Nat.beq a 430 then (bif Nat.blt k 3 then (bif Nat.blt k 2 then (bif Nat.beq k 1 then some 431 else none) else (bif Nat.beq k 2 then some 432 else none)) else (bif Nat.blt k 4 then (bif Nat.beq k 3 then some 433 else none) else (bif Nat.beq k 4 then some 434 else none))) else none) else (bif Nat.blt a 443 then (bif Nat.beq a 436 then (bif Nat.blt k 9 then (bif Nat.blt k 6 then (bif Nat.blt k 5 then (bif Nat.beq k 4 then some 437 else none) else (bif Nat.beq k 5 then some 438 else none)) else (bif Nat.blt k 7 then (bif Nat.beq k 6 then some 439 else none) else (bif Nat.blt k 8 then (bif Nat.beq k 7 then some 440 else none) else (bif Nat.beq k 8 then some 441 else none)))) else (bif Nat.blt k 12 then (bif Nat.blt k 10 then (bif Nat.beq k 9 then some 442 else none) else (bif Nat.blt k 11 then (bif Nat.beq k 10 then some 443 else none) else (bif Nat.beq k 11 then some 449 else none))) else (bif Nat.blt k 13 then (bif Nat.beq k 12 then some 454 else none) else (bif Nat.blt k 14 then (bif Nat.beq k 13 then some 7 else none) else (bif Nat.beq k 14 then some 11 else none))))) else none) else (bif Nat.beq a 443 then (bif Nat.blt k 2 then (bif Nat.blt k 1 then (bif Nat.beq k 0 then some 444 else none) else (bif Nat.beq k 1 then some 445 else none)) else (bif Nat.blt k 3 then (bif Nat.beq k 2 then some 446 else none) else (bif Nat.blt k 4 then (bif Nat.beq k 3 then some 447 else none) else (bif Nat.beq k 4 then some 448 else none)))) else none)))) else (bif Nat.blt a 468 then (bif Nat.blt a 455 then (bif Nat.beq a 449 then (bif Nat.blt k 3 then (bif Nat.blt k 2 then (bif Nat.beq k 1 then some 450 else none) else (bif Nat.beq k 2 then some 451 else none)) else (bif Nat.blt k 4 then (bif Nat.beq k 3 then some 452 else none) else (bif Nat.beq k 4 then some 453 else none))) else none) else (bif Nat.blt a 462 then (bif Nat.beq a 455 then (bif Nat.blt k 9 then (bif Nat.blt k 6 then (bif Nat.blt k 5 then (bif Nat.beq k 4 then some 456 else none) else (bif Nat.beq k 5 then some 457 else none)) else (bif Nat.blt k 7 then (bif Nat.beq k 6 then some 458 else none) else (bif Nat.blt k 8 then (bif Nat.beq k 7 then some 459 else none) else (bif Nat.beq k 8 then some 460 else none)))) else (bif Nat.blt k 12 then (bif Nat.blt k 10 then (bif Nat.beq k 9 then some 461 else none) else (bif Nat.blt k 11 then (bif Nat.beq k 10 then some 462 else none) else (bif Nat.beq k 11 then some 468 else none))) else (bif Nat.blt k 13 then (bif Nat.beq k 12 then some 473 else none) else (bif Nat.blt k 14 then (bif Nat.beq k 13 then some 7 else none) else (bif Nat.beq k 14 then some 11 else none))))) else none) else (bif Nat.beq a 462 then (bif Nat.blt k 2 then (bif Nat.blt k 1 then (bif Nat.beq k 0 then some 463 else none) else (bif Nat.beq k 1 then some 464 else none)) else (bif Nat.blt k 3 then (bif Nat.beq k 2 then some 465 else none) else (bif Nat.blt k 4 then (bif Nat.beq k 3 then some 466 else none) else (bif Nat.beq k 4 then some 467 else none)))) else none))) else (bif Nat.blt a 474 then (bif Nat.beq a 468 then (bif Nat.blt k 3 then (bif Nat.blt k 2 then (bif Nat.beq k 1 then some 469 else none) else (bif Nat.beq k 2 then some 470 else none)) else (bif Nat.blt k 4 then (bif Nat.beq k 3 then some 471 else none) else (bif Nat.beq k 4 then some 472 else none))) else none) else (bif Nat.blt a 479 then (bif Nat.beq a 474 then (bif Nat.blt k 5 then (bif Nat.blt k 4 then (bif Nat.beq k 3 then some 475 else none) else (bif Nat.beq k 4 then some 476 else none)) else (bif Nat.blt k 6 then (bif Nat.beq k 5 then some 477 else none) else (bif Nat.beq k 6 then some 478 else none))) else none) else (bif Nat.beq a 479 then (bif Nat.blt k 29 then (bif Nat.blt k 14 then (bif Nat.blt k 9 then (bif Nat.blt k 4 then (bif Nat.blt k 2 then (bif Nat.beq k 1 then some 480 else none) else (bif Nat.beq k 2 then some 481 else none)) else (bif Nat.blt k 8 then (bif Nat.beq k 4 then some 482 else none) else (bif Nat.beq k 8 then some 483 else none))) else (bif Nat.blt k 11 then (bif Nat.blt k 10 then (bif Nat.beq k 9 then some 484 else none) else (bif Nat.beq k 10 then some 485 else none)) else (bif Nat.blt k 12 then (bif Nat.beq k 11 then some 486 else none) else (bif Nat.blt k 13 then (bif Nat.beq k 12 then some 487 else none) else (bif Nat.beq k 13 then some 488 else none))))) else (bif Nat.blt k 19 then (bif Nat.blt k 17 then (bif Nat.blt k 15 then (bif Nat.beq k 14 then some 489 else none) else (bif Nat.beq k 15 then some 490 else none)) else (bif Nat.blt k 18 then (bif Nat.beq k 17 then some 491 else none) else (bif Nat.beq k 18 then some 492 else none))) else (bif Nat.blt k 21 then (bif Nat.blt k 20 then (bif Nat.beq k 19 then some 493 else none) else (bif Nat.beq k 20 then some 494 else none)) else (bif Nat.blt k 22 then (bif Nat.beq k 21 then some 495 else none) else (bif Nat.blt k 23 then (bif Nat.beq k 22 then some 496 else none) else (bif Nat.beq k 23 then some 497 else none)))))) else (bif Nat.blt k 46 then (bif Nat.blt k 33 then (bif Nat.blt k 31 then (bif Nat.blt k 30 then (bif Nat.beq k 29 then some 498 else none) else (bif Nat.beq k 30 then some 499 else none)) else (bif Nat.blt k 32 then (bif Nat.beq k 31 then some 500 else none) else (bif Nat.beq k 32 then some 501 else none))) else (bif Nat.blt k 35 then (bif Nat.blt k 34 then (bif Nat.beq k 33 then some 502 else none) else (bif Nat.beq k 34 then some 503 else none)) else (bif Nat.blt k 36 then (bif Nat.beq k 35 then some 504 else none) else (bif Nat.blt k 40 then (bif Nat.beq k 36 then some 505 else none) else (bif Nat.beq k 40 then some 506 else none))))) else (bif Nat.blt k 56 then (bif Nat.blt k 50 then (bif Nat.blt k 49 then (bif Nat.beq k 46 then some 507 else none) else (bif Nat.beq k 49 then some 508 else none)) else (bif Nat.blt k 55 then (bif Nat.beq k 50 then some 509 else none) else (bif Nat.beq k 55 then some 510 else none))) else (bif Nat.blt k 60 then (bif Nat.blt k 59 then (bif Nat.beq k 56 then some 511 else none) else (bif Nat.beq k 59 then some 512 else none)) else (bif Nat.blt k 61 then (bif Nat.beq k 60 then some 513 else none) else (bif Nat.blt k 65 then (bif Nat.beq k 61 then some 514 else none) else (bif Nat.beq k 65 then some 515 else none))))))) else none))))))))
def rV (a k : Nat) : Bool := (Nat.beq a 7 && Nat.beq k 3) || (Nat.beq a 7 && Nat.beq k 5) || (Nat.beq a 11 && Nat.beq k 3) || (Nat.beq a 11 && Nat.beq k 5) || (Nat.beq a 15 && Nat.beq k 4) || (Nat.beq a 15 && Nat.beq k 5)
/-- the references as they stand; the rows that are changed for one another may be either -/
def RF (R : Nat → Nat → Option Nat) : Prop := (∀ a k, rV a k = false → R a k = rT a k) ∧ ((R 7 3 = some 8 ∧ R 7 5 = some 9) ∨ (R 7 3 = some 9 ∧ R 7 5 = some 8)) ∧ ((R 11 3 = some 12 ∧ R 11 5 = some 13) ∨ (R 11 3 = some 13 ∧ R 11 5 = some 12)) ∧ ((R 15 4 = some 16 ∧ R 15 5 = some 17) ∨ (R 15 4 = some 17 ∧ R 15 5 = some 16))
set_option maxRecDepth 100000 in
theorem rc_depth {R : Nat → Nat → Option Nat} {c : Nat} (hR : RF R) (h : isC c) : R (c) 4 = some (c + 1) := by
  unfold isC at h
  simp only [List.mem_cons, List.not_mem_nil, or_false] at h
  rcases h with rfl | rfl | rfl | rfl | rfl | rfl | rfl | rfl | rfl | rfl | rfl | rfl | rfl | rfl | rfl | rfl | rfl | rfl | rfl | rfl | rfl | rfl <;> exact hR.1 _ _ rfl
set_option maxRecDepth 100000 in
theorem rc_fill {R : Nat → Nat → Option Nat} {c : Nat} (hR : RF R) (h : isC c) : R (c) 5 = some (c + 2) := by
  unfold isC at h
  simp only [List.mem_cons, List.not_mem_nil, or_false] at h
  rcases h with rfl | rfl | rfl | rfl | rfl | rfl | rfl | rfl | rfl | rfl | rfl | rfl | rfl | rfl | rfl | rfl | rfl | rfl | rfl | rfl | rfl | rfl <;> exact hR.1 _ _ rfl
set_option maxRecDepth 100000 in
theorem rc_leak {R : Nat → Nat → Option Nat} {c : Nat} (hR : RF R) (h : isC c) : R (c) 6 = some (c + 3) := by
  unfold isC at h
  simp only [List.mem_cons, List.not_mem_nil, or_false] at h
  rcases h with rfl | rfl | rfl | rfl | rfl | rfl | rfl | rfl | rfl | rfl | rfl | rfl | rfl | rfl | rfl | rfl | rfl | rfl | rfl | rfl | rfl | rfl <;> exact hR.1 _ _ rfl
set_option maxRecDepth 100000 in
theorem rc_wide {R : Nat → Nat → Option Nat} {c : Nat} (hR : RF R) (h : isC c) : R (c) 7 = some (c + 4) := by
  unfold isC at h
  simp only [List.mem_cons, List.not_mem_nil, or_false] at h
  rcases h with rfl | rfl | rfl | rfl | rfl | rfl | rfl | rfl | rfl | rfl | rfl | rfl | rfl | rfl | rfl | rfl | rfl | rfl | rfl | rfl | rfl | rfl <;> exact hR.1 _ _ rfl
set_option maxRecDepth 100000 in
theorem rc_passes {R : Nat → Nat → Option Nat} {c : Nat} (hR : RF R) (h : isC c) : R (c) 8 = some (c + 5) := by
  unfold isC at h
  simp only [List.mem_cons, List.not_mem_nil, or_false] at h
  rcases h with rfl | rfl | rfl | rfl | rfl | rfl | rfl | rfl | rfl | rfl | rfl | rfl | rfl | rfl | rfl | rfl | rfl | rfl | rfl | rfl | rfl | rfl <;> exact hR.1 _ _ rfl
set_option maxRecDepth 100000 in
theorem rc_weather {R : Nat → Nat → Option Nat} {c : Nat} (hR : RF R) (h : isC c) : R (c) 9 = some (c + 6) := by
  unfold isC at h
  simp only [List.mem_cons, List.not_mem_nil, or_false] at h
  rcases h with rfl | rfl | rfl | rfl | rfl | rfl | rfl | rfl | rfl | rfl | rfl | rfl | rfl | rfl | rfl | rfl | rfl | rfl | rfl | rfl | rfl | rfl <;> exact hR.1 _ _ rfl
set_option maxRecDepth 100000 in
theorem rc_keepers {R : Nat → Nat → Option Nat} {c : Nat} (hR : RF R) (h : isC c) : R (c) 10 = some (c + 7) := by
  unfold isC at h
  simp only [List.mem_cons, List.not_mem_nil, or_false] at h
  rcases h with rfl | rfl | rfl | rfl | rfl | rfl | rfl | rfl | rfl | rfl | rfl | rfl | rfl | rfl | rfl | rfl | rfl | rfl | rfl | rfl | rfl | rfl <;> exact hR.1 _ _ rfl
set_option maxRecDepth 100000 in
theorem rc_fleet {R : Nat → Nat → Option Nat} {c : Nat} (hR : RF R) (h : isC c) : R (c) 11 = some (c + 13) := by
  unfold isC at h
  simp only [List.mem_cons, List.not_mem_nil, or_false] at h
  rcases h with rfl | rfl | rfl | rfl | rfl | rfl | rfl | rfl | rfl | rfl | rfl | rfl | rfl | rfl | rfl | rfl | rfl | rfl | rfl | rfl | rfl | rfl <;> exact hR.1 _ _ rfl
set_option maxRecDepth 100000 in
theorem rc_facts {R : Nat → Nat → Option Nat} {c : Nat} (hR : RF R) (h : isC c) : R (c) 12 = some (c + 18) := by
  unfold isC at h
  simp only [List.mem_cons, List.not_mem_nil, or_false] at h
  rcases h with rfl | rfl | rfl | rfl | rfl | rfl | rfl | rfl | rfl | rfl | rfl | rfl | rfl | rfl | rfl | rfl | rfl | rfl | rfl | rfl | rfl | rfl <;> exact hR.1 _ _ rfl
set_option maxRecDepth 100000 in
theorem rc_mood {R : Nat → Nat → Option Nat} {c : Nat} (hR : RF R) (h : isC c) : R (c + 7) 0 = some (c + 8) := by
  unfold isC at h
  simp only [List.mem_cons, List.not_mem_nil, or_false] at h
  rcases h with rfl | rfl | rfl | rfl | rfl | rfl | rfl | rfl | rfl | rfl | rfl | rfl | rfl | rfl | rfl | rfl | rfl | rfl | rfl | rfl | rfl | rfl <;> exact hR.1 _ _ rfl
set_option maxRecDepth 100000 in
theorem rc_rival {R : Nat → Nat → Option Nat} {c : Nat} (hR : RF R) (h : isC c) : R (c + 7) 1 = some (c + 9) := by
  unfold isC at h
  simp only [List.mem_cons, List.not_mem_nil, or_false] at h
  rcases h with rfl | rfl | rfl | rfl | rfl | rfl | rfl | rfl | rfl | rfl | rfl | rfl | rfl | rfl | rfl | rfl | rfl | rfl | rfl | rfl | rfl | rfl <;> exact hR.1 _ _ rfl
set_option maxRecDepth 100000 in
theorem rc_presents {R : Nat → Nat → Option Nat} {c : Nat} (hR : RF R) (h : isC c) : R (c + 7) 2 = some (c + 10) := by
  unfold isC at h
  simp only [List.mem_cons, List.not_mem_nil, or_false] at h
  rcases h with rfl | rfl | rfl | rfl | rfl | rfl | rfl | rfl | rfl | rfl | rfl | rfl | rfl | rfl | rfl | rfl | rfl | rfl | rfl | rfl | rfl | rfl <;> exact hR.1 _ _ rfl
set_option maxRecDepth 100000 in
theorem rc_taste {R : Nat → Nat → Option Nat} {c : Nat} (hR : RF R) (h : isC c) : R (c + 7) 3 = some (c + 11) := by
  unfold isC at h
  simp only [List.mem_cons, List.not_mem_nil, or_false] at h
  rcases h with rfl | rfl | rfl | rfl | rfl | rfl | rfl | rfl | rfl | rfl | rfl | rfl | rfl | rfl | rfl | rfl | rfl | rfl | rfl | rfl | rfl | rfl <;> exact hR.1 _ _ rfl
set_option maxRecDepth 100000 in
theorem rc_liking {R : Nat → Nat → Option Nat} {c : Nat} (hR : RF R) (h : isC c) : R (c + 7) 4 = some (c + 12) := by
  unfold isC at h
  simp only [List.mem_cons, List.not_mem_nil, or_false] at h
  rcases h with rfl | rfl | rfl | rfl | rfl | rfl | rfl | rfl | rfl | rfl | rfl | rfl | rfl | rfl | rfl | rfl | rfl | rfl | rfl | rfl | rfl | rfl <;> exact hR.1 _ _ rfl
set_option maxRecDepth 100000 in
theorem rc_where {R : Nat → Nat → Option Nat} {c : Nat} (hR : RF R) (h : isC c) : R (c + 13) 1 = some (c + 14) := by
  unfold isC at h
  simp only [List.mem_cons, List.not_mem_nil, or_false] at h
  rcases h with rfl | rfl | rfl | rfl | rfl | rfl | rfl | rfl | rfl | rfl | rfl | rfl | rfl | rfl | rfl | rfl | rfl | rfl | rfl | rfl | rfl | rfl <;> exact hR.1 _ _ rfl
set_option maxRecDepth 100000 in
theorem rc_draught {R : Nat → Nat → Option Nat} {c : Nat} (hR : RF R) (h : isC c) : R (c + 13) 2 = some (c + 15) := by
  unfold isC at h
  simp only [List.mem_cons, List.not_mem_nil, or_false] at h
  rcases h with rfl | rfl | rfl | rfl | rfl | rfl | rfl | rfl | rfl | rfl | rfl | rfl | rfl | rfl | rfl | rfl | rfl | rfl | rfl | rfl | rfl | rfl <;> exact hR.1 _ _ rfl
set_option maxRecDepth 100000 in
theorem rc_broad {R : Nat → Nat → Option Nat} {c : Nat} (hR : RF R) (h : isC c) : R (c + 13) 3 = some (c + 16) := by
  unfold isC at h
  simp only [List.mem_cons, List.not_mem_nil, or_false] at h
  rcases h with rfl | rfl | rfl | rfl | rfl | rfl | rfl | rfl | rfl | rfl | rfl | rfl | rfl | rfl | rfl | rfl | rfl | rfl | rfl | rfl | rfl | rfl <;> exact hR.1 _ _ rfl
set_option maxRecDepth 100000 in
theorem rc_cargo {R : Nat → Nat → Option Nat} {c : Nat} (hR : RF R) (h : isC c) : R (c + 13) 4 = some (c + 17) := by
  unfold isC at h
  simp only [List.mem_cons, List.not_mem_nil, or_false] at h
  rcases h with rfl | rfl | rfl | rfl | rfl | rfl | rfl | rfl | rfl | rfl | rfl | rfl | rfl | rfl | rfl | rfl | rfl | rfl | rfl | rfl | rfl | rfl <;> exact hR.1 _ _ rfl
set_option maxRecDepth 100000 in
theorem rc_gates {R : Nat → Nat → Option Nat} {c : Nat} (hR : RF R) (h : isT c) : R (c) 13 = some 7 := by
  unfold isT at h
  simp only [List.mem_cons, List.not_mem_nil, or_false] at h
  rcases h with rfl | rfl | rfl | rfl | rfl | rfl | rfl | rfl | rfl | rfl | rfl | rfl | rfl | rfl | rfl | rfl | rfl | rfl | rfl | rfl <;> exact hR.1 _ _ rfl
set_option maxRecDepth 100000 in
theorem rc_hearts {R : Nat → Nat → Option Nat} {c : Nat} (hR : RF R) (h : isT c) : R (c) 14 = some 11 := by
  unfold isT at h
  simp only [List.mem_cons, List.not_mem_nil, or_false] at h
  rcases h with rfl | rfl | rfl | rfl | rfl | rfl | rfl | rfl | rfl | rfl | rfl | rfl | rfl | rfl | rfl | rfl | rfl | rfl | rfl | rfl <;> exact hR.1 _ _ rfl
set_option maxRecDepth 100000 in
theorem rc_book {R : Nat → Nat → Option Nat} {c : Nat} (hR : RF R) (h : isT c) : R (c) 15 = none := by
  unfold isT at h
  simp only [List.mem_cons, List.not_mem_nil, or_false] at h
  rcases h with rfl | rfl | rfl | rfl | rfl | rfl | rfl | rfl | rfl | rfl | rfl | rfl | rfl | rfl | rfl | rfl | rfl | rfl | rfl | rfl <;> exact hR.1 _ _ rfl
set_option maxRecDepth 100000 in
theorem rc_past {R : Nat → Nat → Option Nat} {c : Nat} (hR : RF R) (h : isT c) : R (c) 16 = none := by
  unfold isT at h
  simp only [List.mem_cons, List.not_mem_nil, or_false] at h
  rcases h with rfl | rfl | rfl | rfl | rfl | rfl | rfl | rfl | rfl | rfl | rfl | rfl | rfl | rfl | rfl | rfl | rfl | rfl | rfl | rfl <;> exact hR.1 _ _ rfl
