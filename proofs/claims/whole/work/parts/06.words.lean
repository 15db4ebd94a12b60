/-! the words of the tables by their places (by program) -/
theorem m_cl_L_8 : Cond.classLink RL 8 RX6 ∈ wsL_law := List.mem_of_getElem? (i := 0) rfl
theorem m_ib_X6 7 : Cond.instantiable RX6 7 ∈ wsL_law := List.mem_of_getElem? (i := 1) rfl
theorem m_ini_X6 : Cond.initialized RX6 ∈ wsL_law := List.mem_of_getElem? (i := 2) rfl
theorem m_cl_L_79 : Cond.classLink RL 79 RX7 ∈ wsL_law := List.mem_of_getElem? (i := 3) rfl
theorem m_ib_X7 35 : Cond.instantiable RX7 35 ∈ wsL_law := List.mem_of_getElem? (i := 4) rfl
theorem m_ini_X7 : Cond.initialized RX7 ∈ wsL_law := List.mem_of_getElem? (i := 5) rfl
theorem m_ac__long : Cond.arrayClass .long ∈ wsL_law := List.mem_of_getElem? (i := 6) rfl
theorem m_ac__double : Cond.arrayClass .double ∈ wsL_law := List.mem_of_getElem? (i := 7) rfl
theorem m_ml_L_78 : Cond.methodLink RL 78 yX6_init ∈ wsL_law := List.mem_of_getElem? (i := 8) rfl
theorem m_im_X6_init : Cond.instanceMethod yX6_init ∈ wsL_law := List.mem_of_getElem? (i := 9) rfl
theorem m_co_X6_init : Cond.code yX6_init cX6_init 1 none ∈ wsL_law := List.mem_of_getElem? (i := 10) rfl
theorem m_ml_X6_1 : Cond.methodLink RX6 1 objectInit ∈ wsL_law := List.mem_of_getElem? (i := 11) rfl
theorem m_im_objectInit : Cond.instanceMethod objectInit ∈ wsL_law := List.mem_of_getElem? (i := 12) rfl
theorem m_co_objectInit : Cond.code objectInit ⟨#[0xb1]⟩ 1 none ∈ wsL_law := List.mem_of_getElem? (i := 13) rfl
theorem m_cl_X6_7 : Cond.classLink RX6 7 RX5 ∈ wsL_law := List.mem_of_getElem? (i := 14) rfl
theorem m_ib_X5 4 : Cond.instantiable RX5 4 ∈ wsL_law := List.mem_of_getElem? (i := 15) rfl
theorem m_ini_X5 : Cond.initialized RX5 ∈ wsL_law := List.mem_of_getElem? (i := 16) rfl
theorem m_fl_X6_10 : Cond.fieldLink RX6 10 "IcePad" "sky" "LIcePad$Weather;" ∈ wsL_law := List.mem_of_getElem? (i := 17) rfl
theorem m_cl_X6_16 : Cond.classLink RX6 16 RX3 ∈ wsL_law := List.mem_of_getElem? (i := 18) rfl
theorem m_ib_X3 4 : Cond.instantiable RX3 4 ∈ wsL_law := List.mem_of_getElem? (i := 19) rfl
theorem m_ini_X3 : Cond.initialized RX3 ∈ wsL_law := List.mem_of_getElem? (i := 20) rfl
theorem m_fl_X6_19 : Cond.fieldLink RX6 19 "IcePad" "runway" "LIcePad$Runway;" ∈ wsL_law := List.mem_of_getElem? (i := 21) rfl
theorem m_cl_X6_23 : Cond.classLink RX6 23 RX2 ∈ wsL_law := List.mem_of_getElem? (i := 22) rfl
theorem m_ib_X2 3 : Cond.instantiable RX2 3 ∈ wsL_law := List.mem_of_getElem? (i := 23) rfl
theorem m_ini_X2 : Cond.initialized RX2 ∈ wsL_law := List.mem_of_getElem? (i := 24) rfl
theorem m_fl_X6_26 : Cond.fieldLink RX6 26 "IcePad" "fluids" "LIcePad$Fluids;" ∈ wsL_law := List.mem_of_getElem? (i := 25) rfl
theorem m_cl_X6_30 : Cond.classLink RX6 30 RX1 ∈ wsL_law := List.mem_of_getElem? (i := 26) rfl
theorem m_ib_X1 6 : Cond.instantiable RX1 6 ∈ wsL_law := List.mem_of_getElem? (i := 27) rfl
theorem m_ini_X1 : Cond.initialized RX1 ∈ wsL_law := List.mem_of_getElem? (i := 28) rfl
theorem m_fl_X6_33 : Cond.fieldLink RX6 33 "IcePad" "basin" "LIcePad$Basin;" ∈ wsL_law := List.mem_of_getElem? (i := 29) rfl
theorem m_cl_X6_37 : Cond.classLink RX6 37 RX0 ∈ wsL_law := List.mem_of_getElem? (i := 30) rfl
theorem m_fl_X6_39 : Cond.fieldLink RX6 39 "IcePad" "fleet" "[LIcePad$Aircraft;" ∈ wsL_law := List.mem_of_getElem? (i := 31) rfl
theorem m_im_X5_init : Cond.instanceMethod yX5_init ∈ wsL_law := List.mem_of_getElem? (i := 32) rfl
theorem m_co_X5_init : Cond.code yX5_init cX5_init 1 none ∈ wsL_law := List.mem_of_getElem? (i := 33) rfl
theorem m_ml_X5_1 : Cond.methodLink RX5 1 objectInit ∈ wsL_law := List.mem_of_getElem? (i := 34) rfl
theorem m_ml_X6_18 : Cond.methodLink RX6 18 yX3_init ∈ wsL_law := List.mem_of_getElem? (i := 35) rfl
theorem m_im_X3_init : Cond.instanceMethod yX3_init ∈ wsL_law := List.mem_of_getElem? (i := 36) rfl
theorem m_co_X3_init : Cond.code yX3_init cX3_init 2 none ∈ wsL_law := List.mem_of_getElem? (i := 37) rfl
theorem m_ml_X3_3 : Cond.methodLink RX3 3 objectInit ∈ wsL_law := List.mem_of_getElem? (i := 38) rfl
theorem m_fl_X3_9 : Cond.fieldLink RX3 9 "IcePad$Runway" "closedUpTo" "I" ∈ wsL_law := List.mem_of_getElem? (i := 39) rfl
theorem m_cl_X3_15 : Cond.classLink RX3 15 RX4 ∈ wsL_law := List.mem_of_getElem? (i := 40) rfl
theorem m_fl_X3_17 : Cond.fieldLink RX3 17 "IcePad$Runway" "thirds" "[LIcePad$Third;" ∈ wsL_law := List.mem_of_getElem? (i := 41) rfl
theorem m_ib_X4 5 : Cond.instantiable RX4 5 ∈ wsL_law := List.mem_of_getElem? (i := 42) rfl
theorem m_ini_X4 : Cond.initialized RX4 ∈ wsL_law := List.mem_of_getElem? (i := 43) rfl
theorem m_im_X4_init : Cond.instanceMethod yX4_init ∈ wsL_law := List.mem_of_getElem? (i := 44) rfl
theorem m_co_X4_init : Cond.code yX4_init cX4_init 1 none ∈ wsL_law := List.mem_of_getElem? (i := 45) rfl
theorem m_ml_X4_3 : Cond.methodLink RX4 3 objectInit ∈ wsL_law := List.mem_of_getElem? (i := 46) rfl
theorem m_fl_X4_9 : Cond.fieldLink RX4 9 "IcePad$Third" "cover" "I" ∈ wsL_law := List.mem_of_getElem? (i := 47) rfl
theorem m_fl_X4_15 : Cond.fieldLink RX4 15 "IcePad$Third" "sprayedUpTo" "I" ∈ wsL_law := List.mem_of_getElem? (i := 48) rfl
theorem m_fl_X4_18 : Cond.fieldLink RX4 18 "IcePad$Third" "reportMinute" "I" ∈ wsL_law := List.mem_of_getElem? (i := 49) rfl
theorem m_ml_X6_25 : Cond.methodLink RX6 25 yX2_init ∈ wsL_law := List.mem_of_getElem? (i := 50) rfl
theorem m_im_X2_init : Cond.instanceMethod yX2_init ∈ wsL_law := List.mem_of_getElem? (i := 51) rfl
theorem m_co_X2_init : Cond.code yX2_init cX2_init 3 none ∈ wsL_law := List.mem_of_getElem? (i := 52) rfl
theorem m_ml_X2_3 : Cond.methodLink RX2 3 objectInit ∈ wsL_law := List.mem_of_getElem? (i := 53) rfl
theorem m_ac__int : Cond.arrayClass .int ∈ wsL_law := List.mem_of_getElem? (i := 54) rfl
theorem m_fl_X2_9 : Cond.fieldLink RX2 9 "IcePad$Fluids" "tanks" "[I" ∈ wsL_law := List.mem_of_getElem? (i := 55) rfl
theorem m_cl_X2_15 : Cond.classLink RX2 15 "[[I" ∈ wsL_law := List.mem_of_getElem? (i := 56) rfl
theorem m_fl_X2_17 : Cond.fieldLink RX2 17 "IcePad$Fluids" "minutes" "[[I" ∈ wsL_law := List.mem_of_getElem? (i := 57) rfl
theorem m_ml_X2_20 : Cond.methodLink RX2 20 Lib.Math.max.name ∈ wsL_law := List.mem_of_getElem? (i := 58) rfl
theorem m_st_Lib_Math_max_name : Cond.static Lib.Math.max.name ∈ wsL_law := List.mem_of_getElem? (i := 59) rfl
theorem m_ini__java_lang_Math_ : Cond.initialized "java/lang/Math" ∈ wsL_law := List.mem_of_getElem? (i := 60) rfl
theorem m_co_Lib_Math_max_name : Cond.code Lib.Math.max.name Lib.Math.max.code 2 (some .int) ∈ wsL_law := List.mem_of_getElem? (i := 61) rfl
theorem m_im_X1_init : Cond.instanceMethod yX1_init ∈ wsL_law := List.mem_of_getElem? (i := 62) rfl
theorem m_co_X1_init : Cond.code yX1_init cX1_init 1 none ∈ wsL_law := List.mem_of_getElem? (i := 63) rfl
theorem m_ml_X1_3 : Cond.methodLink RX1 3 objectInit ∈ wsL_law := List.mem_of_getElem? (i := 64) rfl
theorem m_fl_X1_9 : Cond.fieldLink RX1 9 "IcePad$Basin" "permitADay" "I" ∈ wsL_law := List.mem_of_getElem? (i := 65) rfl
theorem m_ml_L_81 : Cond.methodLink RL 81 yX7_init ∈ wsL_law := List.mem_of_getElem? (i := 66) rfl
theorem m_im_X7_init : Cond.instanceMethod yX7_init ∈ wsL_law := List.mem_of_getElem? (i := 67) rfl
theorem m_co_X7_init : Cond.code yX7_init cX7_init 3 none ∈ wsL_law := List.mem_of_getElem? (i := 68) rfl
theorem m_ml_X7_1 : Cond.methodLink RX7 1 objectInit ∈ wsL_law := List.mem_of_getElem? (i := 69) rfl
theorem m_fl_X7_7 : Cond.fieldLink RX7 7 "IcePadModel" "covers" "[I" ∈ wsL_law := List.mem_of_getElem? (i := 70) rfl
theorem m_fl_X7_13 : Cond.fieldLink RX7 13 "IcePadModel" "depths" "[I" ∈ wsL_law := List.mem_of_getElem? (i := 71) rfl
theorem m_fl_X7_16 : Cond.fieldLink RX7 16 "IcePadModel" "sprayedTo" "[I" ∈ wsL_law := List.mem_of_getElem? (i := 72) rfl
theorem m_fl_X7_19 : Cond.fieldLink RX7 19 "IcePadModel" "reported" "[I" ∈ wsL_law := List.mem_of_getElem? (i := 73) rfl
theorem m_fl_X7_22 : Cond.fieldLink RX7 22 "IcePadModel" "reportedAt" "[I" ∈ wsL_law := List.mem_of_getElem? (i := 74) rfl
theorem m_fl_X7_25 : Cond.fieldLink RX7 25 "IcePadModel" "closedTo" "I" ∈ wsL_law := List.mem_of_getElem? (i := 75) rfl
theorem m_fl_X7_29 : Cond.fieldLink RX7 29 "IcePadModel" "tanks" "[I" ∈ wsL_law := List.mem_of_getElem? (i := 76) rfl
theorem m_fl_X7_32 : Cond.fieldLink RX7 32 "IcePadModel" "tables" "[I" ∈ wsL_law := List.mem_of_getElem? (i := 77) rfl
theorem m_fl_X7_35 : Cond.fieldLink RX7 35 "IcePadModel" "spans" "[I" ∈ wsL_law := List.mem_of_getElem? (i := 78) rfl
theorem m_fl_X7_38 : Cond.fieldLink RX7 38 "IcePadModel" "slots" "[I" ∈ wsL_law := List.mem_of_getElem? (i := 79) rfl
theorem m_fl_X7_41 : Cond.fieldLink RX7 41 "IcePadModel" "duties" "[I" ∈ wsL_law := List.mem_of_getElem? (i := 80) rfl
theorem m_fl_X7_44 : Cond.fieldLink RX7 44 "IcePadModel" "states" "[I" ∈ wsL_law := List.mem_of_getElem? (i := 81) rfl
theorem m_fl_X7_47 : Cond.fieldLink RX7 47 "IcePadModel" "leftAt" "[I" ∈ wsL_law := List.mem_of_getElem? (i := 82) rfl
theorem m_fl_X7_50 : Cond.fieldLink RX7 50 "IcePadModel" "treatments" "[I" ∈ wsL_law := List.mem_of_getElem? (i := 83) rfl
theorem m_fl_X7_53 : Cond.fieldLink RX7 53 "IcePadModel" "litresOn" "[I" ∈ wsL_law := List.mem_of_getElem? (i := 84) rfl
theorem m_fl_X7_56 : Cond.fieldLink RX7 56 "IcePadModel" "padOf" "[I" ∈ wsL_law := List.mem_of_getElem? (i := 85) rfl
theorem m_fl_X7_59 : Cond.fieldLink RX7 59 "IcePadModel" "cleanAt" "[I" ∈ wsL_law := List.mem_of_getElem? (i := 86) rfl
theorem m_fl_X7_62 : Cond.fieldLink RX7 62 "IcePadModel" "begun" "[I" ∈ wsL_law := List.mem_of_getElem? (i := 87) rfl
theorem m_fl_X7_65 : Cond.fieldLink RX7 65 "IcePadModel" "fluidOf" "[I" ∈ wsL_law := List.mem_of_getElem? (i := 88) rfl
theorem m_fl_X7_68 : Cond.fieldLink RX7 68 "IcePadModel" "strengthOf" "[I" ∈ wsL_law := List.mem_of_getElem? (i := 89) rfl
theorem m_fl_X7_71 : Cond.fieldLink RX7 71 "IcePadModel" "permitNow" "I" ∈ wsL_law := List.mem_of_getElem? (i := 90) rfl
theorem m_ml_L_82 : Cond.methodLink RL 82 yL_weather ∈ wsL_law := List.mem_of_getElem? (i := 91) rfl
theorem m_st_L_weather : Cond.static yL_weather ∈ wsL_law := List.mem_of_getElem? (i := 92) rfl
theorem m_ini_L : Cond.initialized RL ∈ wsL_law := List.mem_of_getElem? (i := 93) rfl
theorem m_cw_L_weather : Cond.codeWith yL_weather cL_weather 6 (some .int) [(0, 9, 12, 13)] ∈ wsL_law := List.mem_of_getElem? (i := 94) rfl
theorem m_cl_L_13 : Cond.classLink RL 13 "java/lang/IllegalArgumentException" ∈ wsL_law := List.mem_of_getElem? (i := 95) rfl
theorem m_ml_L_7 : Cond.methodLink RL 7 yX6_weather ∈ wsL_law := List.mem_of_getElem? (i := 96) rfl
theorem m_im_X6_weather : Cond.instanceMethod yX6_weather ∈ wsL_law := List.mem_of_getElem? (i := 97) rfl
theorem m_se_X6_weather : Cond.selects RX6 yX6_weather yX6_weather ∈ wsL_law := List.mem_of_getElem? (i := 98) rfl
theorem m_co_X6_weather : Cond.code yX6_weather cX6_weather 5 none ∈ wsL_law := List.mem_of_getElem? (i := 99) rfl
theorem m_fl_X6_47 : Cond.fieldLink RX6 47 "IcePad$Weather" "temperature" "I" ∈ wsL_law := List.mem_of_getElem? (i := 100) rfl
theorem m_fl_X6_51 : Cond.fieldLink RX6 51 "IcePad$Weather" "fall" "I" ∈ wsL_law := List.mem_of_getElem? (i := 101) rfl
theorem m_fl_X6_54 : Cond.fieldLink RX6 54 "IcePad$Weather" "rate" "I" ∈ wsL_law := List.mem_of_getElem? (i := 102) rfl
theorem m_fl_X6_57 : Cond.fieldLink RX6 57 "IcePad$Weather" "wind" "I" ∈ wsL_law := List.mem_of_getElem? (i := 103) rfl
theorem m_ml_X6_43 : Cond.methodLink RX6 43 yX6_requireRange ∈ wsL_law := List.mem_of_getElem? (i := 104) rfl
theorem m_st_X6_requireRange : Cond.static yX6_requireRange ∈ wsL_law := List.mem_of_getElem? (i := 105) rfl
theorem m_co_X6_requireRange : Cond.code yX6_requireRange cX6_requireRange 3 none ∈ wsL_law := List.mem_of_getElem? (i := 106) rfl
theorem m_cl_X6_267 : Cond.classLink RX6 267 "java/lang/IllegalArgumentException" ∈ wsL_law := List.mem_of_getElem? (i := 107) rfl
theorem m_ini__java_lang_IllegalArgumentException_ : Cond.initialized "java/lang/IllegalArgumentException" ∈ wsL_law := List.mem_of_getElem? (i := 108) rfl
theorem m_ml_L_87 : Cond.methodLink RL 87 yX7_weather ∈ wsL_law := List.mem_of_getElem? (i := 109) rfl
theorem m_im_X7_weather : Cond.instanceMethod yX7_weather ∈ wsL_law := List.mem_of_getElem? (i := 110) rfl
theorem m_se_X7_weather : Cond.selects RX7 yX7_weather yX7_weather ∈ wsL_law := List.mem_of_getElem? (i := 111) rfl
theorem m_co_X7_weather : Cond.code yX7_weather cX7_weather 5 none ∈ wsL_law := List.mem_of_getElem? (i := 112) rfl
theorem m_fl_X7_74 : Cond.fieldLink RX7 74 "IcePadModel" "thrown" "I" ∈ wsL_law := List.mem_of_getElem? (i := 113) rfl
theorem m_fl_X7_84 : Cond.fieldLink RX7 84 "IcePadModel" "temperature" "I" ∈ wsL_law := List.mem_of_getElem? (i := 114) rfl
theorem m_fl_X7_87 : Cond.fieldLink RX7 87 "IcePadModel" "fall" "I" ∈ wsL_law := List.mem_of_getElem? (i := 115) rfl
theorem m_fl_X7_90 : Cond.fieldLink RX7 90 "IcePadModel" "rate" "I" ∈ wsL_law := List.mem_of_getElem? (i := 116) rfl
theorem m_fl_X7_93 : Cond.fieldLink RX7 93 "IcePadModel" "wind" "I" ∈ wsL_law := List.mem_of_getElem? (i := 117) rfl
theorem m_ml_X7_77 : Cond.methodLink RX7 77 yX7_in ∈ wsL_law := List.mem_of_getElem? (i := 118) rfl
theorem m_st_X7_in : Cond.static yX7_in ∈ wsL_law := List.mem_of_getElem? (i := 119) rfl
theorem m_co_X7_in : Cond.code yX7_in cX7_in 3 (some .boolean) ∈ wsL_law := List.mem_of_getElem? (i := 120) rfl
theorem m_ml_L_88 : Cond.methodLink RL 88 yX7_thrown ∈ wsL_law := List.mem_of_getElem? (i := 121) rfl
theorem m_im_X7_thrown : Cond.instanceMethod yX7_thrown ∈ wsL_law := List.mem_of_getElem? (i := 122) rfl
theorem m_se_X7_thrown : Cond.selects RX7 yX7_thrown yX7_thrown ∈ wsL_law := List.mem_of_getElem? (i := 123) rfl
theorem m_co_X7_thrown : Cond.code yX7_thrown cX7_thrown 1 (some .int) ∈ wsL_law := List.mem_of_getElem? (i := 124) rfl
theorem m_ml_L_92 : Cond.methodLink RL 92 yL_spray ∈ wsL_law := List.mem_of_getElem? (i := 125) rfl
theorem m_st_L_spray : Cond.static yL_spray ∈ wsL_law := List.mem_of_getElem? (i := 126) rfl
theorem m_cw_L_spray : Cond.codeWith yL_spray cL_spray 4 (some .int) [(0, 9, 12, 19)] ∈ wsL_law := List.mem_of_getElem? (i := 127) rfl
theorem m_cl_L_19 : Cond.classLink RL 19 "java/lang/IndexOutOfBoundsException" ∈ wsL_law := List.mem_of_getElem? (i := 128) rfl
theorem m_ml_L_15 : Cond.methodLink RL 15 yX6_spray ∈ wsL_law := List.mem_of_getElem? (i := 129) rfl
theorem m_im_X6_spray : Cond.instanceMethod yX6_spray ∈ wsL_law := List.mem_of_getElem? (i := 130) rfl
theorem m_se_X6_spray : Cond.selects RX6 yX6_spray yX6_spray ∈ wsL_law := List.mem_of_getElem? (i := 131) rfl
theorem m_co_X6_spray : Cond.code yX6_spray cX6_spray 3 (some .int) ∈ wsL_law := List.mem_of_getElem? (i := 132) rfl
theorem m_fl_X6_64 : Cond.fieldLink RX6 64 "IcePad" "minute" "I" ∈ wsL_law := List.mem_of_getElem? (i := 133) rfl
theorem m_fl_X6_67 : Cond.fieldLink RX6 67 "IcePad$Runway" "thirds" "[LIcePad$Third;" ∈ wsL_law := List.mem_of_getElem? (i := 134) rfl
theorem m_fl_X6_71 : Cond.fieldLink RX6 71 "IcePad$Third" "sprayedUpTo" "I" ∈ wsL_law := List.mem_of_getElem? (i := 135) rfl
theorem m_ml_X6_60 : Cond.methodLink RX6 60 yX6_requireIndex ∈ wsL_law := List.mem_of_getElem? (i := 136) rfl
theorem m_st_X6_requireIndex : Cond.static yX6_requireIndex ∈ wsL_law := List.mem_of_getElem? (i := 137) rfl
theorem m_co_X6_requireIndex : Cond.code yX6_requireIndex cX6_requireIndex 2 none ∈ wsL_law := List.mem_of_getElem? (i := 138) rfl
theorem m_cl_X6_211 : Cond.classLink RX6 211 "java/lang/IndexOutOfBoundsException" ∈ wsL_law := List.mem_of_getElem? (i := 139) rfl
theorem m_ini__java_lang_IndexOutOfBoundsException_ : Cond.initialized "java/lang/IndexOutOfBoundsException" ∈ wsL_law := List.mem_of_getElem? (i := 140) rfl
theorem m_ml_L_95 : Cond.methodLink RL 95 yX7_spray ∈ wsL_law := List.mem_of_getElem? (i := 141) rfl
theorem m_im_X7_spray : Cond.instanceMethod yX7_spray ∈ wsL_law := List.mem_of_getElem? (i := 142) rfl
theorem m_se_X7_spray : Cond.selects RX7 yX7_spray yX7_spray ∈ wsL_law := List.mem_of_getElem? (i := 143) rfl
theorem m_co_X7_spray : Cond.code yX7_spray cX7_spray 2 (some .int) ∈ wsL_law := List.mem_of_getElem? (i := 144) rfl
theorem m_fl_X7_100 : Cond.fieldLink RX7 100 "IcePadModel" "now" "I" ∈ wsL_law := List.mem_of_getElem? (i := 145) rfl
theorem m_ml_X7_96 : Cond.methodLink RX7 96 yX7_isThird ∈ wsL_law := List.mem_of_getElem? (i := 146) rfl
theorem m_st_X7_isThird : Cond.static yX7_isThird ∈ wsL_law := List.mem_of_getElem? (i := 147) rfl
theorem m_co_X7_isThird : Cond.code yX7_isThird cX7_isThird 1 (some .boolean) ∈ wsL_law := List.mem_of_getElem? (i := 148) rfl
theorem m_ml_L_96 : Cond.methodLink RL 96 yL_close ∈ wsL_law := List.mem_of_getElem? (i := 149) rfl
theorem m_st_L_close : Cond.static yL_close ∈ wsL_law := List.mem_of_getElem? (i := 150) rfl
theorem m_cw_L_close : Cond.codeWith yL_close cL_close 5 (some .int) [(0, 10, 13, 13)] ∈ wsL_law := List.mem_of_getElem? (i := 151) rfl
theorem m_ml_L_21 : Cond.methodLink RL 21 yX6_close ∈ wsL_law := List.mem_of_getElem? (i := 152) rfl
theorem m_im_X6_close : Cond.instanceMethod yX6_close ∈ wsL_law := List.mem_of_getElem? (i := 153) rfl
theorem m_se_X6_close : Cond.selects RX6 yX6_close yX6_close ∈ wsL_law := List.mem_of_getElem? (i := 154) rfl
theorem m_co_X6_close : Cond.code yX6_close cX6_close 3 (some .int) ∈ wsL_law := List.mem_of_getElem? (i := 155) rfl
theorem m_fl_X6_76 : Cond.fieldLink RX6 76 "IcePad$Runway" "closedUpTo" "I" ∈ wsL_law := List.mem_of_getElem? (i := 156) rfl
theorem m_fl_X6_79 : Cond.fieldLink RX6 79 "IcePad$Runway" "ploughs" "I" ∈ wsL_law := List.mem_of_getElem? (i := 157) rfl
theorem m_ml_L_99 : Cond.methodLink RL 99 yX7_close ∈ wsL_law := List.mem_of_getElem? (i := 158) rfl
theorem m_im_X7_close : Cond.instanceMethod yX7_close ∈ wsL_law := List.mem_of_getElem? (i := 159) rfl
theorem m_se_X7_close : Cond.selects RX7 yX7_close yX7_close ∈ wsL_law := List.mem_of_getElem? (i := 160) rfl
theorem m_co_X7_close : Cond.code yX7_close cX7_close 3 (some .int) ∈ wsL_law := List.mem_of_getElem? (i := 161) rfl
theorem m_fl_X7_103 : Cond.fieldLink RX7 103 "IcePadModel" "ploughs" "I" ∈ wsL_law := List.mem_of_getElem? (i := 162) rfl
theorem m_ml_L_100 : Cond.methodLink RL 100 yL_pilot ∈ wsL_law := List.mem_of_getElem? (i := 163) rfl
theorem m_st_L_pilot : Cond.static yL_pilot ∈ wsL_law := List.mem_of_getElem? (i := 164) rfl
theorem m_cw_L_pilot : Cond.codeWith yL_pilot cL_pilot 5 (some .int) [(0, 10, 13, 19), (0, 10, 17, 13)] ∈ wsL_law := List.mem_of_getElem? (i := 165) rfl
theorem m_ml_L_25 : Cond.methodLink RL 25 yX6_pilot ∈ wsL_law := List.mem_of_getElem? (i := 166) rfl
theorem m_im_X6_pilot : Cond.instanceMethod yX6_pilot ∈ wsL_law := List.mem_of_getElem? (i := 167) rfl
theorem m_se_X6_pilot : Cond.selects RX6 yX6_pilot yX6_pilot ∈ wsL_law := List.mem_of_getElem? (i := 168) rfl
theorem m_co_X6_pilot : Cond.code yX6_pilot cX6_pilot 4 (some .int) ∈ wsL_law := List.mem_of_getElem? (i := 169) rfl
theorem m_fl_X6_82 : Cond.fieldLink RX6 82 "IcePad$Third" "reportMinute" "I" ∈ wsL_law := List.mem_of_getElem? (i := 170) rfl
theorem m_fl_X6_85 : Cond.fieldLink RX6 85 "IcePad$Third" "reportCode" "I" ∈ wsL_law := List.mem_of_getElem? (i := 171) rfl
theorem m_ml_X6_88 : Cond.methodLink RX6 88 yX4_codeAt ∈ wsL_law := List.mem_of_getElem? (i := 172) rfl
theorem m_im_X4_codeAt : Cond.instanceMethod yX4_codeAt ∈ wsL_law := List.mem_of_getElem? (i := 173) rfl
theorem m_se_X4_codeAt : Cond.selects RX4 yX4_codeAt yX4_codeAt ∈ wsL_law := List.mem_of_getElem? (i := 174) rfl
theorem m_co_X4_codeAt : Cond.code yX4_codeAt cX4_codeAt 5 (some .int) ∈ wsL_law := List.mem_of_getElem? (i := 175) rfl
theorem m_fl_X4_33 : Cond.fieldLink RX4 33 "IcePad$Third" "reportCode" "I" ∈ wsL_law := List.mem_of_getElem? (i := 176) rfl
theorem m_ml_X4_29 : Cond.methodLink RX4 29 yX4_codeOfWhatLies ∈ wsL_law := List.mem_of_getElem? (i := 177) rfl
theorem m_im_X4_codeOfWhatLies : Cond.instanceMethod yX4_codeOfWhatLies ∈ wsL_law := List.mem_of_getElem? (i := 178) rfl
theorem m_se_X4_codeOfWhatLies : Cond.selects RX4 yX4_codeOfWhatLies yX4_codeOfWhatLies ∈ wsL_law := List.mem_of_getElem? (i := 179) rfl
theorem m_co_X4_codeOfWhatLies : Cond.code yX4_codeOfWhatLies cX4_codeOfWhatLies 3 (some .int) ∈ wsL_law := List.mem_of_getElem? (i := 180) rfl
theorem m_fl_X4_21 : Cond.fieldLink RX4 21 "IcePad$Weather" "temperature" "I" ∈ wsL_law := List.mem_of_getElem? (i := 181) rfl
theorem m_fl_X4_26 : Cond.fieldLink RX4 26 "IcePad$Third" "depth" "I" ∈ wsL_law := List.mem_of_getElem? (i := 182) rfl
theorem m_ml_L_102 : Cond.methodLink RL 102 yX7_pilot ∈ wsL_law := List.mem_of_getElem? (i := 183) rfl
theorem m_im_X7_pilot : Cond.instanceMethod yX7_pilot ∈ wsL_law := List.mem_of_getElem? (i := 184) rfl
theorem m_se_X7_pilot : Cond.selects RX7 yX7_pilot yX7_pilot ∈ wsL_law := List.mem_of_getElem? (i := 185) rfl
theorem m_co_X7_pilot : Cond.code yX7_pilot cX7_pilot 3 (some .int) ∈ wsL_law := List.mem_of_getElem? (i := 186) rfl
theorem m_ml_X7_110 : Cond.methodLink RX7 110 yX7_codeOf ∈ wsL_law := List.mem_of_getElem? (i := 187) rfl
theorem m_im_X7_codeOf : Cond.instanceMethod yX7_codeOf ∈ wsL_law := List.mem_of_getElem? (i := 188) rfl
theorem m_se_X7_codeOf : Cond.selects RX7 yX7_codeOf yX7_codeOf ∈ wsL_law := List.mem_of_getElem? (i := 189) rfl
theorem m_co_X7_codeOf : Cond.code yX7_codeOf cX7_codeOf 3 (some .int) ∈ wsL_law := List.mem_of_getElem? (i := 190) rfl
theorem m_ml_X7_106 : Cond.methodLink RX7 106 yX7_lies ∈ wsL_law := List.mem_of_getElem? (i := 191) rfl
theorem m_im_X7_lies : Cond.instanceMethod yX7_lies ∈ wsL_law := List.mem_of_getElem? (i := 192) rfl
theorem m_se_X7_lies : Cond.selects RX7 yX7_lies yX7_lies ∈ wsL_law := List.mem_of_getElem? (i := 193) rfl
theorem m_co_X7_lies : Cond.code yX7_lies cX7_lies 2 (some .int) ∈ wsL_law := List.mem_of_getElem? (i := 194) rfl
theorem m_ml_L_103 : Cond.methodLink RL 103 yL_supply ∈ wsL_law := List.mem_of_getElem? (i := 195) rfl
theorem m_st_L_supply : Cond.static yL_supply ∈ wsL_law := List.mem_of_getElem? (i := 196) rfl
theorem m_cw_L_supply : Cond.codeWith yL_supply cL_supply 5 (some .int) [(0, 10, 13, 19), (0, 10, 17, 13), (0, 10, 21, 31)] ∈ wsL_law := List.mem_of_getElem? (i := 197) rfl
theorem m_cl_L_31 : Cond.classLink RL 31 "java/lang/IllegalStateException" ∈ wsL_law := List.mem_of_getElem? (i := 198) rfl
theorem m_ml_L_28 : Cond.methodLink RL 28 yX6_supply ∈ wsL_law := List.mem_of_getElem? (i := 199) rfl
theorem m_im_X6_supply : Cond.instanceMethod yX6_supply ∈ wsL_law := List.mem_of_getElem? (i := 200) rfl
theorem m_se_X6_supply : Cond.selects RX6 yX6_supply yX6_supply ∈ wsL_law := List.mem_of_getElem? (i := 201) rfl
theorem m_co_X6_supply : Cond.code yX6_supply cX6_supply 3 (some .int) ∈ wsL_law := List.mem_of_getElem? (i := 202) rfl
theorem m_fl_X6_92 : Cond.fieldLink RX6 92 "IcePad$Fluids" "tanks" "[I" ∈ wsL_law := List.mem_of_getElem? (i := 203) rfl
theorem m_ld_X6_96 : Cond.constant RX6 96 (100000) ∈ wsL_law := List.mem_of_getElem? (i := 204) rfl
theorem m_fl_X6_101 : Cond.fieldLink RX6 101 "IcePad$Fluids" "supplied" "I" ∈ wsL_law := List.mem_of_getElem? (i := 205) rfl
theorem m_ml_X6_97 : Cond.methodLink RX6 97 yX6_requirePossible ∈ wsL_law := List.mem_of_getElem? (i := 206) rfl
theorem m_st_X6_requirePossible : Cond.static yX6_requirePossible ∈ wsL_law := List.mem_of_getElem? (i := 207) rfl
theorem m_co_X6_requirePossible : Cond.code yX6_requirePossible cX6_requirePossible 1 none ∈ wsL_law := List.mem_of_getElem? (i := 208) rfl
theorem m_cl_X6_274 : Cond.classLink RX6 274 "java/lang/IllegalStateException" ∈ wsL_law := List.mem_of_getElem? (i := 209) rfl
theorem m_ini__java_lang_IllegalStateException_ : Cond.initialized "java/lang/IllegalStateException" ∈ wsL_law := List.mem_of_getElem? (i := 210) rfl
theorem m_ml_L_105 : Cond.methodLink RL 105 yX7_supply ∈ wsL_law := List.mem_of_getElem? (i := 211) rfl
theorem m_im_X7_supply : Cond.instanceMethod yX7_supply ∈ wsL_law := List.mem_of_getElem? (i := 212) rfl
theorem m_se_X7_supply : Cond.selects RX7 yX7_supply yX7_supply ∈ wsL_law := List.mem_of_getElem? (i := 213) rfl
theorem m_co_X7_supply : Cond.code yX7_supply cX7_supply 3 (some .int) ∈ wsL_law := List.mem_of_getElem? (i := 214) rfl
theorem m_ld_X7_116 : Cond.constant RX7 116 (100000) ∈ wsL_law := List.mem_of_getElem? (i := 215) rfl
theorem m_fl_X7_117 : Cond.fieldLink RX7 117 "IcePadModel" "supplied" "I" ∈ wsL_law := List.mem_of_getElem? (i := 216) rfl
theorem m_ml_X7_113 : Cond.methodLink RX7 113 yX7_isFluid ∈ wsL_law := List.mem_of_getElem? (i := 217) rfl
theorem m_st_X7_isFluid : Cond.static yX7_isFluid ∈ wsL_law := List.mem_of_getElem? (i := 218) rfl
theorem m_co_X7_isFluid : Cond.code yX7_isFluid cX7_isFluid 1 (some .boolean) ∈ wsL_law := List.mem_of_getElem? (i := 219) rfl
theorem m_ml_L_106 : Cond.methodLink RL 106 yL_table ∈ wsL_law := List.mem_of_getElem? (i := 220) rfl
theorem m_st_L_table : Cond.static yL_table ∈ wsL_law := List.mem_of_getElem? (i := 221) rfl
theorem m_cw_L_table : Cond.codeWith yL_table cL_table 6 (some .int) [(0, 12, 15, 19), (0, 12, 19, 13)] ∈ wsL_law := List.mem_of_getElem? (i := 222) rfl
theorem m_ml_L_33 : Cond.methodLink RL 33 yX6_table ∈ wsL_law := List.mem_of_getElem? (i := 223) rfl
theorem m_im_X6_table : Cond.instanceMethod yX6_table ∈ wsL_law := List.mem_of_getElem? (i := 224) rfl
theorem m_se_X6_table : Cond.selects RX6 yX6_table yX6_table ∈ wsL_law := List.mem_of_getElem? (i := 225) rfl
theorem m_co_X6_table : Cond.code yX6_table cX6_table 5 (some .int) ∈ wsL_law := List.mem_of_getElem? (i := 226) rfl
theorem m_fl_X6_104 : Cond.fieldLink RX6 104 "IcePad$Fluids" "minutes" "[[I" ∈ wsL_law := List.mem_of_getElem? (i := 227) rfl
theorem m_ml_L_109 : Cond.methodLink RL 109 yX7_table ∈ wsL_law := List.mem_of_getElem? (i := 228) rfl
theorem m_im_X7_table : Cond.instanceMethod yX7_table ∈ wsL_law := List.mem_of_getElem? (i := 229) rfl
theorem m_se_X7_table : Cond.selects RX7 yX7_table yX7_table ∈ wsL_law := List.mem_of_getElem? (i := 230) rfl
theorem m_co_X7_table : Cond.code yX7_table cX7_table 5 (some .int) ∈ wsL_law := List.mem_of_getElem? (i := 231) rfl
theorem m_ml_L_110 : Cond.methodLink RL 110 yL_aircraft ∈ wsL_law := List.mem_of_getElem? (i := 232) rfl
theorem m_st_L_aircraft : Cond.static yL_aircraft ∈ wsL_law := List.mem_of_getElem? (i := 233) rfl
theorem m_cw_L_aircraft : Cond.codeWith yL_aircraft cL_aircraft 6 (some .int) [(0, 12, 15, 13), (0, 12, 19, 31)] ∈ wsL_law := List.mem_of_getElem? (i := 234) rfl
theorem m_ml_L_37 : Cond.methodLink RL 37 yX6_aircraft ∈ wsL_law := List.mem_of_getElem? (i := 235) rfl
theorem m_im_X6_aircraft : Cond.instanceMethod yX6_aircraft ∈ wsL_law := List.mem_of_getElem? (i := 236) rfl
theorem m_se_X6_aircraft : Cond.selects RX6 yX6_aircraft yX6_aircraft ∈ wsL_law := List.mem_of_getElem? (i := 237) rfl
theorem m_co_X6_aircraft : Cond.code yX6_aircraft cX6_aircraft 5 (some .int) ∈ wsL_law := List.mem_of_getElem? (i := 238) rfl
theorem m_fl_X6_108 : Cond.fieldLink RX6 108 "IcePad" "fleetSize" "I" ∈ wsL_law := List.mem_of_getElem? (i := 239) rfl
theorem m_ib_X0 12 : Cond.instantiable RX0 12 ∈ wsL_law := List.mem_of_getElem? (i := 240) rfl
theorem m_ini_X0 : Cond.initialized RX0 ∈ wsL_law := List.mem_of_getElem? (i := 241) rfl
theorem m_ml_X6_111 : Cond.methodLink RX6 111 yX0_init ∈ wsL_law := List.mem_of_getElem? (i := 242) rfl
theorem m_im_X0_init : Cond.instanceMethod yX0_init ∈ wsL_law := List.mem_of_getElem? (i := 243) rfl
theorem m_co_X0_init : Cond.code yX0_init cX0_init 4 none ∈ wsL_law := List.mem_of_getElem? (i := 244) rfl
theorem m_ml_X0_3 : Cond.methodLink RX0 3 objectInit ∈ wsL_law := List.mem_of_getElem? (i := 245) rfl
theorem m_fl_X0_9 : Cond.fieldLink RX0 9 "IcePad$Aircraft" "state" "I" ∈ wsL_law := List.mem_of_getElem? (i := 246) rfl
theorem m_fl_X0_15 : Cond.fieldLink RX0 15 "IcePad$Aircraft" "leftMinute" "I" ∈ wsL_law := List.mem_of_getElem? (i := 247) rfl
theorem m_fl_X0_18 : Cond.fieldLink RX0 18 "IcePad$Aircraft" "span" "I" ∈ wsL_law := List.mem_of_getElem? (i := 248) rfl
theorem m_fl_X0_21 : Cond.fieldLink RX0 21 "IcePad$Aircraft" "slot" "I" ∈ wsL_law := List.mem_of_getElem? (i := 249) rfl
theorem m_fl_X0_24 : Cond.fieldLink RX0 24 "IcePad$Aircraft" "duty" "I" ∈ wsL_law := List.mem_of_getElem? (i := 250) rfl
theorem m_ml_L_112 : Cond.methodLink RL 112 yX7_aircraft ∈ wsL_law := List.mem_of_getElem? (i := 251) rfl
theorem m_im_X7_aircraft : Cond.instanceMethod yX7_aircraft ∈ wsL_law := List.mem_of_getElem? (i := 252) rfl
theorem m_se_X7_aircraft : Cond.selects RX7 yX7_aircraft yX7_aircraft ∈ wsL_law := List.mem_of_getElem? (i := 253) rfl
theorem m_co_X7_aircraft : Cond.code yX7_aircraft cX7_aircraft 4 (some .int) ∈ wsL_law := List.mem_of_getElem? (i := 254) rfl
theorem m_fl_X7_81 : Cond.fieldLink RX7 81 "IcePadModel" "many" "I" ∈ wsL_law := List.mem_of_getElem? (i := 255) rfl
theorem m_ml_L_113 : Cond.methodLink RL 113 yL_treat ∈ wsL_law := List.mem_of_getElem? (i := 256) rfl
theorem m_st_L_treat : Cond.static yL_treat ∈ wsL_law := List.mem_of_getElem? (i := 257) rfl
theorem m_cw_L_treat : Cond.codeWith yL_treat cL_treat 8 (some .int) [(0, 16, 19, 19), (0, 16, 23, 13), (0, 16, 27, 31)] ∈ wsL_law := List.mem_of_getElem? (i := 258) rfl
theorem m_ml_L_40 : Cond.methodLink RL 40 yX6_treat ∈ wsL_law := List.mem_of_getElem? (i := 259) rfl
theorem m_im_X6_treat : Cond.instanceMethod yX6_treat ∈ wsL_law := List.mem_of_getElem? (i := 260) rfl
theorem m_se_X6_treat : Cond.selects RX6 yX6_treat yX6_treat ∈ wsL_law := List.mem_of_getElem? (i := 261) rfl
theorem m_co_X6_treat : Cond.code yX6_treat cX6_treat 7 (some .int) ∈ wsL_law := List.mem_of_getElem? (i := 262) rfl
theorem m_fl_X6_113 : Cond.fieldLink RX6 113 "IcePad" "PAD_SPANS" "[I" ∈ wsL_law := List.mem_of_getElem? (i := 263) rfl
theorem m_fl_X6_120 : Cond.fieldLink RX6 120 "IcePad$Aircraft" "state" "I" ∈ wsL_law := List.mem_of_getElem? (i := 264) rfl
theorem m_fl_X6_127 : Cond.fieldLink RX6 127 "IcePad$Aircraft" "span" "I" ∈ wsL_law := List.mem_of_getElem? (i := 265) rfl
theorem m_fl_X6_130 : Cond.fieldLink RX6 130 "IcePad$Basin" "litres" "I" ∈ wsL_law := List.mem_of_getElem? (i := 266) rfl
theorem m_fl_X6_137 : Cond.fieldLink RX6 137 "IcePad$Aircraft" "fluid" "I" ∈ wsL_law := List.mem_of_getElem? (i := 267) rfl
theorem m_fl_X6_140 : Cond.fieldLink RX6 140 "IcePad$Aircraft" "strength" "I" ∈ wsL_law := List.mem_of_getElem? (i := 268) rfl
theorem m_fl_X6_143 : Cond.fieldLink RX6 143 "IcePad$Aircraft" "cleanMinute" "I" ∈ wsL_law := List.mem_of_getElem? (i := 269) rfl
theorem m_ml_X6_116 : Cond.methodLink RX6 116 yX6_requireStrength ∈ wsL_law := List.mem_of_getElem? (i := 270) rfl
theorem m_st_X6_requireStrength : Cond.static yX6_requireStrength ∈ wsL_law := List.mem_of_getElem? (i := 271) rfl
theorem m_co_X6_requireStrength : Cond.code yX6_requireStrength cX6_requireStrength 1 none ∈ wsL_law := List.mem_of_getElem? (i := 272) rfl
theorem m_ml_X6_123 : Cond.methodLink RX6 123 yX6_padIsFree ∈ wsL_law := List.mem_of_getElem? (i := 273) rfl
theorem m_im_X6_padIsFree : Cond.instanceMethod yX6_padIsFree ∈ wsL_law := List.mem_of_getElem? (i := 274) rfl
theorem m_se_X6_padIsFree : Cond.selects RX6 yX6_padIsFree yX6_padIsFree ∈ wsL_law := List.mem_of_getElem? (i := 275) rfl
theorem m_co_X6_padIsFree : Cond.code yX6_padIsFree cX6_padIsFree 3 (some .boolean) ∈ wsL_law := List.mem_of_getElem? (i := 276) rfl
theorem m_fl_X6_195 : Cond.fieldLink RX6 195 "IcePad$Aircraft" "pad" "I" ∈ wsL_law := List.mem_of_getElem? (i := 277) rfl
theorem m_ml_X6_133 : Cond.methodLink RX6 133 yX0_beginTreatment ∈ wsL_law := List.mem_of_getElem? (i := 278) rfl
theorem m_im_X0_beginTreatment : Cond.instanceMethod yX0_beginTreatment ∈ wsL_law := List.mem_of_getElem? (i := 279) rfl
theorem m_se_X0_beginTreatment : Cond.selects RX0 yX0_beginTreatment yX0_beginTreatment ∈ wsL_law := List.mem_of_getElem? (i := 280) rfl
theorem m_co_X0_beginTreatment : Cond.code yX0_beginTreatment cX0_beginTreatment 5 (some .int) ∈ wsL_law := List.mem_of_getElem? (i := 281) rfl
theorem m_fl_X0_27 : Cond.fieldLink RX0 27 "IcePad$Aircraft" "pad" "I" ∈ wsL_law := List.mem_of_getElem? (i := 282) rfl
theorem m_fl_X0_30 : Cond.fieldLink RX0 30 "IcePad$Aircraft" "treatments" "I" ∈ wsL_law := List.mem_of_getElem? (i := 283) rfl
theorem m_fl_X0_33 : Cond.fieldLink RX0 33 "IcePad$Aircraft" "litresOn" "I" ∈ wsL_law := List.mem_of_getElem? (i := 284) rfl
theorem m_fl_X0_36 : Cond.fieldLink RX0 36 "IcePad$Aircraft" "clockBegan" "I" ∈ wsL_law := List.mem_of_getElem? (i := 285) rfl
theorem m_fl_X0_39 : Cond.fieldLink RX0 39 "IcePad$Aircraft" "cleanMinute" "I" ∈ wsL_law := List.mem_of_getElem? (i := 286) rfl
theorem m_ml_L_116 : Cond.methodLink RL 116 yX7_treat ∈ wsL_law := List.mem_of_getElem? (i := 287) rfl
theorem m_im_X7_treat : Cond.instanceMethod yX7_treat ∈ wsL_law := List.mem_of_getElem? (i := 288) rfl
theorem m_se_X7_treat : Cond.selects RX7 yX7_treat yX7_treat ∈ wsL_law := List.mem_of_getElem? (i := 289) rfl
theorem m_co_X7_treat : Cond.code yX7_treat cX7_treat 7 (some .int) ∈ wsL_law := List.mem_of_getElem? (i := 290) rfl
theorem m_fl_X7_126 : Cond.fieldLink RX7 126 "IcePadModel" "basin" "I" ∈ wsL_law := List.mem_of_getElem? (i := 291) rfl
theorem m_ml_X7_120 : Cond.methodLink RX7 120 yX7_isAircraft ∈ wsL_law := List.mem_of_getElem? (i := 292) rfl
theorem m_im_X7_isAircraft : Cond.instanceMethod yX7_isAircraft ∈ wsL_law := List.mem_of_getElem? (i := 293) rfl
theorem m_se_X7_isAircraft : Cond.selects RX7 yX7_isAircraft yX7_isAircraft ∈ wsL_law := List.mem_of_getElem? (i := 294) rfl
theorem m_co_X7_isAircraft : Cond.code yX7_isAircraft cX7_isAircraft 2 (some .boolean) ∈ wsL_law := List.mem_of_getElem? (i := 295) rfl
theorem m_ml_X7_123 : Cond.methodLink RX7 123 yX7_isFree ∈ wsL_law := List.mem_of_getElem? (i := 296) rfl
theorem m_im_X7_isFree : Cond.instanceMethod yX7_isFree ∈ wsL_law := List.mem_of_getElem? (i := 297) rfl
theorem m_se_X7_isFree : Cond.selects RX7 yX7_isFree yX7_isFree ∈ wsL_law := List.mem_of_getElem? (i := 298) rfl
theorem m_co_X7_isFree : Cond.code yX7_isFree cX7_isFree 4 (some .boolean) ∈ wsL_law := List.mem_of_getElem? (i := 299) rfl
theorem m_ml_L_117 : Cond.methodLink RL 117 yL_cancel ∈ wsL_law := List.mem_of_getElem? (i := 300) rfl
theorem m_st_L_cancel : Cond.static yL_cancel ∈ wsL_law := List.mem_of_getElem? (i := 301) rfl
theorem m_cw_L_cancel : Cond.codeWith yL_cancel cL_cancel 4 (some .int) [(0, 9, 12, 19), (0, 9, 15, 31)] ∈ wsL_law := List.mem_of_getElem? (i := 302) rfl
theorem m_ml_L_44 : Cond.methodLink RL 44 yX6_cancel ∈ wsL_law := List.mem_of_getElem? (i := 303) rfl
theorem m_im_X6_cancel : Cond.instanceMethod yX6_cancel ∈ wsL_law := List.mem_of_getElem? (i := 304) rfl
theorem m_se_X6_cancel : Cond.selects RX6 yX6_cancel yX6_cancel ∈ wsL_law := List.mem_of_getElem? (i := 305) rfl
theorem m_co_X6_cancel : Cond.code yX6_cancel cX6_cancel 4 (some .int) ∈ wsL_law := List.mem_of_getElem? (i := 306) rfl
theorem m_ml_X6_146 : Cond.methodLink RX6 146 yX0_isOver ∈ wsL_law := List.mem_of_getElem? (i := 307) rfl
theorem m_im_X0_isOver : Cond.instanceMethod yX0_isOver ∈ wsL_law := List.mem_of_getElem? (i := 308) rfl
theorem m_se_X0_isOver : Cond.selects RX0 yX0_isOver yX0_isOver ∈ wsL_law := List.mem_of_getElem? (i := 309) rfl
theorem m_co_X0_isOver : Cond.code yX0_isOver cX0_isOver 1 (some .boolean) ∈ wsL_law := List.mem_of_getElem? (i := 310) rfl
theorem m_ml_L_119 : Cond.methodLink RL 119 yX7_cancel ∈ wsL_law := List.mem_of_getElem? (i := 311) rfl
theorem m_im_X7_cancel : Cond.instanceMethod yX7_cancel ∈ wsL_law := List.mem_of_getElem? (i := 312) rfl
theorem m_se_X7_cancel : Cond.selects RX7 yX7_cancel yX7_cancel ∈ wsL_law := List.mem_of_getElem? (i := 313) rfl
theorem m_co_X7_cancel : Cond.code yX7_cancel cX7_cancel 3 (some .int) ∈ wsL_law := List.mem_of_getElem? (i := 314) rfl
theorem m_ml_X7_129 : Cond.methodLink RX7 129 yX7_cancels ∈ wsL_law := List.mem_of_getElem? (i := 315) rfl
theorem m_im_X7_cancels : Cond.instanceMethod yX7_cancels ∈ wsL_law := List.mem_of_getElem? (i := 316) rfl
theorem m_se_X7_cancels : Cond.selects RX7 yX7_cancels yX7_cancels ∈ wsL_law := List.mem_of_getElem? (i := 317) rfl
theorem m_co_X7_cancels : Cond.code yX7_cancels cX7_cancels 2 none ∈ wsL_law := List.mem_of_getElem? (i := 318) rfl
theorem m_ml_L_120 : Cond.methodLink RL 120 yL_permit ∈ wsL_law := List.mem_of_getElem? (i := 319) rfl
theorem m_st_L_permit : Cond.static yL_permit ∈ wsL_law := List.mem_of_getElem? (i := 320) rfl
theorem m_cw_L_permit : Cond.codeWith yL_permit cL_permit 4 (some .int) [(0, 9, 12, 13)] ∈ wsL_law := List.mem_of_getElem? (i := 321) rfl
theorem m_ml_L_47 : Cond.methodLink RL 47 yX6_permit ∈ wsL_law := List.mem_of_getElem? (i := 322) rfl
theorem m_im_X6_permit : Cond.instanceMethod yX6_permit ∈ wsL_law := List.mem_of_getElem? (i := 323) rfl
theorem m_se_X6_permit : Cond.selects RX6 yX6_permit yX6_permit ∈ wsL_law := List.mem_of_getElem? (i := 324) rfl
theorem m_co_X6_permit : Cond.code yX6_permit cX6_permit 3 (some .int) ∈ wsL_law := List.mem_of_getElem? (i := 325) rfl
theorem m_fl_X6_150 : Cond.fieldLink RX6 150 "IcePad$Basin" "permitADay" "I" ∈ wsL_law := List.mem_of_getElem? (i := 326) rfl
theorem m_ml_L_122 : Cond.methodLink RL 122 yX7_permit ∈ wsL_law := List.mem_of_getElem? (i := 327) rfl
theorem m_im_X7_permit : Cond.instanceMethod yX7_permit ∈ wsL_law := List.mem_of_getElem? (i := 328) rfl
theorem m_se_X7_permit : Cond.selects RX7 yX7_permit yX7_permit ∈ wsL_law := List.mem_of_getElem? (i := 329) rfl
theorem m_co_X7_permit : Cond.code yX7_permit cX7_permit 3 (some .int) ∈ wsL_law := List.mem_of_getElem? (i := 330) rfl
theorem m_ml_L_123 : Cond.methodLink RL 123 yL_release ∈ wsL_law := List.mem_of_getElem? (i := 331) rfl
theorem m_st_L_release : Cond.static yL_release ∈ wsL_law := List.mem_of_getElem? (i := 332) rfl
theorem m_cw_L_release : Cond.codeWith yL_release cL_release 4 (some .int) [(0, 9, 12, 13), (0, 9, 15, 31)] ∈ wsL_law := List.mem_of_getElem? (i := 333) rfl
theorem m_ml_L_50 : Cond.methodLink RL 50 yX6_release ∈ wsL_law := List.mem_of_getElem? (i := 334) rfl
theorem m_im_X6_release : Cond.instanceMethod yX6_release ∈ wsL_law := List.mem_of_getElem? (i := 335) rfl
theorem m_se_X6_release : Cond.selects RX6 yX6_release yX6_release ∈ wsL_law := List.mem_of_getElem? (i := 336) rfl
theorem m_co_X6_release : Cond.code yX6_release cX6_release 4 (some .int) ∈ wsL_law := List.mem_of_getElem? (i := 337) rfl
theorem m_fl_X6_157 : Cond.fieldLink RX6 157 "IcePad$Basin" "river" "I" ∈ wsL_law := List.mem_of_getElem? (i := 338) rfl
theorem m_fl_X6_160 : Cond.fieldLink RX6 160 "IcePad$Basin" "riverDay" "I" ∈ wsL_law := List.mem_of_getElem? (i := 339) rfl
theorem m_fl_X6_163 : Cond.fieldLink RX6 163 "IcePad$Basin" "riverThatDay" "I" ∈ wsL_law := List.mem_of_getElem? (i := 340) rfl
theorem m_ml_X6_153 : Cond.methodLink RX6 153 yX1_riverOn ∈ wsL_law := List.mem_of_getElem? (i := 341) rfl
theorem m_im_X1_riverOn : Cond.instanceMethod yX1_riverOn ∈ wsL_law := List.mem_of_getElem? (i := 342) rfl
theorem m_se_X1_riverOn : Cond.selects RX1 yX1_riverOn yX1_riverOn ∈ wsL_law := List.mem_of_getElem? (i := 343) rfl
theorem m_co_X1_riverOn : Cond.code yX1_riverOn cX1_riverOn 2 (some .int) ∈ wsL_law := List.mem_of_getElem? (i := 344) rfl
theorem m_fl_X1_15 : Cond.fieldLink RX1 15 "IcePad$Basin" "riverDay" "I" ∈ wsL_law := List.mem_of_getElem? (i := 345) rfl
theorem m_fl_X1_18 : Cond.fieldLink RX1 18 "IcePad$Basin" "riverThatDay" "I" ∈ wsL_law := List.mem_of_getElem? (i := 346) rfl
theorem m_ml_L_125 : Cond.methodLink RL 125 yX7_release ∈ wsL_law := List.mem_of_getElem? (i := 347) rfl
theorem m_im_X7_release : Cond.instanceMethod yX7_release ∈ wsL_law := List.mem_of_getElem? (i := 348) rfl
theorem m_se_X7_release : Cond.selects RX7 yX7_release yX7_release ∈ wsL_law := List.mem_of_getElem? (i := 349) rfl
theorem m_co_X7_release : Cond.code yX7_release cX7_release 2 (some .int) ∈ wsL_law := List.mem_of_getElem? (i := 350) rfl
theorem m_fl_X7_133 : Cond.fieldLink RX7 133 "IcePadModel" "releasedToday" "I" ∈ wsL_law := List.mem_of_getElem? (i := 351) rfl
theorem m_fl_X7_136 : Cond.fieldLink RX7 136 "IcePadModel" "released" "I" ∈ wsL_law := List.mem_of_getElem? (i := 352) rfl
theorem m_ml_L_126 : Cond.methodLink RL 126 yL_pass ∈ wsL_law := List.mem_of_getElem? (i := 353) rfl
theorem m_st_L_pass : Cond.static yL_pass ∈ wsL_law := List.mem_of_getElem? (i := 354) rfl
theorem m_cw_L_pass : Cond.codeWith yL_pass cL_pass 4 (some .int) [(0, 9, 12, 13)] ∈ wsL_law := List.mem_of_getElem? (i := 355) rfl
theorem m_ml_L_53 : Cond.methodLink RL 53 yX6_pass ∈ wsL_law := List.mem_of_getElem? (i := 356) rfl
theorem m_im_X6_pass : Cond.instanceMethod yX6_pass ∈ wsL_law := List.mem_of_getElem? (i := 357) rfl
theorem m_se_X6_pass : Cond.selects RX6 yX6_pass yX6_pass ∈ wsL_law := List.mem_of_getElem? (i := 358) rfl
theorem m_co_X6_pass : Cond.code yX6_pass cX6_pass 3 (some .int) ∈ wsL_law := List.mem_of_getElem? (i := 359) rfl
theorem m_ml_X6_166 : Cond.methodLink RX6 166 yX6_liveMinute ∈ wsL_law := List.mem_of_getElem? (i := 360) rfl
theorem m_im_X6_liveMinute : Cond.instanceMethod yX6_liveMinute ∈ wsL_law := List.mem_of_getElem? (i := 361) rfl
theorem m_se_X6_liveMinute : Cond.selects RX6 yX6_liveMinute yX6_liveMinute ∈ wsL_law := List.mem_of_getElem? (i := 362) rfl
theorem m_co_X6_liveMinute : Cond.code yX6_liveMinute cX6_liveMinute 1 none ∈ wsL_law := List.mem_of_getElem? (i := 363) rfl
theorem m_ml_X6_234 : Cond.methodLink RX6 234 yX3_liveMinute ∈ wsL_law := List.mem_of_getElem? (i := 364) rfl
theorem m_im_X3_liveMinute : Cond.instanceMethod yX3_liveMinute ∈ wsL_law := List.mem_of_getElem? (i := 365) rfl
theorem m_se_X3_liveMinute : Cond.selects RX3 yX3_liveMinute yX3_liveMinute ∈ wsL_law := List.mem_of_getElem? (i := 366) rfl
theorem m_co_X3_liveMinute : Cond.code yX3_liveMinute cX3_liveMinute 4 none ∈ wsL_law := List.mem_of_getElem? (i := 367) rfl
theorem m_ml_X3_40 : Cond.methodLink RX3 40 yX4_liveMinute ∈ wsL_law := List.mem_of_getElem? (i := 368) rfl
theorem m_im_X4_liveMinute : Cond.instanceMethod yX4_liveMinute ∈ wsL_law := List.mem_of_getElem? (i := 369) rfl
theorem m_se_X4_liveMinute : Cond.selects RX4 yX4_liveMinute yX4_liveMinute ∈ wsL_law := List.mem_of_getElem? (i := 370) rfl
theorem m_co_X4_liveMinute : Cond.code yX4_liveMinute cX4_liveMinute 4 none ∈ wsL_law := List.mem_of_getElem? (i := 371) rfl
theorem m_fl_X4_40 : Cond.fieldLink RX4 40 "IcePad$Weather" "fall" "I" ∈ wsL_law := List.mem_of_getElem? (i := 372) rfl
theorem m_fl_X4_43 : Cond.fieldLink RX4 43 "IcePad$Weather" "rate" "I" ∈ wsL_law := List.mem_of_getElem? (i := 373) rfl
theorem m_ml_X4_36 : Cond.methodLink RX4 36 yX4_isSprayedAt ∈ wsL_law := List.mem_of_getElem? (i := 374) rfl
theorem m_im_X4_isSprayedAt : Cond.instanceMethod yX4_isSprayedAt ∈ wsL_law := List.mem_of_getElem? (i := 375) rfl
theorem m_se_X4_isSprayedAt : Cond.selects RX4 yX4_isSprayedAt yX4_isSprayedAt ∈ wsL_law := List.mem_of_getElem? (i := 376) rfl
theorem m_co_X4_isSprayedAt : Cond.code yX4_isSprayedAt cX4_isSprayedAt 2 (some .boolean) ∈ wsL_law := List.mem_of_getElem? (i := 377) rfl
theorem m_ml_X4_46 : Cond.methodLink RX4 46 yX4_snowOn ∈ wsL_law := List.mem_of_getElem? (i := 378) rfl
theorem m_im_X4_snowOn : Cond.instanceMethod yX4_snowOn ∈ wsL_law := List.mem_of_getElem? (i := 379) rfl
theorem m_se_X4_snowOn : Cond.selects RX4 yX4_snowOn yX4_snowOn ∈ wsL_law := List.mem_of_getElem? (i := 380) rfl
theorem m_co_X4_snowOn : Cond.code yX4_snowOn cX4_snowOn 2 none ∈ wsL_law := List.mem_of_getElem? (i := 381) rfl
theorem m_ml_X4_60 : Cond.methodLink RX4 60 yX4_addDepth ∈ wsL_law := List.mem_of_getElem? (i := 382) rfl
theorem m_im_X4_addDepth : Cond.instanceMethod yX4_addDepth ∈ wsL_law := List.mem_of_getElem? (i := 383) rfl
theorem m_se_X4_addDepth : Cond.selects RX4 yX4_addDepth yX4_addDepth ∈ wsL_law := List.mem_of_getElem? (i := 384) rfl
theorem m_co_X4_addDepth : Cond.code yX4_addDepth cX4_addDepth 2 none ∈ wsL_law := List.mem_of_getElem? (i := 385) rfl
theorem m_ml_X4_63 : Cond.methodLink RX4 63 Lib.Math.min.name ∈ wsL_law := List.mem_of_getElem? (i := 386) rfl
theorem m_st_Lib_Math_min_name : Cond.static Lib.Math.min.name ∈ wsL_law := List.mem_of_getElem? (i := 387) rfl
theorem m_co_Lib_Math_min_name : Cond.code Lib.Math.min.name Lib.Math.min.code 2 (some .int) ∈ wsL_law := List.mem_of_getElem? (i := 388) rfl
theorem m_ml_X4_50 : Cond.methodLink RX4 50 yX4_rainOn ∈ wsL_law := List.mem_of_getElem? (i := 389) rfl
theorem m_im_X4_rainOn : Cond.instanceMethod yX4_rainOn ∈ wsL_law := List.mem_of_getElem? (i := 390) rfl
theorem m_se_X4_rainOn : Cond.selects RX4 yX4_rainOn yX4_rainOn ∈ wsL_law := List.mem_of_getElem? (i := 391) rfl
theorem m_co_X4_rainOn : Cond.code yX4_rainOn cX4_rainOn 3 none ∈ wsL_law := List.mem_of_getElem? (i := 392) rfl
theorem m_ml_X4_54 : Cond.methodLink RX4 54 yX4_iceOver ∈ wsL_law := List.mem_of_getElem? (i := 393) rfl
theorem m_im_X4_iceOver : Cond.instanceMethod yX4_iceOver ∈ wsL_law := List.mem_of_getElem? (i := 394) rfl
theorem m_se_X4_iceOver : Cond.selects RX4 yX4_iceOver yX4_iceOver ∈ wsL_law := List.mem_of_getElem? (i := 395) rfl
theorem m_co_X4_iceOver : Cond.code yX4_iceOver cX4_iceOver 1 none ∈ wsL_law := List.mem_of_getElem? (i := 396) rfl
theorem m_ml_X4_57 : Cond.methodLink RX4 57 yX4_melt ∈ wsL_law := List.mem_of_getElem? (i := 397) rfl
theorem m_im_X4_melt : Cond.instanceMethod yX4_melt ∈ wsL_law := List.mem_of_getElem? (i := 398) rfl
theorem m_se_X4_melt : Cond.selects RX4 yX4_melt yX4_melt ∈ wsL_law := List.mem_of_getElem? (i := 399) rfl
theorem m_co_X4_melt : Cond.code yX4_melt cX4_melt 1 none ∈ wsL_law := List.mem_of_getElem? (i := 400) rfl
theorem m_ml_X3_32 : Cond.methodLink RX3 32 yX3_isClosedAt ∈ wsL_law := List.mem_of_getElem? (i := 401) rfl
theorem m_im_X3_isClosedAt : Cond.instanceMethod yX3_isClosedAt ∈ wsL_law := List.mem_of_getElem? (i := 402) rfl
theorem m_se_X3_isClosedAt : Cond.selects RX3 yX3_isClosedAt yX3_isClosedAt ∈ wsL_law := List.mem_of_getElem? (i := 403) rfl
theorem m_co_X3_isClosedAt : Cond.code yX3_isClosedAt cX3_isClosedAt 2 (some .boolean) ∈ wsL_law := List.mem_of_getElem? (i := 404) rfl
theorem m_ml_X3_44 : Cond.methodLink RX3 44 yX3_plough ∈ wsL_law := List.mem_of_getElem? (i := 405) rfl
theorem m_im_X3_plough : Cond.instanceMethod yX3_plough ∈ wsL_law := List.mem_of_getElem? (i := 406) rfl
theorem m_se_X3_plough : Cond.selects RX3 yX3_plough yX3_plough ∈ wsL_law := List.mem_of_getElem? (i := 407) rfl
theorem m_co_X3_plough : Cond.code yX3_plough cX3_plough 4 none ∈ wsL_law := List.mem_of_getElem? (i := 408) rfl
theorem m_fl_X3_47 : Cond.fieldLink RX3 47 "IcePad$Runway" "ploughs" "I" ∈ wsL_law := List.mem_of_getElem? (i := 409) rfl
theorem m_fl_X3_54 : Cond.fieldLink RX3 54 "IcePad$Runway" "heap" "I" ∈ wsL_law := List.mem_of_getElem? (i := 410) rfl
theorem m_ml_X3_50 : Cond.methodLink RX3 50 yX4_ploughUpTo ∈ wsL_law := List.mem_of_getElem? (i := 411) rfl
theorem m_im_X4_ploughUpTo : Cond.instanceMethod yX4_ploughUpTo ∈ wsL_law := List.mem_of_getElem? (i := 412) rfl
theorem m_se_X4_ploughUpTo : Cond.selects RX4 yX4_ploughUpTo yX4_ploughUpTo ∈ wsL_law := List.mem_of_getElem? (i := 413) rfl
theorem m_co_X4_ploughUpTo : Cond.code yX4_ploughUpTo cX4_ploughUpTo 3 (some .int) ∈ wsL_law := List.mem_of_getElem? (i := 414) rfl
theorem m_ml_X3_57 : Cond.methodLink RX3 57 yX4_wetIfBare ∈ wsL_law := List.mem_of_getElem? (i := 415) rfl
theorem m_im_X4_wetIfBare : Cond.instanceMethod yX4_wetIfBare ∈ wsL_law := List.mem_of_getElem? (i := 416) rfl
theorem m_se_X4_wetIfBare : Cond.selects RX4 yX4_wetIfBare yX4_wetIfBare ∈ wsL_law := List.mem_of_getElem? (i := 417) rfl
theorem m_co_X4_wetIfBare : Cond.code yX4_wetIfBare cX4_wetIfBare 1 none ∈ wsL_law := List.mem_of_getElem? (i := 418) rfl
theorem m_ml_X6_237 : Cond.methodLink RX6 237 yX6_endTreatments ∈ wsL_law := List.mem_of_getElem? (i := 419) rfl
theorem m_im_X6_endTreatments : Cond.instanceMethod yX6_endTreatments ∈ wsL_law := List.mem_of_getElem? (i := 420) rfl
theorem m_se_X6_endTreatments : Cond.selects RX6 yX6_endTreatments yX6_endTreatments ∈ wsL_law := List.mem_of_getElem? (i := 421) rfl
theorem m_co_X6_endTreatments : Cond.code yX6_endTreatments cX6_endTreatments 2 none ∈ wsL_law := List.mem_of_getElem? (i := 422) rfl
theorem m_ml_X6_240 : Cond.methodLink RX6 240 yX1_cleanMinute ∈ wsL_law := List.mem_of_getElem? (i := 423) rfl
theorem m_im_X1_cleanMinute : Cond.instanceMethod yX1_cleanMinute ∈ wsL_law := List.mem_of_getElem? (i := 424) rfl
theorem m_se_X1_cleanMinute : Cond.selects RX1 yX1_cleanMinute yX1_cleanMinute ∈ wsL_law := List.mem_of_getElem? (i := 425) rfl
theorem m_co_X1_cleanMinute : Cond.code yX1_cleanMinute cX1_cleanMinute 2 none ∈ wsL_law := List.mem_of_getElem? (i := 426) rfl
theorem m_fl_X1_21 : Cond.fieldLink RX1 21 "IcePad$Basin" "litres" "I" ∈ wsL_law := List.mem_of_getElem? (i := 427) rfl
theorem m_ml_X1_24 : Cond.methodLink RX1 24 Lib.Math.min.name ∈ wsL_law := List.mem_of_getElem? (i := 428) rfl
theorem m_fl_X1_30 : Cond.fieldLink RX1 30 "IcePad$Basin" "cleaned" "I" ∈ wsL_law := List.mem_of_getElem? (i := 429) rfl
theorem m_ml_X6_242 : Cond.methodLink RX6 242 yX6_cancelBehindDuty ∈ wsL_law := List.mem_of_getElem? (i := 430) rfl
theorem m_im_X6_cancelBehindDuty : Cond.instanceMethod yX6_cancelBehindDuty ∈ wsL_law := List.mem_of_getElem? (i := 431) rfl
theorem m_se_X6_cancelBehindDuty : Cond.selects RX6 yX6_cancelBehindDuty yX6_cancelBehindDuty ∈ wsL_law := List.mem_of_getElem? (i := 432) rfl
theorem m_co_X6_cancelBehindDuty : Cond.code yX6_cancelBehindDuty cX6_cancelBehindDuty 2 none ∈ wsL_law := List.mem_of_getElem? (i := 433) rfl
theorem m_fl_X6_251 : Cond.fieldLink RX6 251 "IcePad$Aircraft" "duty" "I" ∈ wsL_law := List.mem_of_getElem? (i := 434) rfl
theorem m_ml_X6_245 : Cond.methodLink RX6 245 yX6_sendBackWithoutClock ∈ wsL_law := List.mem_of_getElem? (i := 435) rfl
theorem m_im_X6_sendBackWithoutClock : Cond.instanceMethod yX6_sendBackWithoutClock ∈ wsL_law := List.mem_of_getElem? (i := 436) rfl
theorem m_se_X6_sendBackWithoutClock : Cond.selects RX6 yX6_sendBackWithoutClock yX6_sendBackWithoutClock ∈ wsL_law := List.mem_of_getElem? (i := 437) rfl
theorem m_co_X6_sendBackWithoutClock : Cond.code yX6_sendBackWithoutClock cX6_sendBackWithoutClock 2 none ∈ wsL_law := List.mem_of_getElem? (i := 438) rfl
theorem m_ml_X6_198 : Cond.methodLink RX6 198 yX6_clockLeft ∈ wsL_law := List.mem_of_getElem? (i := 439) rfl
theorem m_im_X6_clockLeft : Cond.instanceMethod yX6_clockLeft ∈ wsL_law := List.mem_of_getElem? (i := 440) rfl
theorem m_se_X6_clockLeft : Cond.selects RX6 yX6_clockLeft yX6_clockLeft ∈ wsL_law := List.mem_of_getElem? (i := 441) rfl
theorem m_co_X6_clockLeft : Cond.code yX6_clockLeft cX6_clockLeft 2 (some .double) ∈ wsL_law := List.mem_of_getElem? (i := 442) rfl
theorem m_fl_X6_262 : Cond.fieldLink RX6 262 "IcePad$Aircraft" "clockBegan" "I" ∈ wsL_law := List.mem_of_getElem? (i := 443) rfl
theorem m_ml_X6_258 : Cond.methodLink RX6 258 yX2_holdsFor ∈ wsL_law := List.mem_of_getElem? (i := 444) rfl
theorem m_im_X2_holdsFor : Cond.instanceMethod yX2_holdsFor ∈ wsL_law := List.mem_of_getElem? (i := 445) rfl
theorem m_se_X2_holdsFor : Cond.selects RX2 yX2_holdsFor yX2_holdsFor ∈ wsL_law := List.mem_of_getElem? (i := 446) rfl
theorem m_co_X2_holdsFor : Cond.code yX2_holdsFor cX2_holdsFor 4 (some .double) ∈ wsL_law := List.mem_of_getElem? (i := 447) rfl
theorem m_fl_X2_26 : Cond.fieldLink RX2 26 "IcePad$Weather" "fall" "I" ∈ wsL_law := List.mem_of_getElem? (i := 448) rfl
theorem m_cd_X2_32 : Cond.constantDouble RX2 32 (4696837146684686336) ∈ wsL_law := List.mem_of_getElem? (i := 449) rfl
theorem m_cd_X2_34 : Cond.constantDouble RX2 34 (4636737291354636288) ∈ wsL_law := List.mem_of_getElem? (i := 450) rfl
theorem m_ml_X2_36 : Cond.methodLink RX2 36 yX5_holdFactor ∈ wsL_law := List.mem_of_getElem? (i := 451) rfl
theorem m_im_X5_holdFactor : Cond.instanceMethod yX5_holdFactor ∈ wsL_law := List.mem_of_getElem? (i := 452) rfl
theorem m_se_X5_holdFactor : Cond.selects RX5 yX5_holdFactor yX5_holdFactor ∈ wsL_law := List.mem_of_getElem? (i := 453) rfl
theorem m_co_X5_holdFactor : Cond.code yX5_holdFactor cX5_holdFactor 1 (some .double) ∈ wsL_law := List.mem_of_getElem? (i := 454) rfl
theorem m_fl_X5_13 : Cond.fieldLink RX5 13 "IcePad$Weather" "temperature" "I" ∈ wsL_law := List.mem_of_getElem? (i := 455) rfl
theorem m_cd_X5_16 : Cond.constantDouble RX5 16 (4604930618986332160) ∈ wsL_law := List.mem_of_getElem? (i := 456) rfl
theorem m_cd_X5_18 : Cond.constantDouble RX5 18 (4602678819172646912) ∈ wsL_law := List.mem_of_getElem? (i := 457) rfl
theorem m_ml_X6_182 : Cond.methodLink RX6 182 yX3_isUsableAt ∈ wsL_law := List.mem_of_getElem? (i := 458) rfl
theorem m_im_X3_isUsableAt : Cond.instanceMethod yX3_isUsableAt ∈ wsL_law := List.mem_of_getElem? (i := 459) rfl
theorem m_se_X3_isUsableAt : Cond.selects RX3 yX3_isUsableAt yX3_isUsableAt ∈ wsL_law := List.mem_of_getElem? (i := 460) rfl
theorem m_co_X3_isUsableAt : Cond.code yX3_isUsableAt cX3_isUsableAt 3 (some .boolean) ∈ wsL_law := List.mem_of_getElem? (i := 461) rfl
theorem m_ml_X3_36 : Cond.methodLink RX3 36 yX3_codesSufficeAt ∈ wsL_law := List.mem_of_getElem? (i := 462) rfl
theorem m_im_X3_codesSufficeAt : Cond.instanceMethod yX3_codesSufficeAt ∈ wsL_law := List.mem_of_getElem? (i := 463) rfl
theorem m_se_X3_codesSufficeAt : Cond.selects RX3 yX3_codesSufficeAt yX3_codesSufficeAt ∈ wsL_law := List.mem_of_getElem? (i := 464) rfl
theorem m_co_X3_codesSufficeAt : Cond.code yX3_codesSufficeAt cX3_codesSufficeAt 5 (some .boolean) ∈ wsL_law := List.mem_of_getElem? (i := 465) rfl
theorem m_ml_X3_22 : Cond.methodLink RX3 22 yX5_codeNeeded ∈ wsL_law := List.mem_of_getElem? (i := 466) rfl
theorem m_im_X5_codeNeeded : Cond.instanceMethod yX5_codeNeeded ∈ wsL_law := List.mem_of_getElem? (i := 467) rfl
theorem m_se_X5_codeNeeded : Cond.selects RX5 yX5_codeNeeded yX5_codeNeeded ∈ wsL_law := List.mem_of_getElem? (i := 468) rfl
theorem m_co_X5_codeNeeded : Cond.code yX5_codeNeeded cX5_codeNeeded 1 (some .int) ∈ wsL_law := List.mem_of_getElem? (i := 469) rfl
theorem m_fl_X5_7 : Cond.fieldLink RX5 7 "IcePad$Weather" "wind" "I" ∈ wsL_law := List.mem_of_getElem? (i := 470) rfl
theorem m_ml_X3_28 : Cond.methodLink RX3 28 yX4_codeAt ∈ wsL_law := List.mem_of_getElem? (i := 471) rfl
theorem m_ml_X6_248 : Cond.methodLink RX6 248 yX6_letOneLeave ∈ wsL_law := List.mem_of_getElem? (i := 472) rfl
theorem m_im_X6_letOneLeave : Cond.instanceMethod yX6_letOneLeave ∈ wsL_law := List.mem_of_getElem? (i := 473) rfl
theorem m_se_X6_letOneLeave : Cond.selects RX6 yX6_letOneLeave yX6_letOneLeave ∈ wsL_law := List.mem_of_getElem? (i := 474) rfl
theorem m_co_X6_letOneLeave : Cond.code yX6_letOneLeave cX6_letOneLeave 4 none ∈ wsL_law := List.mem_of_getElem? (i := 475) rfl
theorem m_fl_X6_202 : Cond.fieldLink RX6 202 "IcePad$Aircraft" "slot" "I" ∈ wsL_law := List.mem_of_getElem? (i := 476) rfl
theorem m_fl_X6_186 : Cond.fieldLink RX6 186 "IcePad$Aircraft" "leftMinute" "I" ∈ wsL_law := List.mem_of_getElem? (i := 477) rfl
theorem m_ml_X6_254 : Cond.methodLink RX6 254 yX6_goesAhead ∈ wsL_law := List.mem_of_getElem? (i := 478) rfl
theorem m_im_X6_goesAhead : Cond.instanceMethod yX6_goesAhead ∈ wsL_law := List.mem_of_getElem? (i := 479) rfl
theorem m_se_X6_goesAhead : Cond.selects RX6 yX6_goesAhead yX6_goesAhead ∈ wsL_law := List.mem_of_getElem? (i := 480) rfl
theorem m_co_X6_goesAhead : Cond.code yX6_goesAhead cX6_goesAhead 7 (some .boolean) ∈ wsL_law := List.mem_of_getElem? (i := 481) rfl
theorem m_ml_L_128 : Cond.methodLink RL 128 yX7_pass ∈ wsL_law := List.mem_of_getElem? (i := 482) rfl
theorem m_im_X7_pass : Cond.instanceMethod yX7_pass ∈ wsL_law := List.mem_of_getElem? (i := 483) rfl
theorem m_se_X7_pass : Cond.selects RX7 yX7_pass yX7_pass ∈ wsL_law := List.mem_of_getElem? (i := 484) rfl
theorem m_co_X7_pass : Cond.code yX7_pass cX7_pass 3 (some .int) ∈ wsL_law := List.mem_of_getElem? (i := 485) rfl
theorem m_ml_X7_178 : Cond.methodLink RX7 178 yX7_minute ∈ wsL_law := List.mem_of_getElem? (i := 486) rfl
theorem m_im_X7_minute : Cond.instanceMethod yX7_minute ∈ wsL_law := List.mem_of_getElem? (i := 487) rfl
theorem m_se_X7_minute : Cond.selects RX7 yX7_minute yX7_minute ∈ wsL_law := List.mem_of_getElem? (i := 488) rfl
theorem m_co_X7_minute : Cond.code yX7_minute cX7_minute 3 none ∈ wsL_law := List.mem_of_getElem? (i := 489) rfl
theorem m_fl_X7_169 : Cond.fieldLink RX7 169 "IcePadModel" "cleaned" "I" ∈ wsL_law := List.mem_of_getElem? (i := 490) rfl
theorem m_ml_X7_157 : Cond.methodLink RX7 157 yX7_falls ∈ wsL_law := List.mem_of_getElem? (i := 491) rfl
theorem m_im_X7_falls : Cond.instanceMethod yX7_falls ∈ wsL_law := List.mem_of_getElem? (i := 492) rfl
theorem m_se_X7_falls : Cond.selects RX7 yX7_falls yX7_falls ∈ wsL_law := List.mem_of_getElem? (i := 493) rfl
theorem m_co_X7_falls : Cond.code yX7_falls cX7_falls 3 none ∈ wsL_law := List.mem_of_getElem? (i := 494) rfl
theorem m_ml_X7_139 : Cond.methodLink RX7 139 yX7_isSprayed ∈ wsL_law := List.mem_of_getElem? (i := 495) rfl
theorem m_im_X7_isSprayed : Cond.instanceMethod yX7_isSprayed ∈ wsL_law := List.mem_of_getElem? (i := 496) rfl
theorem m_se_X7_isSprayed : Cond.selects RX7 yX7_isSprayed yX7_isSprayed ∈ wsL_law := List.mem_of_getElem? (i := 497) rfl
theorem m_co_X7_isSprayed : Cond.code yX7_isSprayed cX7_isSprayed 2 (some .boolean) ∈ wsL_law := List.mem_of_getElem? (i := 498) rfl
theorem m_ml_X7_160 : Cond.methodLink RX7 160 yX7_isClosed ∈ wsL_law := List.mem_of_getElem? (i := 499) rfl
theorem m_im_X7_isClosed : Cond.instanceMethod yX7_isClosed ∈ wsL_law := List.mem_of_getElem? (i := 500) rfl
theorem m_se_X7_isClosed : Cond.selects RX7 yX7_isClosed yX7_isClosed ∈ wsL_law := List.mem_of_getElem? (i := 501) rfl
theorem m_co_X7_isClosed : Cond.code yX7_isClosed cX7_isClosed 1 (some .boolean) ∈ wsL_law := List.mem_of_getElem? (i := 502) rfl
theorem m_ml_X7_164 : Cond.methodLink RX7 164 yX7_ploughs ∈ wsL_law := List.mem_of_getElem? (i := 503) rfl
theorem m_im_X7_ploughs : Cond.instanceMethod yX7_ploughs ∈ wsL_law := List.mem_of_getElem? (i := 504) rfl
theorem m_se_X7_ploughs : Cond.selects RX7 yX7_ploughs yX7_ploughs ∈ wsL_law := List.mem_of_getElem? (i := 505) rfl
theorem m_co_X7_ploughs : Cond.code yX7_ploughs cX7_ploughs 4 none ∈ wsL_law := List.mem_of_getElem? (i := 506) rfl
theorem m_fl_X7_142 : Cond.fieldLink RX7 142 "IcePadModel" "heap" "I" ∈ wsL_law := List.mem_of_getElem? (i := 507) rfl
theorem m_ml_X7_166 : Cond.methodLink RX7 166 yX7_goesOn ∈ wsL_law := List.mem_of_getElem? (i := 508) rfl
theorem m_im_X7_goesOn : Cond.instanceMethod yX7_goesOn ∈ wsL_law := List.mem_of_getElem? (i := 509) rfl
theorem m_se_X7_goesOn : Cond.selects RX7 yX7_goesOn yX7_goesOn ∈ wsL_law := List.mem_of_getElem? (i := 510) rfl
theorem m_co_X7_goesOn : Cond.code yX7_goesOn cX7_goesOn 2 none ∈ wsL_law := List.mem_of_getElem? (i := 511) rfl
theorem m_ml_X7_153 : Cond.methodLink RX7 153 yX7_clockOf ∈ wsL_law := List.mem_of_getElem? (i := 512) rfl
theorem m_im_X7_clockOf : Cond.instanceMethod yX7_clockOf ∈ wsL_law := List.mem_of_getElem? (i := 513) rfl
theorem m_se_X7_clockOf : Cond.selects RX7 yX7_clockOf yX7_clockOf ∈ wsL_law := List.mem_of_getElem? (i := 514) rfl
theorem m_co_X7_clockOf : Cond.code yX7_clockOf cX7_clockOf 6 (some .double) ∈ wsL_law := List.mem_of_getElem? (i := 515) rfl
theorem m_cd_X7_145 : Cond.constantDouble RX7 145 (4696837146684686336) ∈ wsL_law := List.mem_of_getElem? (i := 516) rfl
theorem m_cd_X7_147 : Cond.constantDouble RX7 147 (4604930618986332160) ∈ wsL_law := List.mem_of_getElem? (i := 517) rfl
theorem m_cd_X7_149 : Cond.constantDouble RX7 149 (4602678819172646912) ∈ wsL_law := List.mem_of_getElem? (i := 518) rfl
theorem m_cd_X7_151 : Cond.constantDouble RX7 151 (4636737291354636288) ∈ wsL_law := List.mem_of_getElem? (i := 519) rfl
theorem m_ml_X7_172 : Cond.methodLink RX7 172 yX7_areEnough ∈ wsL_law := List.mem_of_getElem? (i := 520) rfl
theorem m_im_X7_areEnough : Cond.instanceMethod yX7_areEnough ∈ wsL_law := List.mem_of_getElem? (i := 521) rfl
theorem m_se_X7_areEnough : Cond.selects RX7 yX7_areEnough yX7_areEnough ∈ wsL_law := List.mem_of_getElem? (i := 522) rfl
theorem m_co_X7_areEnough : Cond.code yX7_areEnough cX7_areEnough 2 (some .boolean) ∈ wsL_law := List.mem_of_getElem? (i := 523) rfl
theorem m_ml_X7_175 : Cond.methodLink RX7 175 yX7_leaves ∈ wsL_law := List.mem_of_getElem? (i := 524) rfl
theorem m_im_X7_leaves : Cond.instanceMethod yX7_leaves ∈ wsL_law := List.mem_of_getElem? (i := 525) rfl
theorem m_se_X7_leaves : Cond.selects RX7 yX7_leaves yX7_leaves ∈ wsL_law := List.mem_of_getElem? (i := 526) rfl
theorem m_co_X7_leaves : Cond.code yX7_leaves cX7_leaves 3 none ∈ wsL_law := List.mem_of_getElem? (i := 527) rfl
theorem m_ml_L_129 : Cond.methodLink RL 129 yL_code ∈ wsL_law := List.mem_of_getElem? (i := 528) rfl
theorem m_st_L_code : Cond.static yL_code ∈ wsL_law := List.mem_of_getElem? (i := 529) rfl
theorem m_cw_L_code : Cond.codeWith yL_code cL_code 4 (some .int) [(0, 9, 12, 19)] ∈ wsL_law := List.mem_of_getElem? (i := 530) rfl
theorem m_ml_L_56 : Cond.methodLink RL 56 yX6_code ∈ wsL_law := List.mem_of_getElem? (i := 531) rfl
theorem m_im_X6_code : Cond.instanceMethod yX6_code ∈ wsL_law := List.mem_of_getElem? (i := 532) rfl
theorem m_se_X6_code : Cond.selects RX6 yX6_code yX6_code ∈ wsL_law := List.mem_of_getElem? (i := 533) rfl
theorem m_co_X6_code : Cond.code yX6_code cX6_code 2 (some .int) ∈ wsL_law := List.mem_of_getElem? (i := 534) rfl
theorem m_ml_L_131 : Cond.methodLink RL 131 yX7_code ∈ wsL_law := List.mem_of_getElem? (i := 535) rfl
theorem m_im_X7_code : Cond.instanceMethod yX7_code ∈ wsL_law := List.mem_of_getElem? (i := 536) rfl
theorem m_se_X7_code : Cond.selects RX7 yX7_code yX7_code ∈ wsL_law := List.mem_of_getElem? (i := 537) rfl
theorem m_co_X7_code : Cond.code yX7_code cX7_code 2 (some .int) ∈ wsL_law := List.mem_of_getElem? (i := 538) rfl
theorem m_ml_L_132 : Cond.methodLink RL 132 yL_thirdOf ∈ wsL_law := List.mem_of_getElem? (i := 539) rfl
theorem m_st_L_thirdOf : Cond.static yL_thirdOf ∈ wsL_law := List.mem_of_getElem? (i := 540) rfl
theorem m_cw_L_thirdOf : Cond.codeWith yL_thirdOf cL_thirdOf 5 (some .int) [(0, 10, 13, 19), (0, 10, 17, 13)] ∈ wsL_law := List.mem_of_getElem? (i := 541) rfl
theorem m_ml_L_59 : Cond.methodLink RL 59 yX6_thirdOf ∈ wsL_law := List.mem_of_getElem? (i := 542) rfl
theorem m_im_X6_thirdOf : Cond.instanceMethod yX6_thirdOf ∈ wsL_law := List.mem_of_getElem? (i := 543) rfl
theorem m_se_X6_thirdOf : Cond.selects RX6 yX6_thirdOf yX6_thirdOf ∈ wsL_law := List.mem_of_getElem? (i := 544) rfl
theorem m_co_X6_thirdOf : Cond.code yX6_thirdOf cX6_thirdOf 4 (some .int) ∈ wsL_law := List.mem_of_getElem? (i := 545) rfl
theorem m_fl_X6_169 : Cond.fieldLink RX6 169 "IcePad$Third" "cover" "I" ∈ wsL_law := List.mem_of_getElem? (i := 546) rfl
theorem m_fl_X6_172 : Cond.fieldLink RX6 172 "IcePad$Third" "depth" "I" ∈ wsL_law := List.mem_of_getElem? (i := 547) rfl
theorem m_ml_X6_175 : Cond.methodLink RX6 175 yX4_isSprayedAt ∈ wsL_law := List.mem_of_getElem? (i := 548) rfl
theorem m_ml_X6_178 : Cond.methodLink RX6 178 yX4_codeOfWhatLies ∈ wsL_law := List.mem_of_getElem? (i := 549) rfl
theorem m_ml_L_134 : Cond.methodLink RL 134 yX7_thirdOf ∈ wsL_law := List.mem_of_getElem? (i := 550) rfl
theorem m_im_X7_thirdOf : Cond.instanceMethod yX7_thirdOf ∈ wsL_law := List.mem_of_getElem? (i := 551) rfl
theorem m_se_X7_thirdOf : Cond.selects RX7 yX7_thirdOf yX7_thirdOf ∈ wsL_law := List.mem_of_getElem? (i := 552) rfl
theorem m_co_X7_thirdOf : Cond.code yX7_thirdOf cX7_thirdOf 3 (some .int) ∈ wsL_law := List.mem_of_getElem? (i := 553) rfl
theorem m_ml_L_135 : Cond.methodLink RL 135 yX6_isGood ∈ wsL_law := List.mem_of_getElem? (i := 554) rfl
theorem m_im_X6_isGood : Cond.instanceMethod yX6_isGood ∈ wsL_law := List.mem_of_getElem? (i := 555) rfl
theorem m_se_X6_isGood : Cond.selects RX6 yX6_isGood yX6_isGood ∈ wsL_law := List.mem_of_getElem? (i := 556) rfl
theorem m_co_X6_isGood : Cond.code yX6_isGood cX6_isGood 1 (some .boolean) ∈ wsL_law := List.mem_of_getElem? (i := 557) rfl
theorem m_ml_L_139 : Cond.methodLink RL 139 yX7_isGood ∈ wsL_law := List.mem_of_getElem? (i := 558) rfl
theorem m_im_X7_isGood : Cond.instanceMethod yX7_isGood ∈ wsL_law := List.mem_of_getElem? (i := 559) rfl
theorem m_se_X7_isGood : Cond.selects RX7 yX7_isGood yX7_isGood ∈ wsL_law := List.mem_of_getElem? (i := 560) rfl
theorem m_co_X7_isGood : Cond.code yX7_isGood cX7_isGood 1 (some .boolean) ∈ wsL_law := List.mem_of_getElem? (i := 561) rfl
theorem m_ml_L_140 : Cond.methodLink RL 140 yL_aircraftOf ∈ wsL_law := List.mem_of_getElem? (i := 562) rfl
theorem m_st_L_aircraftOf : Cond.static yL_aircraftOf ∈ wsL_law := List.mem_of_getElem? (i := 563) rfl
theorem m_cw_L_aircraftOf : Cond.codeWith yL_aircraftOf cL_aircraftOf 5 (some .int) [(0, 10, 13, 19), (0, 10, 17, 13)] ∈ wsL_law := List.mem_of_getElem? (i := 564) rfl
theorem m_ml_L_62 : Cond.methodLink RL 62 yX6_aircraftOf ∈ wsL_law := List.mem_of_getElem? (i := 565) rfl
theorem m_im_X6_aircraftOf : Cond.instanceMethod yX6_aircraftOf ∈ wsL_law := List.mem_of_getElem? (i := 566) rfl
theorem m_se_X6_aircraftOf : Cond.selects RX6 yX6_aircraftOf yX6_aircraftOf ∈ wsL_law := List.mem_of_getElem? (i := 567) rfl
theorem m_co_X6_aircraftOf : Cond.code yX6_aircraftOf cX6_aircraftOf 4 (some .int) ∈ wsL_law := List.mem_of_getElem? (i := 568) rfl
theorem m_fl_X6_189 : Cond.fieldLink RX6 189 "IcePad$Aircraft" "treatments" "I" ∈ wsL_law := List.mem_of_getElem? (i := 569) rfl
theorem m_fl_X6_192 : Cond.fieldLink RX6 192 "IcePad$Aircraft" "litresOn" "I" ∈ wsL_law := List.mem_of_getElem? (i := 570) rfl
theorem m_ml_L_142 : Cond.methodLink RL 142 yX7_aircraftOf ∈ wsL_law := List.mem_of_getElem? (i := 571) rfl
theorem m_im_X7_aircraftOf : Cond.instanceMethod yX7_aircraftOf ∈ wsL_law := List.mem_of_getElem? (i := 572) rfl
theorem m_se_X7_aircraftOf : Cond.selects RX7 yX7_aircraftOf yX7_aircraftOf ∈ wsL_law := List.mem_of_getElem? (i := 573) rfl
theorem m_co_X7_aircraftOf : Cond.code yX7_aircraftOf cX7_aircraftOf 3 (some .int) ∈ wsL_law := List.mem_of_getElem? (i := 574) rfl
theorem m_ml_L_143 : Cond.methodLink RL 143 yL_clock ∈ wsL_law := List.mem_of_getElem? (i := 575) rfl
theorem m_st_L_clock : Cond.static yL_clock ∈ wsL_law := List.mem_of_getElem? (i := 576) rfl
theorem m_cw_L_clock : Cond.codeWith yL_clock cL_clock 4 (some .int) [(0, 8, 11, 19), (0, 8, 14, 31)] ∈ wsL_law := List.mem_of_getElem? (i := 577) rfl
theorem m_ml_L_65 : Cond.methodLink RL 65 yX6_clock ∈ wsL_law := List.mem_of_getElem? (i := 578) rfl
theorem m_im_X6_clock : Cond.instanceMethod yX6_clock ∈ wsL_law := List.mem_of_getElem? (i := 579) rfl
theorem m_se_X6_clock : Cond.selects RX6 yX6_clock yX6_clock ∈ wsL_law := List.mem_of_getElem? (i := 580) rfl
theorem m_co_X6_clock : Cond.code yX6_clock cX6_clock 2 (some .double) ∈ wsL_law := List.mem_of_getElem? (i := 581) rfl
theorem m_ml_L_146 : Cond.methodLink RL 146 yX7_clock ∈ wsL_law := List.mem_of_getElem? (i := 582) rfl
theorem m_im_X7_clock : Cond.instanceMethod yX7_clock ∈ wsL_law := List.mem_of_getElem? (i := 583) rfl
theorem m_se_X7_clock : Cond.selects RX7 yX7_clock yX7_clock ∈ wsL_law := List.mem_of_getElem? (i := 584) rfl
theorem m_co_X7_clock : Cond.code yX7_clock cX7_clock 2 (some .double) ∈ wsL_law := List.mem_of_getElem? (i := 585) rfl
theorem m_ml_L_147 : Cond.methodLink RL 147 yL_whyNot ∈ wsL_law := List.mem_of_getElem? (i := 586) rfl
theorem m_st_L_whyNot : Cond.static yL_whyNot ∈ wsL_law := List.mem_of_getElem? (i := 587) rfl
theorem m_cw_L_whyNot : Cond.codeWith yL_whyNot cL_whyNot 4 (some .int) [(0, 9, 12, 19)] ∈ wsL_law := List.mem_of_getElem? (i := 588) rfl
theorem m_ml_L_69 : Cond.methodLink RL 69 yX6_whyNot ∈ wsL_law := List.mem_of_getElem? (i := 589) rfl
theorem m_im_X6_whyNot : Cond.instanceMethod yX6_whyNot ∈ wsL_law := List.mem_of_getElem? (i := 590) rfl
theorem m_se_X6_whyNot : Cond.selects RX6 yX6_whyNot yX6_whyNot ∈ wsL_law := List.mem_of_getElem? (i := 591) rfl
theorem m_co_X6_whyNot : Cond.code yX6_whyNot cX6_whyNot 3 (some .int) ∈ wsL_law := List.mem_of_getElem? (i := 592) rfl
theorem m_ml_X6_205 : Cond.methodLink RX6 205 yX3_isClosedAt ∈ wsL_law := List.mem_of_getElem? (i := 593) rfl
theorem m_ml_X6_208 : Cond.methodLink RX6 208 yX3_codesSufficeAt ∈ wsL_law := List.mem_of_getElem? (i := 594) rfl
theorem m_ml_L_149 : Cond.methodLink RL 149 yX7_whyNot ∈ wsL_law := List.mem_of_getElem? (i := 595) rfl
theorem m_im_X7_whyNot : Cond.instanceMethod yX7_whyNot ∈ wsL_law := List.mem_of_getElem? (i := 596) rfl
theorem m_se_X7_whyNot : Cond.selects RX7 yX7_whyNot yX7_whyNot ∈ wsL_law := List.mem_of_getElem? (i := 597) rfl
theorem m_co_X7_whyNot : Cond.code yX7_whyNot cX7_whyNot 2 (some .int) ∈ wsL_law := List.mem_of_getElem? (i := 598) rfl
theorem m_ml_L_150 : Cond.methodLink RL 150 yL_queue ∈ wsL_law := List.mem_of_getElem? (i := 599) rfl
theorem m_st_L_queue : Cond.static yL_queue ∈ wsL_law := List.mem_of_getElem? (i := 600) rfl
theorem m_cw_L_queue : Cond.codeWith yL_queue cL_queue 4 (some .int) [(0, 9, 12, 19)] ∈ wsL_law := List.mem_of_getElem? (i := 601) rfl
theorem m_ml_L_72 : Cond.methodLink RL 72 yX6_queue ∈ wsL_law := List.mem_of_getElem? (i := 602) rfl
theorem m_im_X6_queue : Cond.instanceMethod yX6_queue ∈ wsL_law := List.mem_of_getElem? (i := 603) rfl
theorem m_se_X6_queue : Cond.selects RX6 yX6_queue yX6_queue ∈ wsL_law := List.mem_of_getElem? (i := 604) rfl
theorem m_co_X6_queue : Cond.code yX6_queue cX6_queue 3 (some .int) ∈ wsL_law := List.mem_of_getElem? (i := 605) rfl
theorem m_ml_X6_218 : Cond.methodLink RX6 218 yX6_placeInQueue ∈ wsL_law := List.mem_of_getElem? (i := 606) rfl
theorem m_im_X6_placeInQueue : Cond.instanceMethod yX6_placeInQueue ∈ wsL_law := List.mem_of_getElem? (i := 607) rfl
theorem m_se_X6_placeInQueue : Cond.selects RX6 yX6_placeInQueue yX6_placeInQueue ∈ wsL_law := List.mem_of_getElem? (i := 608) rfl
theorem m_co_X6_placeInQueue : Cond.code yX6_placeInQueue cX6_placeInQueue 4 (some .int) ∈ wsL_law := List.mem_of_getElem? (i := 609) rfl
theorem m_ml_L_152 : Cond.methodLink RL 152 yX7_queue ∈ wsL_law := List.mem_of_getElem? (i := 610) rfl
theorem m_im_X7_queue : Cond.instanceMethod yX7_queue ∈ wsL_law := List.mem_of_getElem? (i := 611) rfl
theorem m_se_X7_queue : Cond.selects RX7 yX7_queue yX7_queue ∈ wsL_law := List.mem_of_getElem? (i := 612) rfl
theorem m_co_X7_queue : Cond.code yX7_queue cX7_queue 4 (some .int) ∈ wsL_law := List.mem_of_getElem? (i := 613) rfl
theorem m_ml_X7_181 : Cond.methodLink RX7 181 yX7_nextAfter ∈ wsL_law := List.mem_of_getElem? (i := 614) rfl
theorem m_im_X7_nextAfter : Cond.instanceMethod yX7_nextAfter ∈ wsL_law := List.mem_of_getElem? (i := 615) rfl
theorem m_se_X7_nextAfter : Cond.selects RX7 yX7_nextAfter yX7_nextAfter ∈ wsL_law := List.mem_of_getElem? (i := 616) rfl
theorem m_co_X7_nextAfter : Cond.code yX7_nextAfter cX7_nextAfter 5 (some .int) ∈ wsL_law := List.mem_of_getElem? (i := 617) rfl
theorem m_ml_L_153 : Cond.methodLink RL 153 yL_sum ∈ wsL_law := List.mem_of_getElem? (i := 618) rfl
theorem m_st_L_sum : Cond.static yL_sum ∈ wsL_law := List.mem_of_getElem? (i := 619) rfl
theorem m_cw_L_sum : Cond.codeWith yL_sum cL_sum 4 (some .int) [(0, 9, 12, 13)] ∈ wsL_law := List.mem_of_getElem? (i := 620) rfl
theorem m_ml_L_75 : Cond.methodLink RL 75 yX6_sum ∈ wsL_law := List.mem_of_getElem? (i := 621) rfl
theorem m_im_X6_sum : Cond.instanceMethod yX6_sum ∈ wsL_law := List.mem_of_getElem? (i := 622) rfl
theorem m_se_X6_sum : Cond.selects RX6 yX6_sum yX6_sum ∈ wsL_law := List.mem_of_getElem? (i := 623) rfl
theorem m_co_X6_sum : Cond.code yX6_sum cX6_sum 2 (some .int) ∈ wsL_law := List.mem_of_getElem? (i := 624) rfl
theorem m_fl_X6_228 : Cond.fieldLink RX6 228 "IcePad$Basin" "cleaned" "I" ∈ wsL_law := List.mem_of_getElem? (i := 625) rfl
theorem m_fl_X6_231 : Cond.fieldLink RX6 231 "IcePad$Runway" "heap" "I" ∈ wsL_law := List.mem_of_getElem? (i := 626) rfl
theorem m_ml_X6_221 : Cond.methodLink RX6 221 yX2_inTanks ∈ wsL_law := List.mem_of_getElem? (i := 627) rfl
theorem m_im_X2_inTanks : Cond.instanceMethod yX2_inTanks ∈ wsL_law := List.mem_of_getElem? (i := 628) rfl
theorem m_se_X2_inTanks : Cond.selects RX2 yX2_inTanks yX2_inTanks ∈ wsL_law := List.mem_of_getElem? (i := 629) rfl
theorem m_co_X2_inTanks : Cond.code yX2_inTanks cX2_inTanks 3 (some .int) ∈ wsL_law := List.mem_of_getElem? (i := 630) rfl
theorem m_ml_X6_225 : Cond.methodLink RX6 225 yX6_litresOnFleet ∈ wsL_law := List.mem_of_getElem? (i := 631) rfl
theorem m_im_X6_litresOnFleet : Cond.instanceMethod yX6_litresOnFleet ∈ wsL_law := List.mem_of_getElem? (i := 632) rfl
theorem m_se_X6_litresOnFleet : Cond.selects RX6 yX6_litresOnFleet yX6_litresOnFleet ∈ wsL_law := List.mem_of_getElem? (i := 633) rfl
theorem m_co_X6_litresOnFleet : Cond.code yX6_litresOnFleet cX6_litresOnFleet 3 (some .int) ∈ wsL_law := List.mem_of_getElem? (i := 634) rfl
theorem m_ml_L_155 : Cond.methodLink RL 155 yX7_sum ∈ wsL_law := List.mem_of_getElem? (i := 635) rfl
theorem m_im_X7_sum : Cond.instanceMethod yX7_sum ∈ wsL_law := List.mem_of_getElem? (i := 636) rfl
theorem m_se_X7_sum : Cond.selects RX7 yX7_sum yX7_sum ∈ wsL_law := List.mem_of_getElem? (i := 637) rfl
theorem m_co_X7_sum : Cond.code yX7_sum cX7_sum 4 (some .int) ∈ wsL_law := List.mem_of_getElem? (i := 638) rfl
