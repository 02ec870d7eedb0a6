/-! words of the tables, by their places -/
theorem xk0 : Cond.selects "PlatformsLeave$Text" ⟨"PlatformsLeave$Text", "readItem", "(LPlatformsLeave$Line;)Z"⟩ ⟨"PlatformsLeave$Text", "readItem", "(LPlatformsLeave$Line;)Z"⟩ ∈ xws := xws_in (i := 0) (by decide +kernel) (by decide +kernel)
theorem xk1 : Cond.selects "PlatformsLeave$Text" ⟨"PlatformsLeave$Text", "readNumber", "(IC)Z"⟩ ⟨"PlatformsLeave$Text", "readNumber", "(IC)Z"⟩ ∈ xws := xws_in (i := 1) (by decide +kernel) (by decide +kernel)
theorem xk2 : Cond.selects "PlatformsLeave$Changes" ⟨"PlatformsLeave$Changes", "dropOldest", "()V"⟩ ⟨"PlatformsLeave$Changes", "dropOldest", "()V"⟩ ∈ xws := xws_in (i := 2) (by decide +kernel) (by decide +kernel)
theorem xk3 : Cond.selects "PlatformsLeave$Run" ⟨"PlatformsLeave$Run", "goOn", "()V"⟩ ⟨"PlatformsLeave$Run", "goOn", "()V"⟩ ∈ xws := xws_in (i := 3) (by decide +kernel) (by decide +kernel)
theorem xk4 : Cond.selects "PlatformsLeave$Run" ⟨"PlatformsLeave$Run", "wantsOn", "(I)Z"⟩ ⟨"PlatformsLeave$Run", "wantsOn", "(I)Z"⟩ ∈ xws := xws_in (i := 4) (by decide +kernel) (by decide +kernel)
theorem xk5 : Cond.selects "PlatformsLeave$Run" ⟨"PlatformsLeave$Run", "move", "(I)V"⟩ ⟨"PlatformsLeave$Run", "move", "(I)V"⟩ ∈ xws := xws_in (i := 5) (by decide +kernel) (by decide +kernel)
theorem xk6 : Cond.selects "PlatformsLeave$Run" ⟨"PlatformsLeave$Run", "goesIn", "(I)Z"⟩ ⟨"PlatformsLeave$Run", "goesIn", "(I)Z"⟩ ∈ xws := xws_in (i := 6) (by decide +kernel) (by decide +kernel)
theorem xk7 : Cond.selects "PlatformsLeave$Rider" ⟨"PlatformsLeave$Rider", "change", "()V"⟩ ⟨"PlatformsLeave$Rider", "change", "()V"⟩ ∈ xws := xws_in (i := 7) (by decide +kernel) (by decide +kernel)
theorem xk8 : Cond.selects "PlatformsLeave$Rider" ⟨"PlatformsLeave$Rider", "getOff", "()V"⟩ ⟨"PlatformsLeave$Rider", "getOff", "()V"⟩ ∈ xws := xws_in (i := 8) (by decide +kernel) (by decide +kernel)
theorem xk9 : Cond.selects "PlatformsLeave$Rider" ⟨"PlatformsLeave$Rider", "getOn", "()V"⟩ ⟨"PlatformsLeave$Rider", "getOn", "()V"⟩ ∈ xws := xws_in (i := 9) (by decide +kernel) (by decide +kernel)
theorem xk10 : Cond.selects "PlatformsLeave" ⟨"PlatformsLeave", "fewestPlaces", "()I"⟩ ⟨"PlatformsLeave", "fewestPlaces", "()I"⟩ ∈ xws := xws_in (i := 10) (by decide +kernel) (by decide +kernel)
theorem xk11 : Cond.selects "PlatformsLeave$Clues" ⟨"PlatformsLeave$Clues", "lastStep", "()I"⟩ ⟨"PlatformsLeave$Clues", "lastStep", "()I"⟩ ∈ xws := xws_in (i := 11) (by decide +kernel) (by decide +kernel)
theorem xk12 : Cond.selects "PlatformsLeave$Clues" ⟨"PlatformsLeave$Clues", "fitNow", "(LPlatformsLeave$Run;)Z"⟩ ⟨"PlatformsLeave$Clues", "fitNow", "(LPlatformsLeave$Run;)Z"⟩ ∈ xws := xws_in (i := 12) (by decide +kernel) (by decide +kernel)
theorem xk13 : Cond.selects "PlatformsLeaveModel" ⟨"PlatformsLeaveModel", "begins", "()V"⟩ ⟨"PlatformsLeaveModel", "begins", "()V"⟩ ∈ xws := xws_in (i := 13) (by decide +kernel) (by decide +kernel)
theorem xk14 : Cond.selects "PlatformsLeaveModel" ⟨"PlatformsLeaveModel", "trainOf", "(I)V"⟩ ⟨"PlatformsLeaveModel", "trainOf", "(I)V"⟩ ∈ xws := xws_in (i := 14) (by decide +kernel) (by decide +kernel)
theorem xk15 : Cond.selects "PlatformsLeaveModel" ⟨"PlatformsLeaveModel", "platformOf", "(IIII)V"⟩ ⟨"PlatformsLeaveModel", "platformOf", "(IIII)V"⟩ ∈ xws := xws_in (i := 15) (by decide +kernel) (by decide +kernel)
theorem xk16 : Cond.selects "PlatformsLeaveModel" ⟨"PlatformsLeaveModel", "lays", "()V"⟩ ⟨"PlatformsLeaveModel", "lays", "()V"⟩ ∈ xws := xws_in (i := 16) (by decide +kernel) (by decide +kernel)
theorem xk17 : Cond.selects "PlatformsLeaveModel" ⟨"PlatformsLeaveModel", "readsAll", "()I"⟩ ⟨"PlatformsLeaveModel", "readsAll", "()I"⟩ ∈ xws := xws_in (i := 17) (by decide +kernel) (by decide +kernel)
theorem xk18 : Cond.selects "PlatformsLeaveModel" ⟨"PlatformsLeaveModel", "readsItem", "(I)Z"⟩ ⟨"PlatformsLeaveModel", "readsItem", "(I)Z"⟩ ∈ xws := xws_in (i := 18) (by decide +kernel) (by decide +kernel)
theorem xk19 : Cond.selects "PlatformsLeaveModel" ⟨"PlatformsLeaveModel", "number", "(III)I"⟩ ⟨"PlatformsLeaveModel", "number", "(III)I"⟩ ∈ xws := xws_in (i := 19) (by decide +kernel) (by decide +kernel)
theorem xk20 : Cond.selects "PlatformsLeaveModel" ⟨"PlatformsLeaveModel", "letterAt", "(I)I"⟩ ⟨"PlatformsLeaveModel", "letterAt", "(I)I"⟩ ∈ xws := xws_in (i := 20) (by decide +kernel) (by decide +kernel)
theorem xk21 : Cond.selects "PlatformsLeaveModel" ⟨"PlatformsLeaveModel", "readsPlatform", "()Z"⟩ ⟨"PlatformsLeaveModel", "readsPlatform", "()Z"⟩ ∈ xws := xws_in (i := 21) (by decide +kernel) (by decide +kernel)
theorem xk22 : Cond.selects "PlatformsLeaveModel" ⟨"PlatformsLeaveModel", "isPlatform", "(I)Z"⟩ ⟨"PlatformsLeaveModel", "isPlatform", "(I)Z"⟩ ∈ xws := xws_in (i := 22) (by decide +kernel) (by decide +kernel)
theorem xk23 : Cond.selects "PlatformsLeaveModel" ⟨"PlatformsLeaveModel", "isTrain", "(I)Z"⟩ ⟨"PlatformsLeaveModel", "isTrain", "(I)Z"⟩ ∈ xws := xws_in (i := 23) (by decide +kernel) (by decide +kernel)
theorem xk24 : Cond.selects "PlatformsLeaveModel" ⟨"PlatformsLeaveModel", "isCell", "(I)Z"⟩ ⟨"PlatformsLeaveModel", "isCell", "(I)Z"⟩ ∈ xws := xws_in (i := 24) (by decide +kernel) (by decide +kernel)
theorem xk25 : Cond.selects "PlatformsLeaveModel" ⟨"PlatformsLeaveModel", "keeps", "()V"⟩ ⟨"PlatformsLeaveModel", "keeps", "()V"⟩ ∈ xws := xws_in (i := 25) (by decide +kernel) (by decide +kernel)
theorem xk26 : Cond.selects "PlatformsLeaveModel" ⟨"PlatformsLeaveModel", "runs", "()V"⟩ ⟨"PlatformsLeaveModel", "runs", "()V"⟩ ∈ xws := xws_in (i := 26) (by decide +kernel) (by decide +kernel)
theorem xk27 : Cond.selects "PlatformsLeaveModel" ⟨"PlatformsLeaveModel", "goes", "(III)V"⟩ ⟨"PlatformsLeaveModel", "goes", "(III)V"⟩ ∈ xws := xws_in (i := 27) (by decide +kernel) (by decide +kernel)
theorem xk28 : Cond.selects "PlatformsLeaveModel" ⟨"PlatformsLeaveModel", "isHeld", "(II)Z"⟩ ⟨"PlatformsLeaveModel", "isHeld", "(II)Z"⟩ ∈ xws := xws_in (i := 28) (by decide +kernel) (by decide +kernel)
theorem xk29 : Cond.selects "PlatformsLeaveModel" ⟨"PlatformsLeaveModel", "moves", "(II)Z"⟩ ⟨"PlatformsLeaveModel", "moves", "(II)Z"⟩ ∈ xws := xws_in (i := 29) (by decide +kernel) (by decide +kernel)
theorem xk30 : Cond.selects "PlatformsLeaveModel" ⟨"PlatformsLeaveModel", "others", "(III)I"⟩ ⟨"PlatformsLeaveModel", "others", "(III)I"⟩ ∈ xws := xws_in (i := 30) (by decide +kernel) (by decide +kernel)
theorem xk31 : Cond.selects "PlatformsLeaveModel" ⟨"PlatformsLeaveModel", "isTrainAt", "(I)Z"⟩ ⟨"PlatformsLeaveModel", "isTrainAt", "(I)Z"⟩ ∈ xws := xws_in (i := 31) (by decide +kernel) (by decide +kernel)
theorem xk32 : Cond.selects "PlatformsLeaveModel" ⟨"PlatformsLeaveModel", "ends", "(I)V"⟩ ⟨"PlatformsLeaveModel", "ends", "(I)V"⟩ ∈ xws := xws_in (i := 32) (by decide +kernel) (by decide +kernel)
theorem xk33 : Cond.selects "PlatformsLeaveModel" ⟨"PlatformsLeaveModel", "firstAt", "(II)I"⟩ ⟨"PlatformsLeaveModel", "firstAt", "(II)I"⟩ ∈ xws := xws_in (i := 33) (by decide +kernel) (by decide +kernel)
theorem xk34 : Cond.selects "PlatformsLeaveModel" ⟨"PlatformsLeaveModel", "isAt", "(III)Z"⟩ ⟨"PlatformsLeaveModel", "isAt", "(III)Z"⟩ ∈ xws := xws_in (i := 34) (by decide +kernel) (by decide +kernel)
theorem xk35 : Cond.selects "PlatformsLeaveModel" ⟨"PlatformsLeaveModel", "up", "(III)I"⟩ ⟨"PlatformsLeaveModel", "up", "(III)I"⟩ ∈ xws := xws_in (i := 35) (by decide +kernel) (by decide +kernel)
theorem xk37 : Cond.initialized "PlatformsLeave" ∈ xws := xws_in (i := 37) (by decide +kernel) (by decide +kernel)
theorem xk38 : Cond.initialized "PlatformsLeave$Text" ∈ xws := xws_in (i := 38) (by decide +kernel) (by decide +kernel)
theorem xk39 : Cond.initialized "PlatformsLeave$Line" ∈ xws := xws_in (i := 39) (by decide +kernel) (by decide +kernel)
theorem xk40 : Cond.initialized "PlatformsLeave$Setting" ∈ xws := xws_in (i := 40) (by decide +kernel) (by decide +kernel)
theorem xk41 : Cond.initialized "PlatformsLeave$Changes" ∈ xws := xws_in (i := 41) (by decide +kernel) (by decide +kernel)
theorem xk42 : Cond.initialized "PlatformsLeave$Kept" ∈ xws := xws_in (i := 42) (by decide +kernel) (by decide +kernel)
theorem xk43 : Cond.initialized "PlatformsLeave$Clues" ∈ xws := xws_in (i := 43) (by decide +kernel) (by decide +kernel)
theorem xk44 : Cond.initialized "PlatformsLeave$Run" ∈ xws := xws_in (i := 44) (by decide +kernel) (by decide +kernel)
theorem xk45 : Cond.initialized "PlatformsLeave$Rider" ∈ xws := xws_in (i := 45) (by decide +kernel) (by decide +kernel)
theorem xk50 : Cond.initialized "PlatformsLeaveModel" ∈ xws := xws_in (i := 50) (by decide +kernel) (by decide +kernel)
theorem xk51 : Cond.initialized "java/lang/Math" ∈ xws := xws_in (i := 51) (by decide +kernel) (by decide +kernel)
theorem xk52 : Cond.initialized "java/lang/Integer" ∈ xws := xws_in (i := 52) (by decide +kernel) (by decide +kernel)
theorem xk57 : Cond.code ⟨"PlatformsLeave", "<init>", "()V"⟩ prog_1_method_1_code 1 none ∈ xws := xws_in (i := 57) (by decide +kernel) (by decide +kernel)
theorem xk67 : Cond.fieldLink "PlatformsLeave$Text" 9 "PlatformsLeave$Text" "letters" "[C" ∈ xws := xws_in (i := 67) (by decide +kernel) (by decide +kernel)
theorem xk68 : Cond.fieldLink "PlatformsLeave$Text" 15 "PlatformsLeave$Text" "numbers" "[I" ∈ xws := xws_in (i := 68) (by decide +kernel) (by decide +kernel)
theorem xk69 : Cond.fieldLink "PlatformsLeave" 75 "PlatformsLeave$Text" "length" "I" ∈ xws := xws_in (i := 69) (by decide +kernel) (by decide +kernel)
theorem xk70 : Cond.fieldLink "PlatformsLeave$Text" 19 "PlatformsLeave$Text" "length" "I" ∈ xws := xws_in (i := 70) (by decide +kernel) (by decide +kernel)
theorem xk71 : Cond.fieldLink "PlatformsLeave$Text" 41 "PlatformsLeave$Text" "next" "I" ∈ xws := xws_in (i := 71) (by decide +kernel) (by decide +kernel)
theorem xk72 : Cond.fieldLink "PlatformsLeave$Text" 44 "PlatformsLeave$Text" "ringOnly" "Z" ∈ xws := xws_in (i := 72) (by decide +kernel) (by decide +kernel)
theorem xk98 : Cond.fieldLink "PlatformsLeave$Setting" 9 "PlatformsLeave$Setting" "starts" "[I" ∈ xws := xws_in (i := 98) (by decide +kernel) (by decide +kernel)
theorem xk99 : Cond.fieldLink "PlatformsLeave$Changes" 28 "PlatformsLeave$Setting" "starts" "[I" ∈ xws := xws_in (i := 99) (by decide +kernel) (by decide +kernel)
theorem xk100 : Cond.fieldLink "PlatformsLeave$Run" 89 "PlatformsLeave$Setting" "starts" "[I" ∈ xws := xws_in (i := 100) (by decide +kernel) (by decide +kernel)
theorem xk101 : Cond.fieldLink "PlatformsLeave" 113 "PlatformsLeave$Setting" "starts" "[I" ∈ xws := xws_in (i := 101) (by decide +kernel) (by decide +kernel)
theorem xk102 : Cond.fieldLink "PlatformsLeave$Line" 62 "PlatformsLeave$Setting" "starts" "[I" ∈ xws := xws_in (i := 102) (by decide +kernel) (by decide +kernel)
theorem xk103 : Cond.fieldLink "PlatformsLeave$Setting" 15 "PlatformsLeave$Setting" "held" "I" ∈ xws := xws_in (i := 103) (by decide +kernel) (by decide +kernel)
theorem xk104 : Cond.fieldLink "PlatformsLeave$Line" 44 "PlatformsLeave$Setting" "held" "I" ∈ xws := xws_in (i := 104) (by decide +kernel) (by decide +kernel)
theorem xk105 : Cond.fieldLink "PlatformsLeave$Changes" 33 "PlatformsLeave$Setting" "held" "I" ∈ xws := xws_in (i := 105) (by decide +kernel) (by decide +kernel)
theorem xk106 : Cond.fieldLink "PlatformsLeave$Run" 86 "PlatformsLeave$Setting" "held" "I" ∈ xws := xws_in (i := 106) (by decide +kernel) (by decide +kernel)
theorem xk107 : Cond.fieldLink "PlatformsLeave" 118 "PlatformsLeave$Setting" "held" "I" ∈ xws := xws_in (i := 107) (by decide +kernel) (by decide +kernel)
theorem xk108 : Cond.fieldLink "PlatformsLeave$Setting" 19 "PlatformsLeave$Setting" "passing" "I" ∈ xws := xws_in (i := 108) (by decide +kernel) (by decide +kernel)
theorem xk109 : Cond.fieldLink "PlatformsLeave$Line" 47 "PlatformsLeave$Setting" "passing" "I" ∈ xws := xws_in (i := 109) (by decide +kernel) (by decide +kernel)
theorem xk110 : Cond.fieldLink "PlatformsLeave$Changes" 36 "PlatformsLeave$Setting" "passing" "I" ∈ xws := xws_in (i := 110) (by decide +kernel) (by decide +kernel)
theorem xk111 : Cond.fieldLink "PlatformsLeave$Run" 102 "PlatformsLeave$Setting" "passing" "I" ∈ xws := xws_in (i := 111) (by decide +kernel) (by decide +kernel)
theorem xk112 : Cond.fieldLink "PlatformsLeave" 133 "PlatformsLeave$Setting" "passing" "I" ∈ xws := xws_in (i := 112) (by decide +kernel) (by decide +kernel)
theorem xk120 : Cond.fieldLink "PlatformsLeave$Line" 28 "PlatformsLeave$Line" "cells" "I" ∈ xws := xws_in (i := 120) (by decide +kernel) (by decide +kernel)
theorem xk121 : Cond.fieldLink "PlatformsLeave$Run" 111 "PlatformsLeave$Line" "cells" "I" ∈ xws := xws_in (i := 121) (by decide +kernel) (by decide +kernel)
theorem xk122 : Cond.fieldLink "PlatformsLeave" 229 "PlatformsLeave$Line" "cells" "I" ∈ xws := xws_in (i := 122) (by decide +kernel) (by decide +kernel)
theorem xk123 : Cond.fieldLink "PlatformsLeave$Line" 32 "PlatformsLeave$Line" "trains" "I" ∈ xws := xws_in (i := 123) (by decide +kernel) (by decide +kernel)
theorem xk124 : Cond.fieldLink "PlatformsLeave$Rider" 51 "PlatformsLeave$Line" "trains" "I" ∈ xws := xws_in (i := 124) (by decide +kernel) (by decide +kernel)
theorem xk125 : Cond.fieldLink "PlatformsLeave$Run" 124 "PlatformsLeave$Line" "trains" "I" ∈ xws := xws_in (i := 125) (by decide +kernel) (by decide +kernel)
theorem xk126 : Cond.fieldLink "PlatformsLeave" 232 "PlatformsLeave$Line" "trains" "I" ∈ xws := xws_in (i := 126) (by decide +kernel) (by decide +kernel)
theorem xk127 : Cond.fieldLink "PlatformsLeave$Line" 35 "PlatformsLeave$Line" "platforms" "I" ∈ xws := xws_in (i := 127) (by decide +kernel) (by decide +kernel)
theorem xk128 : Cond.fieldLink "PlatformsLeave$Run" 62 "PlatformsLeave$Line" "platforms" "I" ∈ xws := xws_in (i := 128) (by decide +kernel) (by decide +kernel)
theorem xk129 : Cond.fieldLink "PlatformsLeave$Rider" 45 "PlatformsLeave$Line" "platforms" "I" ∈ xws := xws_in (i := 129) (by decide +kernel) (by decide +kernel)
theorem xk130 : Cond.fieldLink "PlatformsLeave" 83 "PlatformsLeave$Line" "platforms" "I" ∈ xws := xws_in (i := 130) (by decide +kernel) (by decide +kernel)
theorem xk131 : Cond.fieldLink "PlatformsLeave$Line" 38 "PlatformsLeave$Line" "down" "I" ∈ xws := xws_in (i := 131) (by decide +kernel) (by decide +kernel)
theorem xk132 : Cond.fieldLink "PlatformsLeave$Run" 48 "PlatformsLeave$Line" "down" "I" ∈ xws := xws_in (i := 132) (by decide +kernel) (by decide +kernel)
theorem xk133 : Cond.fieldLink "PlatformsLeave" 102 "PlatformsLeave$Line" "down" "I" ∈ xws := xws_in (i := 133) (by decide +kernel) (by decide +kernel)
theorem xk134 : Cond.fieldLink "PlatformsLeave$Line" 41 "PlatformsLeave$Line" "rain" "I" ∈ xws := xws_in (i := 134) (by decide +kernel) (by decide +kernel)
theorem xk135 : Cond.fieldLink "PlatformsLeave$Run" 79 "PlatformsLeave$Line" "rain" "I" ∈ xws := xws_in (i := 135) (by decide +kernel) (by decide +kernel)
theorem xk136 : Cond.fieldLink "PlatformsLeave" 136 "PlatformsLeave$Line" "rain" "I" ∈ xws := xws_in (i := 136) (by decide +kernel) (by decide +kernel)
theorem xk137 : Cond.fieldLink "PlatformsLeave$Line" 9 "PlatformsLeave$Line" "stands" "[I" ∈ xws := xws_in (i := 137) (by decide +kernel) (by decide +kernel)
theorem xk138 : Cond.fieldLink "PlatformsLeave" 124 "PlatformsLeave$Line" "stands" "[I" ∈ xws := xws_in (i := 138) (by decide +kernel) (by decide +kernel)
theorem xk139 : Cond.fieldLink "PlatformsLeave$Run" 108 "PlatformsLeave$Line" "stands" "[I" ∈ xws := xws_in (i := 139) (by decide +kernel) (by decide +kernel)
theorem xk140 : Cond.fieldLink "PlatformsLeave$Line" 15 "PlatformsLeave$Line" "kinds" "[I" ∈ xws := xws_in (i := 140) (by decide +kernel) (by decide +kernel)
theorem xk141 : Cond.fieldLink "PlatformsLeave$Run" 92 "PlatformsLeave$Line" "kinds" "[I" ∈ xws := xws_in (i := 141) (by decide +kernel) (by decide +kernel)
theorem xk142 : Cond.fieldLink "PlatformsLeave" 95 "PlatformsLeave$Line" "kinds" "[I" ∈ xws := xws_in (i := 142) (by decide +kernel) (by decide +kernel)
theorem xk143 : Cond.fieldLink "PlatformsLeave$Line" 18 "PlatformsLeave$Line" "places" "[I" ∈ xws := xws_in (i := 143) (by decide +kernel) (by decide +kernel)
theorem xk144 : Cond.fieldLink "PlatformsLeave$Run" 65 "PlatformsLeave$Line" "places" "[I" ∈ xws := xws_in (i := 144) (by decide +kernel) (by decide +kernel)
theorem xk145 : Cond.fieldLink "PlatformsLeave" 99 "PlatformsLeave$Line" "places" "[I" ∈ xws := xws_in (i := 145) (by decide +kernel) (by decide +kernel)
theorem xk146 : Cond.fieldLink "PlatformsLeave$Line" 24 "PlatformsLeave$Line" "setting" "LPlatformsLeave$Setting;" ∈ xws := xws_in (i := 146) (by decide +kernel) (by decide +kernel)
theorem xk147 : Cond.fieldLink "PlatformsLeave$Run" 41 "PlatformsLeave$Line" "setting" "LPlatformsLeave$Setting;" ∈ xws := xws_in (i := 147) (by decide +kernel) (by decide +kernel)
theorem xk148 : Cond.fieldLink "PlatformsLeave" 109 "PlatformsLeave$Line" "setting" "LPlatformsLeave$Setting;" ∈ xws := xws_in (i := 148) (by decide +kernel) (by decide +kernel)
theorem xk174 : Cond.fieldLink "PlatformsLeave$Changes" 9 "PlatformsLeave$Changes" "sorts" "[I" ∈ xws := xws_in (i := 174) (by decide +kernel) (by decide +kernel)
theorem xk175 : Cond.fieldLink "PlatformsLeave$Changes" 15 "PlatformsLeave$Changes" "places" "[I" ∈ xws := xws_in (i := 175) (by decide +kernel) (by decide +kernel)
theorem xk176 : Cond.fieldLink "PlatformsLeave$Changes" 18 "PlatformsLeave$Changes" "before" "[I" ∈ xws := xws_in (i := 176) (by decide +kernel) (by decide +kernel)
theorem xk177 : Cond.fieldLink "PlatformsLeave$Changes" 21 "PlatformsLeave$Changes" "size" "I" ∈ xws := xws_in (i := 177) (by decide +kernel) (by decide +kernel)
theorem xk178 : Cond.fieldLink "PlatformsLeave" 86 "PlatformsLeave$Changes" "size" "I" ∈ xws := xws_in (i := 178) (by decide +kernel) (by decide +kernel)
theorem xk197 : Cond.fieldLink "PlatformsLeave$Kept" 12 "PlatformsLeave$Kept" "settings" "[LPlatformsLeave$Setting;" ∈ xws := xws_in (i := 197) (by decide +kernel) (by decide +kernel)
theorem xk198 : Cond.fieldLink "PlatformsLeave$Kept" 18 "PlatformsLeave$Kept" "size" "I" ∈ xws := xws_in (i := 198) (by decide +kernel) (by decide +kernel)
theorem xk199 : Cond.fieldLink "PlatformsLeave" 89 "PlatformsLeave$Kept" "size" "I" ∈ xws := xws_in (i := 199) (by decide +kernel) (by decide +kernel)
theorem xk211 : Cond.fieldLink "PlatformsLeave$Clues" 9 "PlatformsLeave$Clues" "trains" "[I" ∈ xws := xws_in (i := 211) (by decide +kernel) (by decide +kernel)
theorem xk212 : Cond.fieldLink "PlatformsLeave$Clues" 15 "PlatformsLeave$Clues" "steps" "[I" ∈ xws := xws_in (i := 212) (by decide +kernel) (by decide +kernel)
theorem xk213 : Cond.fieldLink "PlatformsLeave$Clues" 18 "PlatformsLeave$Clues" "did" "[Z" ∈ xws := xws_in (i := 213) (by decide +kernel) (by decide +kernel)
theorem xk214 : Cond.fieldLink "PlatformsLeave$Clues" 22 "PlatformsLeave$Clues" "size" "I" ∈ xws := xws_in (i := 214) (by decide +kernel) (by decide +kernel)
theorem xk215 : Cond.fieldLink "PlatformsLeave" 90 "PlatformsLeave$Clues" "size" "I" ∈ xws := xws_in (i := 215) (by decide +kernel) (by decide +kernel)
theorem xk234 : Cond.fieldLink "PlatformsLeave$Run" 37 "PlatformsLeave$Run" "line" "LPlatformsLeave$Line;" ∈ xws := xws_in (i := 234) (by decide +kernel) (by decide +kernel)
theorem xk235 : Cond.fieldLink "PlatformsLeave$Rider" 41 "PlatformsLeave$Run" "line" "LPlatformsLeave$Line;" ∈ xws := xws_in (i := 235) (by decide +kernel) (by decide +kernel)
theorem xk236 : Cond.fieldLink "PlatformsLeave$Run" 12 "PlatformsLeave$Run" "setting" "LPlatformsLeave$Setting;" ∈ xws := xws_in (i := 236) (by decide +kernel) (by decide +kernel)
theorem xk237 : Cond.fieldLink "PlatformsLeave" 178 "PlatformsLeave$Run" "setting" "LPlatformsLeave$Setting;" ∈ xws := xws_in (i := 237) (by decide +kernel) (by decide +kernel)
theorem xk238 : Cond.fieldLink "PlatformsLeave$Run" 18 "PlatformsLeave$Run" "at" "[I" ∈ xws := xws_in (i := 238) (by decide +kernel) (by decide +kernel)
theorem xk239 : Cond.fieldLink "PlatformsLeave" 157 "PlatformsLeave$Run" "at" "[I" ∈ xws := xws_in (i := 239) (by decide +kernel) (by decide +kernel)
theorem xk240 : Cond.fieldLink "PlatformsLeave$Run" 22 "PlatformsLeave$Run" "waited" "[I" ∈ xws := xws_in (i := 240) (by decide +kernel) (by decide +kernel)
theorem xk241 : Cond.fieldLink "PlatformsLeave" 160 "PlatformsLeave$Run" "waited" "[I" ∈ xws := xws_in (i := 241) (by decide +kernel) (by decide +kernel)
theorem xk242 : Cond.fieldLink "PlatformsLeave$Run" 25 "PlatformsLeave$Run" "wet" "[I" ∈ xws := xws_in (i := 242) (by decide +kernel) (by decide +kernel)
theorem xk243 : Cond.fieldLink "PlatformsLeave" 163 "PlatformsLeave$Run" "wet" "[I" ∈ xws := xws_in (i := 243) (by decide +kernel) (by decide +kernel)
theorem xk244 : Cond.fieldLink "PlatformsLeave$Run" 28 "PlatformsLeave$Run" "lastWent" "[I" ∈ xws := xws_in (i := 244) (by decide +kernel) (by decide +kernel)
theorem xk245 : Cond.fieldLink "PlatformsLeave$Run" 31 "PlatformsLeave$Run" "lastCalled" "[I" ∈ xws := xws_in (i := 245) (by decide +kernel) (by decide +kernel)
theorem xk246 : Cond.fieldLink "PlatformsLeave$Run" 34 "PlatformsLeave$Run" "inCell" "[I" ∈ xws := xws_in (i := 246) (by decide +kernel) (by decide +kernel)
theorem xk247 : Cond.fieldLink "PlatformsLeave$Run" 52 "PlatformsLeave$Run" "down" "I" ∈ xws := xws_in (i := 247) (by decide +kernel) (by decide +kernel)
theorem xk248 : Cond.fieldLink "PlatformsLeave$Run" 53 "PlatformsLeave$Run" "step" "I" ∈ xws := xws_in (i := 248) (by decide +kernel) (by decide +kernel)
theorem xk249 : Cond.fieldLink "PlatformsLeave$Clues" 40 "PlatformsLeave$Run" "step" "I" ∈ xws := xws_in (i := 249) (by decide +kernel) (by decide +kernel)
theorem xk250 : Cond.fieldLink "PlatformsLeave$Run" 56 "PlatformsLeave$Run" "waits" "I" ∈ xws := xws_in (i := 250) (by decide +kernel) (by decide +kernel)
theorem xk251 : Cond.fieldLink "PlatformsLeave" 221 "PlatformsLeave$Run" "waits" "I" ∈ xws := xws_in (i := 251) (by decide +kernel) (by decide +kernel)
theorem xk252 : Cond.fieldLink "PlatformsLeave$Run" 59 "PlatformsLeave$Run" "firstFull" "I" ∈ xws := xws_in (i := 252) (by decide +kernel) (by decide +kernel)
theorem xk253 : Cond.fieldLink "PlatformsLeave" 235 "PlatformsLeave$Run" "firstFull" "I" ∈ xws := xws_in (i := 253) (by decide +kernel) (by decide +kernel)
theorem xk285 : Cond.fieldLink "PlatformsLeave$Rider" 18 "PlatformsLeave$Rider" "run" "LPlatformsLeave$Run;" ∈ xws := xws_in (i := 285) (by decide +kernel) (by decide +kernel)
theorem xk286 : Cond.fieldLink "PlatformsLeave$Rider" 9 "PlatformsLeave$Rider" "onTrain" "[I" ∈ xws := xws_in (i := 286) (by decide +kernel) (by decide +kernel)
theorem xk287 : Cond.fieldLink "PlatformsLeave" 175 "PlatformsLeave$Rider" "onTrain" "[I" ∈ xws := xws_in (i := 287) (by decide +kernel) (by decide +kernel)
theorem xk288 : Cond.fieldLink "PlatformsLeave$Rider" 15 "PlatformsLeave$Rider" "onPlatform" "[I" ∈ xws := xws_in (i := 288) (by decide +kernel) (by decide +kernel)
theorem xk350 : Cond.instanceMethod ⟨"PlatformsLeave$Text", "add", "(C)Z"⟩ ∈ xws := xws_in (i := 350) (by decide +kernel) (by decide +kernel)
theorem xk351 : Cond.selects "PlatformsLeave$Text" ⟨"PlatformsLeave$Text", "add", "(C)Z"⟩ ⟨"PlatformsLeave$Text", "add", "(C)Z"⟩ ∈ xws := xws_in (i := 351) (by decide +kernel) (by decide +kernel)
theorem xk352 : Cond.code ⟨"PlatformsLeave$Text", "add", "(C)Z"⟩ prog_9_method_2_code 2 (some .boolean) ∈ xws := xws_in (i := 352) (by decide +kernel) (by decide +kernel)
theorem xk353 : Cond.methodLink "PlatformsLeave" 71 ⟨"PlatformsLeave$Text", "readInto", "(LPlatformsLeave$Line;)I"⟩ ∈ xws := xws_in (i := 353) (by decide +kernel) (by decide +kernel)
theorem xk354 : Cond.instanceMethod ⟨"PlatformsLeave$Text", "readInto", "(LPlatformsLeave$Line;)I"⟩ ∈ xws := xws_in (i := 354) (by decide +kernel) (by decide +kernel)
theorem xk355 : Cond.selects "PlatformsLeave$Text" ⟨"PlatformsLeave$Text", "readInto", "(LPlatformsLeave$Line;)I"⟩ ⟨"PlatformsLeave$Text", "readInto", "(LPlatformsLeave$Line;)I"⟩ ∈ xws := xws_in (i := 355) (by decide +kernel) (by decide +kernel)
theorem xk356 : Cond.code ⟨"PlatformsLeave$Text", "readInto", "(LPlatformsLeave$Line;)I"⟩ prog_9_method_4_code 4 (some .int) ∈ xws := xws_in (i := 356) (by decide +kernel) (by decide +kernel)
theorem xk357 : Cond.methodLink "PlatformsLeave$Text" 36 ⟨"PlatformsLeave$Line", "clear", "()V"⟩ ∈ xws := xws_in (i := 357) (by decide +kernel) (by decide +kernel)
theorem xk358 : Cond.instanceMethod ⟨"PlatformsLeave$Line", "clear", "()V"⟩ ∈ xws := xws_in (i := 358) (by decide +kernel) (by decide +kernel)
theorem xk359 : Cond.selects "PlatformsLeave$Line" ⟨"PlatformsLeave$Line", "clear", "()V"⟩ ⟨"PlatformsLeave$Line", "clear", "()V"⟩ ∈ xws := xws_in (i := 359) (by decide +kernel) (by decide +kernel)
theorem xk360 : Cond.code ⟨"PlatformsLeave$Line", "clear", "()V"⟩ prog_5_method_2_code 1 none ∈ xws := xws_in (i := 360) (by decide +kernel) (by decide +kernel)
theorem xk361 : Cond.methodLink "PlatformsLeave$Text" 48 ⟨"PlatformsLeave$Text", "readItem", "(LPlatformsLeave$Line;)Z"⟩ ∈ xws := xws_in (i := 361) (by decide +kernel) (by decide +kernel)
theorem xk363 : Cond.instanceMethod ⟨"PlatformsLeave$Text", "readItem", "(LPlatformsLeave$Line;)Z"⟩ ∈ xws := xws_in (i := 363) (by decide +kernel) (by decide +kernel)
theorem xk364 : Cond.code ⟨"PlatformsLeave$Text", "readItem", "(LPlatformsLeave$Line;)Z"⟩ prog_9_method_5_code 5 (some .boolean) ∈ xws := xws_in (i := 364) (by decide +kernel) (by decide +kernel)
theorem xk365 : Cond.methodLink "PlatformsLeave$Text" 52 ⟨"PlatformsLeave$Text", "readNumber", "(IC)Z"⟩ ∈ xws := xws_in (i := 365) (by decide +kernel) (by decide +kernel)
theorem xk367 : Cond.instanceMethod ⟨"PlatformsLeave$Text", "readNumber", "(IC)Z"⟩ ∈ xws := xws_in (i := 367) (by decide +kernel) (by decide +kernel)
theorem xk368 : Cond.code ⟨"PlatformsLeave$Text", "readNumber", "(IC)Z"⟩ prog_9_method_6_code 5 (some .boolean) ∈ xws := xws_in (i := 368) (by decide +kernel) (by decide +kernel)
theorem xk369 : Cond.methodLink "PlatformsLeave$Text" 73 ⟨"PlatformsLeave$Text", "isFigure", "(C)Z"⟩ ∈ xws := xws_in (i := 369) (by decide +kernel) (by decide +kernel)
theorem xk370 : Cond.static ⟨"PlatformsLeave$Text", "isFigure", "(C)Z"⟩ ∈ xws := xws_in (i := 370) (by decide +kernel) (by decide +kernel)
theorem xk371 : Cond.code ⟨"PlatformsLeave$Text", "isFigure", "(C)Z"⟩ prog_9_method_7_code 1 (some .boolean) ∈ xws := xws_in (i := 371) (by decide +kernel) (by decide +kernel)
theorem xk372 : Cond.methodLink "PlatformsLeave$Text" 56 ⟨"PlatformsLeave$Line", "addRing", "(I)Z"⟩ ∈ xws := xws_in (i := 372) (by decide +kernel) (by decide +kernel)
theorem xk373 : Cond.instanceMethod ⟨"PlatformsLeave$Line", "addRing", "(I)Z"⟩ ∈ xws := xws_in (i := 373) (by decide +kernel) (by decide +kernel)
theorem xk374 : Cond.selects "PlatformsLeave$Line" ⟨"PlatformsLeave$Line", "addRing", "(I)Z"⟩ ⟨"PlatformsLeave$Line", "addRing", "(I)Z"⟩ ∈ xws := xws_in (i := 374) (by decide +kernel) (by decide +kernel)
theorem xk375 : Cond.code ⟨"PlatformsLeave$Line", "addRing", "(I)Z"⟩ prog_5_method_8_code 2 (some .boolean) ∈ xws := xws_in (i := 375) (by decide +kernel) (by decide +kernel)
theorem xk376 : Cond.methodLink "PlatformsLeave$Text" 60 ⟨"PlatformsLeave$Line", "addTrain", "(I)Z"⟩ ∈ xws := xws_in (i := 376) (by decide +kernel) (by decide +kernel)
theorem xk377 : Cond.instanceMethod ⟨"PlatformsLeave$Line", "addTrain", "(I)Z"⟩ ∈ xws := xws_in (i := 377) (by decide +kernel) (by decide +kernel)
theorem xk378 : Cond.selects "PlatformsLeave$Line" ⟨"PlatformsLeave$Line", "addTrain", "(I)Z"⟩ ⟨"PlatformsLeave$Line", "addTrain", "(I)Z"⟩ ∈ xws := xws_in (i := 378) (by decide +kernel) (by decide +kernel)
theorem xk379 : Cond.code ⟨"PlatformsLeave$Line", "addTrain", "(I)Z"⟩ prog_5_method_9_code 2 (some .boolean) ∈ xws := xws_in (i := 379) (by decide +kernel) (by decide +kernel)
theorem xk380 : Cond.methodLink "PlatformsLeave$Line" 50 ⟨"PlatformsLeave$Line", "hasCell", "(I)Z"⟩ ∈ xws := xws_in (i := 380) (by decide +kernel) (by decide +kernel)
theorem xk381 : Cond.instanceMethod ⟨"PlatformsLeave$Line", "hasCell", "(I)Z"⟩ ∈ xws := xws_in (i := 381) (by decide +kernel) (by decide +kernel)
theorem xk382 : Cond.selects "PlatformsLeave$Line" ⟨"PlatformsLeave$Line", "hasCell", "(I)Z"⟩ ⟨"PlatformsLeave$Line", "hasCell", "(I)Z"⟩ ∈ xws := xws_in (i := 382) (by decide +kernel) (by decide +kernel)
theorem xk383 : Cond.code ⟨"PlatformsLeave$Line", "hasCell", "(I)Z"⟩ prog_5_method_3_code 2 (some .boolean) ∈ xws := xws_in (i := 383) (by decide +kernel) (by decide +kernel)
theorem xk384 : Cond.methodLink "PlatformsLeave$Text" 63 ⟨"PlatformsLeave$Line", "addPlatform", "(IIII)Z"⟩ ∈ xws := xws_in (i := 384) (by decide +kernel) (by decide +kernel)
theorem xk385 : Cond.instanceMethod ⟨"PlatformsLeave$Line", "addPlatform", "(IIII)Z"⟩ ∈ xws := xws_in (i := 385) (by decide +kernel) (by decide +kernel)
theorem xk386 : Cond.selects "PlatformsLeave$Line" ⟨"PlatformsLeave$Line", "addPlatform", "(IIII)Z"⟩ ⟨"PlatformsLeave$Line", "addPlatform", "(IIII)Z"⟩ ∈ xws := xws_in (i := 386) (by decide +kernel) (by decide +kernel)
theorem xk387 : Cond.code ⟨"PlatformsLeave$Line", "addPlatform", "(IIII)Z"⟩ prog_5_method_10_code 5 (some .boolean) ∈ xws := xws_in (i := 387) (by decide +kernel) (by decide +kernel)
theorem xk388 : Cond.methodLink "PlatformsLeave$Line" 54 ⟨"PlatformsLeave$Line", "toldIn", "(I)I"⟩ ∈ xws := xws_in (i := 388) (by decide +kernel) (by decide +kernel)
theorem xk389 : Cond.instanceMethod ⟨"PlatformsLeave$Line", "toldIn", "(I)I"⟩ ∈ xws := xws_in (i := 389) (by decide +kernel) (by decide +kernel)
theorem xk390 : Cond.selects "PlatformsLeave$Line" ⟨"PlatformsLeave$Line", "toldIn", "(I)I"⟩ ⟨"PlatformsLeave$Line", "toldIn", "(I)I"⟩ ∈ xws := xws_in (i := 390) (by decide +kernel) (by decide +kernel)
theorem xk391 : Cond.code ⟨"PlatformsLeave$Line", "toldIn", "(I)I"⟩ prog_5_method_6_code 4 (some .int) ∈ xws := xws_in (i := 391) (by decide +kernel) (by decide +kernel)
theorem xk393 : Cond.static ⟨"PlatformsLeave", "bit", "(II)I"⟩ ∈ xws := xws_in (i := 393) (by decide +kernel) (by decide +kernel)
theorem xk394 : Cond.code ⟨"PlatformsLeave", "bit", "(II)I"⟩ prog_1_method_30_code 2 (some .int) ∈ xws := xws_in (i := 394) (by decide +kernel) (by decide +kernel)
theorem xk395 : Cond.methodLink "PlatformsLeave$Text" 67 ⟨"PlatformsLeave$Line", "addPassing", "(I)Z"⟩ ∈ xws := xws_in (i := 395) (by decide +kernel) (by decide +kernel)
theorem xk396 : Cond.instanceMethod ⟨"PlatformsLeave$Line", "addPassing", "(I)Z"⟩ ∈ xws := xws_in (i := 396) (by decide +kernel) (by decide +kernel)
theorem xk397 : Cond.selects "PlatformsLeave$Line" ⟨"PlatformsLeave$Line", "addPassing", "(I)Z"⟩ ⟨"PlatformsLeave$Line", "addPassing", "(I)Z"⟩ ∈ xws := xws_in (i := 397) (by decide +kernel) (by decide +kernel)
theorem xk398 : Cond.code ⟨"PlatformsLeave$Line", "addPassing", "(I)Z"⟩ prog_5_method_11_code 2 (some .boolean) ∈ xws := xws_in (i := 398) (by decide +kernel) (by decide +kernel)
theorem xk399 : Cond.methodLink "PlatformsLeave$Text" 70 ⟨"PlatformsLeave$Line", "addRain", "(I)Z"⟩ ∈ xws := xws_in (i := 399) (by decide +kernel) (by decide +kernel)
theorem xk400 : Cond.instanceMethod ⟨"PlatformsLeave$Line", "addRain", "(I)Z"⟩ ∈ xws := xws_in (i := 400) (by decide +kernel) (by decide +kernel)
theorem xk401 : Cond.selects "PlatformsLeave$Line" ⟨"PlatformsLeave$Line", "addRain", "(I)Z"⟩ ⟨"PlatformsLeave$Line", "addRain", "(I)Z"⟩ ∈ xws := xws_in (i := 401) (by decide +kernel) (by decide +kernel)
theorem xk402 : Cond.code ⟨"PlatformsLeave$Line", "addRain", "(I)Z"⟩ prog_5_method_12_code 2 (some .boolean) ∈ xws := xws_in (i := 402) (by decide +kernel) (by decide +kernel)
theorem xk403 : Cond.fieldLink "PlatformsLeave" 10 "PlatformsLeave" "text" "LPlatformsLeave$Text;" ∈ xws := xws_in (i := 403) (by decide +kernel) (by decide +kernel)
theorem xk404 : Cond.fieldLink "PlatformsLeave" 19 "PlatformsLeave" "line" "LPlatformsLeave$Line;" ∈ xws := xws_in (i := 404) (by decide +kernel) (by decide +kernel)
theorem xk405 : Cond.fieldLink "PlatformsLeave" 23 "PlatformsLeave" "draft" "LPlatformsLeave$Line;" ∈ xws := xws_in (i := 405) (by decide +kernel) (by decide +kernel)
theorem xk406 : Cond.fieldLink "PlatformsLeave" 29 "PlatformsLeave" "changes" "LPlatformsLeave$Changes;" ∈ xws := xws_in (i := 406) (by decide +kernel) (by decide +kernel)
theorem xk407 : Cond.fieldLink "PlatformsLeave" 36 "PlatformsLeave" "kept" "LPlatformsLeave$Kept;" ∈ xws := xws_in (i := 407) (by decide +kernel) (by decide +kernel)
theorem xk408 : Cond.fieldLink "PlatformsLeave" 43 "PlatformsLeave" "clues" "LPlatformsLeave$Clues;" ∈ xws := xws_in (i := 408) (by decide +kernel) (by decide +kernel)
theorem xk409 : Cond.fieldLink "PlatformsLeave" 52 "PlatformsLeave" "run" "LPlatformsLeave$Run;" ∈ xws := xws_in (i := 409) (by decide +kernel) (by decide +kernel)
theorem xk410 : Cond.fieldLink "PlatformsLeave" 61 "PlatformsLeave" "rider" "LPlatformsLeave$Rider;" ∈ xws := xws_in (i := 410) (by decide +kernel) (by decide +kernel)
theorem xk429 : Cond.methodLink "PlatformsLeaveLaw" 13 ⟨"PlatformsLeave", "write", "(I)I"⟩ ∈ xws := xws_in (i := 429) (by decide +kernel) (by decide +kernel)
theorem xk430 : Cond.instanceMethod ⟨"PlatformsLeave", "write", "(I)I"⟩ ∈ xws := xws_in (i := 430) (by decide +kernel) (by decide +kernel)
theorem xk431 : Cond.selects "PlatformsLeave" ⟨"PlatformsLeave", "write", "(I)I"⟩ ⟨"PlatformsLeave", "write", "(I)I"⟩ ∈ xws := xws_in (i := 431) (by decide +kernel) (by decide +kernel)
theorem xk432 : Cond.code ⟨"PlatformsLeave", "write", "(I)I"⟩ prog_1_method_2_code 2 (some .int) ∈ xws := xws_in (i := 432) (by decide +kernel) (by decide +kernel)
theorem xk433 : Cond.methodLink "PlatformsLeave" 79 ⟨"PlatformsLeave$Text", "add", "(C)Z"⟩ ∈ xws := xws_in (i := 433) (by decide +kernel) (by decide +kernel)
theorem xk434 : Cond.methodLink "PlatformsLeaveLaw" 18 ⟨"PlatformsLeave", "wipe", "()I"⟩ ∈ xws := xws_in (i := 434) (by decide +kernel) (by decide +kernel)
theorem xk435 : Cond.instanceMethod ⟨"PlatformsLeave", "wipe", "()I"⟩ ∈ xws := xws_in (i := 435) (by decide +kernel) (by decide +kernel)
theorem xk436 : Cond.selects "PlatformsLeave" ⟨"PlatformsLeave", "wipe", "()I"⟩ ⟨"PlatformsLeave", "wipe", "()I"⟩ ∈ xws := xws_in (i := 436) (by decide +kernel) (by decide +kernel)
theorem xk437 : Cond.code ⟨"PlatformsLeave", "wipe", "()I"⟩ prog_1_method_3_code 2 (some .int) ∈ xws := xws_in (i := 437) (by decide +kernel) (by decide +kernel)
theorem xk438 : Cond.methodLink "PlatformsLeaveLaw" 23 ⟨"PlatformsLeave", "fault", "()I"⟩ ∈ xws := xws_in (i := 438) (by decide +kernel) (by decide +kernel)
theorem xk439 : Cond.instanceMethod ⟨"PlatformsLeave", "fault", "()I"⟩ ∈ xws := xws_in (i := 439) (by decide +kernel) (by decide +kernel)
theorem xk440 : Cond.selects "PlatformsLeave" ⟨"PlatformsLeave", "fault", "()I"⟩ ⟨"PlatformsLeave", "fault", "()I"⟩ ∈ xws := xws_in (i := 440) (by decide +kernel) (by decide +kernel)
theorem xk441 : Cond.code ⟨"PlatformsLeave", "fault", "()I"⟩ prog_1_method_4_code 1 (some .int) ∈ xws := xws_in (i := 441) (by decide +kernel) (by decide +kernel)
theorem xk442 : Cond.methodLink "PlatformsLeaveLaw" 27 ⟨"PlatformsLeave", "lay", "()I"⟩ ∈ xws := xws_in (i := 442) (by decide +kernel) (by decide +kernel)
theorem xk443 : Cond.instanceMethod ⟨"PlatformsLeave", "lay", "()I"⟩ ∈ xws := xws_in (i := 443) (by decide +kernel) (by decide +kernel)
theorem xk444 : Cond.selects "PlatformsLeave" ⟨"PlatformsLeave", "lay", "()I"⟩ ⟨"PlatformsLeave", "lay", "()I"⟩ ∈ xws := xws_in (i := 444) (by decide +kernel) (by decide +kernel)
theorem xk445 : Cond.code ⟨"PlatformsLeave", "lay", "()I"⟩ prog_1_method_5_code 1 (some .int) ∈ xws := xws_in (i := 445) (by decide +kernel) (by decide +kernel)
theorem xk446 : Cond.methodLink "PlatformsLeaveLaw" 31 ⟨"PlatformsLeave", "platform", "(II)I"⟩ ∈ xws := xws_in (i := 446) (by decide +kernel) (by decide +kernel)
theorem xk447 : Cond.instanceMethod ⟨"PlatformsLeave", "platform", "(II)I"⟩ ∈ xws := xws_in (i := 447) (by decide +kernel) (by decide +kernel)
theorem xk448 : Cond.selects "PlatformsLeave" ⟨"PlatformsLeave", "platform", "(II)I"⟩ ⟨"PlatformsLeave", "platform", "(II)I"⟩ ∈ xws := xws_in (i := 448) (by decide +kernel) (by decide +kernel)
theorem xk449 : Cond.code ⟨"PlatformsLeave", "platform", "(II)I"⟩ prog_1_method_6_code 3 (some .int) ∈ xws := xws_in (i := 449) (by decide +kernel) (by decide +kernel)
theorem xk450 : Cond.methodLink "PlatformsLeave" 91 ⟨"PlatformsLeave$Line", "hasPlatform", "(I)Z"⟩ ∈ xws := xws_in (i := 450) (by decide +kernel) (by decide +kernel)
theorem xk451 : Cond.instanceMethod ⟨"PlatformsLeave$Line", "hasPlatform", "(I)Z"⟩ ∈ xws := xws_in (i := 451) (by decide +kernel) (by decide +kernel)
theorem xk452 : Cond.selects "PlatformsLeave$Line" ⟨"PlatformsLeave$Line", "hasPlatform", "(I)Z"⟩ ⟨"PlatformsLeave$Line", "hasPlatform", "(I)Z"⟩ ∈ xws := xws_in (i := 452) (by decide +kernel) (by decide +kernel)
theorem xk453 : Cond.code ⟨"PlatformsLeave$Line", "hasPlatform", "(I)Z"⟩ prog_5_method_5_code 2 (some .boolean) ∈ xws := xws_in (i := 453) (by decide +kernel) (by decide +kernel)
theorem xk454 : Cond.methodLink "PlatformsLeave" 105 ⟨"PlatformsLeave", "bit", "(II)I"⟩ ∈ xws := xws_in (i := 454) (by decide +kernel) (by decide +kernel)
theorem xk455 : Cond.methodLink "PlatformsLeaveLaw" 36 ⟨"PlatformsLeave", "train", "(I)I"⟩ ∈ xws := xws_in (i := 455) (by decide +kernel) (by decide +kernel)
theorem xk456 : Cond.instanceMethod ⟨"PlatformsLeave", "train", "(I)I"⟩ ∈ xws := xws_in (i := 456) (by decide +kernel) (by decide +kernel)
theorem xk457 : Cond.selects "PlatformsLeave" ⟨"PlatformsLeave", "train", "(I)I"⟩ ⟨"PlatformsLeave", "train", "(I)I"⟩ ∈ xws := xws_in (i := 457) (by decide +kernel) (by decide +kernel)
theorem xk458 : Cond.code ⟨"PlatformsLeave", "train", "(I)I"⟩ prog_1_method_7_code 2 (some .int) ∈ xws := xws_in (i := 458) (by decide +kernel) (by decide +kernel)
theorem xk459 : Cond.methodLink "PlatformsLeave" 121 ⟨"PlatformsLeave$Line", "hasTrain", "(I)Z"⟩ ∈ xws := xws_in (i := 459) (by decide +kernel) (by decide +kernel)
theorem xk460 : Cond.instanceMethod ⟨"PlatformsLeave$Line", "hasTrain", "(I)Z"⟩ ∈ xws := xws_in (i := 460) (by decide +kernel) (by decide +kernel)
theorem xk461 : Cond.selects "PlatformsLeave$Line" ⟨"PlatformsLeave$Line", "hasTrain", "(I)Z"⟩ ⟨"PlatformsLeave$Line", "hasTrain", "(I)Z"⟩ ∈ xws := xws_in (i := 461) (by decide +kernel) (by decide +kernel)
theorem xk462 : Cond.code ⟨"PlatformsLeave$Line", "hasTrain", "(I)Z"⟩ prog_5_method_4_code 2 (some .boolean) ∈ xws := xws_in (i := 462) (by decide +kernel) (by decide +kernel)
theorem xk463 : Cond.methodLink "PlatformsLeaveLaw" 40 ⟨"PlatformsLeave", "cell", "(II)I"⟩ ∈ xws := xws_in (i := 463) (by decide +kernel) (by decide +kernel)
theorem xk464 : Cond.instanceMethod ⟨"PlatformsLeave", "cell", "(II)I"⟩ ∈ xws := xws_in (i := 464) (by decide +kernel) (by decide +kernel)
theorem xk465 : Cond.selects "PlatformsLeave" ⟨"PlatformsLeave", "cell", "(II)I"⟩ ⟨"PlatformsLeave", "cell", "(II)I"⟩ ∈ xws := xws_in (i := 465) (by decide +kernel) (by decide +kernel)
theorem xk466 : Cond.code ⟨"PlatformsLeave", "cell", "(II)I"⟩ prog_1_method_8_code 3 (some .int) ∈ xws := xws_in (i := 466) (by decide +kernel) (by decide +kernel)
theorem xk467 : Cond.methodLink "PlatformsLeave" 127 ⟨"PlatformsLeave$Line", "hasCell", "(I)Z"⟩ ∈ xws := xws_in (i := 467) (by decide +kernel) (by decide +kernel)
theorem xk468 : Cond.methodLink "PlatformsLeave" 130 ⟨"PlatformsLeave", "isEither", "(I)Z"⟩ ∈ xws := xws_in (i := 468) (by decide +kernel) (by decide +kernel)
theorem xk469 : Cond.static ⟨"PlatformsLeave", "isEither", "(I)Z"⟩ ∈ xws := xws_in (i := 469) (by decide +kernel) (by decide +kernel)
theorem xk470 : Cond.code ⟨"PlatformsLeave", "isEither", "(I)Z"⟩ prog_1_method_29_code 1 (some .boolean) ∈ xws := xws_in (i := 470) (by decide +kernel) (by decide +kernel)
theorem xk471 : Cond.methodLink "PlatformsLeaveLaw" 44 ⟨"PlatformsLeave", "start", "(II)I"⟩ ∈ xws := xws_in (i := 471) (by decide +kernel) (by decide +kernel)
theorem xk472 : Cond.instanceMethod ⟨"PlatformsLeave", "start", "(II)I"⟩ ∈ xws := xws_in (i := 472) (by decide +kernel) (by decide +kernel)
theorem xk473 : Cond.selects "PlatformsLeave" ⟨"PlatformsLeave", "start", "(II)I"⟩ ⟨"PlatformsLeave", "start", "(II)I"⟩ ∈ xws := xws_in (i := 473) (by decide +kernel) (by decide +kernel)
theorem xk474 : Cond.code ⟨"PlatformsLeave", "start", "(II)I"⟩ prog_1_method_9_code 4 (some .int) ∈ xws := xws_in (i := 474) (by decide +kernel) (by decide +kernel)
theorem xk475 : Cond.methodLink "PlatformsLeave" 139 ⟨"PlatformsLeave$Changes", "add", "(III)V"⟩ ∈ xws := xws_in (i := 475) (by decide +kernel) (by decide +kernel)
theorem xk476 : Cond.instanceMethod ⟨"PlatformsLeave$Changes", "add", "(III)V"⟩ ∈ xws := xws_in (i := 476) (by decide +kernel) (by decide +kernel)
theorem xk477 : Cond.selects "PlatformsLeave$Changes" ⟨"PlatformsLeave$Changes", "add", "(III)V"⟩ ⟨"PlatformsLeave$Changes", "add", "(III)V"⟩ ∈ xws := xws_in (i := 477) (by decide +kernel) (by decide +kernel)
theorem xk478 : Cond.code ⟨"PlatformsLeave$Changes", "add", "(III)V"⟩ prog_2_method_2_code 4 none ∈ xws := xws_in (i := 478) (by decide +kernel) (by decide +kernel)
theorem xk479 : Cond.methodLink "PlatformsLeave$Changes" 25 ⟨"PlatformsLeave$Changes", "dropOldest", "()V"⟩ ∈ xws := xws_in (i := 479) (by decide +kernel) (by decide +kernel)
theorem xk481 : Cond.instanceMethod ⟨"PlatformsLeave$Changes", "dropOldest", "()V"⟩ ∈ xws := xws_in (i := 481) (by decide +kernel) (by decide +kernel)
theorem xk482 : Cond.code ⟨"PlatformsLeave$Changes", "dropOldest", "()V"⟩ prog_2_method_3_code 2 none ∈ xws := xws_in (i := 482) (by decide +kernel) (by decide +kernel)
theorem xk483 : Cond.methodLink "PlatformsLeaveLaw" 48 ⟨"PlatformsLeave", "hold", "(I)I"⟩ ∈ xws := xws_in (i := 483) (by decide +kernel) (by decide +kernel)
theorem xk484 : Cond.instanceMethod ⟨"PlatformsLeave", "hold", "(I)I"⟩ ∈ xws := xws_in (i := 484) (by decide +kernel) (by decide +kernel)
theorem xk485 : Cond.selects "PlatformsLeave" ⟨"PlatformsLeave", "hold", "(I)I"⟩ ⟨"PlatformsLeave", "hold", "(I)I"⟩ ∈ xws := xws_in (i := 485) (by decide +kernel) (by decide +kernel)
theorem xk486 : Cond.code ⟨"PlatformsLeave", "hold", "(I)I"⟩ prog_1_method_10_code 2 (some .int) ∈ xws := xws_in (i := 486) (by decide +kernel) (by decide +kernel)
theorem xk487 : Cond.methodLink "PlatformsLeaveLaw" 52 ⟨"PlatformsLeave", "pass", "(I)I"⟩ ∈ xws := xws_in (i := 487) (by decide +kernel) (by decide +kernel)
theorem xk488 : Cond.instanceMethod ⟨"PlatformsLeave", "pass", "(I)I"⟩ ∈ xws := xws_in (i := 488) (by decide +kernel) (by decide +kernel)
theorem xk489 : Cond.selects "PlatformsLeave" ⟨"PlatformsLeave", "pass", "(I)I"⟩ ⟨"PlatformsLeave", "pass", "(I)I"⟩ ∈ xws := xws_in (i := 489) (by decide +kernel) (by decide +kernel)
theorem xk490 : Cond.code ⟨"PlatformsLeave", "pass", "(I)I"⟩ prog_1_method_11_code 2 (some .int) ∈ xws := xws_in (i := 490) (by decide +kernel) (by decide +kernel)
theorem xk491 : Cond.methodLink "PlatformsLeave" 142 ⟨"PlatformsLeave$Line", "toldIn", "(I)I"⟩ ∈ xws := xws_in (i := 491) (by decide +kernel) (by decide +kernel)
theorem xk492 : Cond.methodLink "PlatformsLeaveLaw" 56 ⟨"PlatformsLeave", "undo", "()I"⟩ ∈ xws := xws_in (i := 492) (by decide +kernel) (by decide +kernel)
theorem xk493 : Cond.instanceMethod ⟨"PlatformsLeave", "undo", "()I"⟩ ∈ xws := xws_in (i := 493) (by decide +kernel) (by decide +kernel)
theorem xk494 : Cond.selects "PlatformsLeave" ⟨"PlatformsLeave", "undo", "()I"⟩ ⟨"PlatformsLeave", "undo", "()I"⟩ ∈ xws := xws_in (i := 494) (by decide +kernel) (by decide +kernel)
theorem xk495 : Cond.code ⟨"PlatformsLeave", "undo", "()I"⟩ prog_1_method_12_code 1 (some .int) ∈ xws := xws_in (i := 495) (by decide +kernel) (by decide +kernel)
theorem xk496 : Cond.methodLink "PlatformsLeave" 146 ⟨"PlatformsLeave$Changes", "takeBack", "(LPlatformsLeave$Setting;)Z"⟩ ∈ xws := xws_in (i := 496) (by decide +kernel) (by decide +kernel)
theorem xk497 : Cond.instanceMethod ⟨"PlatformsLeave$Changes", "takeBack", "(LPlatformsLeave$Setting;)Z"⟩ ∈ xws := xws_in (i := 497) (by decide +kernel) (by decide +kernel)
theorem xk498 : Cond.selects "PlatformsLeave$Changes" ⟨"PlatformsLeave$Changes", "takeBack", "(LPlatformsLeave$Setting;)Z"⟩ ⟨"PlatformsLeave$Changes", "takeBack", "(LPlatformsLeave$Setting;)Z"⟩ ∈ xws := xws_in (i := 498) (by decide +kernel) (by decide +kernel)
theorem xk499 : Cond.code ⟨"PlatformsLeave$Changes", "takeBack", "(LPlatformsLeave$Setting;)Z"⟩ prog_2_method_4_code 3 (some .boolean) ∈ xws := xws_in (i := 499) (by decide +kernel) (by decide +kernel)
theorem xk500 : Cond.methodLink "PlatformsLeaveLaw" 60 ⟨"PlatformsLeave", "where", "(III)I"⟩ ∈ xws := xws_in (i := 500) (by decide +kernel) (by decide +kernel)
theorem xk501 : Cond.instanceMethod ⟨"PlatformsLeave", "where", "(III)I"⟩ ∈ xws := xws_in (i := 501) (by decide +kernel) (by decide +kernel)
theorem xk502 : Cond.selects "PlatformsLeave" ⟨"PlatformsLeave", "where", "(III)I"⟩ ⟨"PlatformsLeave", "where", "(III)I"⟩ ∈ xws := xws_in (i := 502) (by decide +kernel) (by decide +kernel)
theorem xk503 : Cond.code ⟨"PlatformsLeave", "where", "(III)I"⟩ prog_1_method_13_code 4 (some .int) ∈ xws := xws_in (i := 503) (by decide +kernel) (by decide +kernel)
theorem xk504 : Cond.methodLink "PlatformsLeave" 150 ⟨"PlatformsLeave$Run", "begin", "()V"⟩ ∈ xws := xws_in (i := 504) (by decide +kernel) (by decide +kernel)
theorem xk505 : Cond.instanceMethod ⟨"PlatformsLeave$Run", "begin", "()V"⟩ ∈ xws := xws_in (i := 505) (by decide +kernel) (by decide +kernel)
theorem xk506 : Cond.selects "PlatformsLeave$Run" ⟨"PlatformsLeave$Run", "begin", "()V"⟩ ⟨"PlatformsLeave$Run", "begin", "()V"⟩ ∈ xws := xws_in (i := 506) (by decide +kernel) (by decide +kernel)
theorem xk507 : Cond.code ⟨"PlatformsLeave$Run", "begin", "()V"⟩ prog_7_method_2_code 2 none ∈ xws := xws_in (i := 507) (by decide +kernel) (by decide +kernel)
theorem xk508 : Cond.methodLink "PlatformsLeave$Run" 44 ⟨"PlatformsLeave$Setting", "copy", "(LPlatformsLeave$Setting;)V"⟩ ∈ xws := xws_in (i := 508) (by decide +kernel) (by decide +kernel)
theorem xk509 : Cond.instanceMethod ⟨"PlatformsLeave$Setting", "copy", "(LPlatformsLeave$Setting;)V"⟩ ∈ xws := xws_in (i := 509) (by decide +kernel) (by decide +kernel)
theorem xk510 : Cond.selects "PlatformsLeave$Setting" ⟨"PlatformsLeave$Setting", "copy", "(LPlatformsLeave$Setting;)V"⟩ ⟨"PlatformsLeave$Setting", "copy", "(LPlatformsLeave$Setting;)V"⟩ ∈ xws := xws_in (i := 510) (by decide +kernel) (by decide +kernel)
theorem xk511 : Cond.code ⟨"PlatformsLeave$Setting", "copy", "(LPlatformsLeave$Setting;)V"⟩ prog_8_method_2_code 3 none ∈ xws := xws_in (i := 511) (by decide +kernel) (by decide +kernel)
theorem xk512 : Cond.methodLink "PlatformsLeave" 153 ⟨"PlatformsLeave$Run", "goTo", "(I)V"⟩ ∈ xws := xws_in (i := 512) (by decide +kernel) (by decide +kernel)
theorem xk513 : Cond.instanceMethod ⟨"PlatformsLeave$Run", "goTo", "(I)V"⟩ ∈ xws := xws_in (i := 513) (by decide +kernel) (by decide +kernel)
theorem xk514 : Cond.selects "PlatformsLeave$Run" ⟨"PlatformsLeave$Run", "goTo", "(I)V"⟩ ⟨"PlatformsLeave$Run", "goTo", "(I)V"⟩ ∈ xws := xws_in (i := 514) (by decide +kernel) (by decide +kernel)
theorem xk515 : Cond.code ⟨"PlatformsLeave$Run", "goTo", "(I)V"⟩ prog_7_method_3_code 3 none ∈ xws := xws_in (i := 515) (by decide +kernel) (by decide +kernel)
theorem xk516 : Cond.methodLink "PlatformsLeave$Run" 68 ⟨"PlatformsLeave$Run", "goOn", "()V"⟩ ∈ xws := xws_in (i := 516) (by decide +kernel) (by decide +kernel)
theorem xk518 : Cond.instanceMethod ⟨"PlatformsLeave$Run", "goOn", "()V"⟩ ∈ xws := xws_in (i := 518) (by decide +kernel) (by decide +kernel)
theorem xk519 : Cond.code ⟨"PlatformsLeave$Run", "goOn", "()V"⟩ prog_7_method_4_code 2 none ∈ xws := xws_in (i := 519) (by decide +kernel) (by decide +kernel)
theorem xk520 : Cond.methodLink "PlatformsLeave$Run" 71 ⟨"PlatformsLeave$Run", "wantsOn", "(I)Z"⟩ ∈ xws := xws_in (i := 520) (by decide +kernel) (by decide +kernel)
theorem xk522 : Cond.instanceMethod ⟨"PlatformsLeave$Run", "wantsOn", "(I)Z"⟩ ∈ xws := xws_in (i := 522) (by decide +kernel) (by decide +kernel)
theorem xk523 : Cond.code ⟨"PlatformsLeave$Run", "wantsOn", "(I)Z"⟩ prog_7_method_5_code 2 (some .boolean) ∈ xws := xws_in (i := 523) (by decide +kernel) (by decide +kernel)
theorem xk525 : Cond.methodLink "PlatformsLeave$Run" 75 ⟨"PlatformsLeave$Run", "move", "(I)V"⟩ ∈ xws := xws_in (i := 525) (by decide +kernel) (by decide +kernel)
theorem xk527 : Cond.instanceMethod ⟨"PlatformsLeave$Run", "move", "(I)V"⟩ ∈ xws := xws_in (i := 527) (by decide +kernel) (by decide +kernel)
theorem xk528 : Cond.code ⟨"PlatformsLeave$Run", "move", "(I)V"⟩ prog_7_method_6_code 3 none ∈ xws := xws_in (i := 528) (by decide +kernel) (by decide +kernel)
theorem xk529 : Cond.methodLink "PlatformsLeave$Run" 95 ⟨"PlatformsLeave$Run", "goesIn", "(I)Z"⟩ ∈ xws := xws_in (i := 529) (by decide +kernel) (by decide +kernel)
theorem xk531 : Cond.instanceMethod ⟨"PlatformsLeave$Run", "goesIn", "(I)Z"⟩ ∈ xws := xws_in (i := 531) (by decide +kernel) (by decide +kernel)
theorem xk532 : Cond.code ⟨"PlatformsLeave$Run", "goesIn", "(I)Z"⟩ prog_7_method_7_code 3 (some .boolean) ∈ xws := xws_in (i := 532) (by decide +kernel) (by decide +kernel)
theorem xk533 : Cond.methodLink "PlatformsLeave$Run" 98 ⟨"PlatformsLeave$Line", "nextCell", "(IZ)I"⟩ ∈ xws := xws_in (i := 533) (by decide +kernel) (by decide +kernel)
theorem xk534 : Cond.instanceMethod ⟨"PlatformsLeave$Line", "nextCell", "(IZ)I"⟩ ∈ xws := xws_in (i := 534) (by decide +kernel) (by decide +kernel)
theorem xk535 : Cond.selects "PlatformsLeave$Line" ⟨"PlatformsLeave$Line", "nextCell", "(IZ)I"⟩ ⟨"PlatformsLeave$Line", "nextCell", "(IZ)I"⟩ ∈ xws := xws_in (i := 535) (by decide +kernel) (by decide +kernel)
theorem xk536 : Cond.code ⟨"PlatformsLeave$Line", "nextCell", "(IZ)I"⟩ prog_5_method_13_code 3 (some .int) ∈ xws := xws_in (i := 536) (by decide +kernel) (by decide +kernel)
theorem xk537 : Cond.methodLink "PlatformsLeave$Run" 105 ⟨"PlatformsLeave$Line", "standsIn", "(I)Z"⟩ ∈ xws := xws_in (i := 537) (by decide +kernel) (by decide +kernel)
theorem xk538 : Cond.instanceMethod ⟨"PlatformsLeave$Line", "standsIn", "(I)Z"⟩ ∈ xws := xws_in (i := 538) (by decide +kernel) (by decide +kernel)
theorem xk539 : Cond.selects "PlatformsLeave$Line" ⟨"PlatformsLeave$Line", "standsIn", "(I)Z"⟩ ⟨"PlatformsLeave$Line", "standsIn", "(I)Z"⟩ ∈ xws := xws_in (i := 539) (by decide +kernel) (by decide +kernel)
theorem xk540 : Cond.code ⟨"PlatformsLeave$Line", "standsIn", "(I)Z"⟩ prog_5_method_7_code 3 (some .boolean) ∈ xws := xws_in (i := 540) (by decide +kernel) (by decide +kernel)
theorem xk541 : Cond.methodLink "PlatformsLeaveLaw" 65 ⟨"PlatformsLeave", "first", "(II)I"⟩ ∈ xws := xws_in (i := 541) (by decide +kernel) (by decide +kernel)
theorem xk542 : Cond.instanceMethod ⟨"PlatformsLeave", "first", "(II)I"⟩ ∈ xws := xws_in (i := 542) (by decide +kernel) (by decide +kernel)
theorem xk543 : Cond.selects "PlatformsLeave" ⟨"PlatformsLeave", "first", "(II)I"⟩ ⟨"PlatformsLeave", "first", "(II)I"⟩ ∈ xws := xws_in (i := 543) (by decide +kernel) (by decide +kernel)
theorem xk544 : Cond.code ⟨"PlatformsLeave", "first", "(II)I"⟩ prog_1_method_14_code 3 (some .int) ∈ xws := xws_in (i := 544) (by decide +kernel) (by decide +kernel)
theorem xk545 : Cond.methodLink "PlatformsLeave" 166 ⟨"PlatformsLeave$Run", "firstAt", "(II)I"⟩ ∈ xws := xws_in (i := 545) (by decide +kernel) (by decide +kernel)
theorem xk546 : Cond.instanceMethod ⟨"PlatformsLeave$Run", "firstAt", "(II)I"⟩ ∈ xws := xws_in (i := 546) (by decide +kernel) (by decide +kernel)
theorem xk547 : Cond.selects "PlatformsLeave$Run" ⟨"PlatformsLeave$Run", "firstAt", "(II)I"⟩ ⟨"PlatformsLeave$Run", "firstAt", "(II)I"⟩ ∈ xws := xws_in (i := 547) (by decide +kernel) (by decide +kernel)
theorem xk548 : Cond.code ⟨"PlatformsLeave$Run", "firstAt", "(II)I"⟩ prog_7_method_11_code 4 (some .int) ∈ xws := xws_in (i := 548) (by decide +kernel) (by decide +kernel)
theorem xk549 : Cond.methodLink "PlatformsLeave$Run" 114 ⟨"PlatformsLeave$Run", "goTo", "(I)V"⟩ ∈ xws := xws_in (i := 549) (by decide +kernel) (by decide +kernel)
theorem xk550 : Cond.methodLink "PlatformsLeave$Run" 117 ⟨"PlatformsLeave$Run", "isAt", "(II)Z"⟩ ∈ xws := xws_in (i := 550) (by decide +kernel) (by decide +kernel)
theorem xk551 : Cond.instanceMethod ⟨"PlatformsLeave$Run", "isAt", "(II)Z"⟩ ∈ xws := xws_in (i := 551) (by decide +kernel) (by decide +kernel)
theorem xk552 : Cond.selects "PlatformsLeave$Run" ⟨"PlatformsLeave$Run", "isAt", "(II)Z"⟩ ⟨"PlatformsLeave$Run", "isAt", "(II)Z"⟩ ∈ xws := xws_in (i := 552) (by decide +kernel) (by decide +kernel)
theorem xk553 : Cond.code ⟨"PlatformsLeave$Run", "isAt", "(II)Z"⟩ prog_7_method_8_code 3 (some .boolean) ∈ xws := xws_in (i := 553) (by decide +kernel) (by decide +kernel)
theorem xk554 : Cond.methodLink "PlatformsLeaveLaw" 69 ⟨"PlatformsLeave", "hang", "()I"⟩ ∈ xws := xws_in (i := 554) (by decide +kernel) (by decide +kernel)
theorem xk555 : Cond.instanceMethod ⟨"PlatformsLeave", "hang", "()I"⟩ ∈ xws := xws_in (i := 555) (by decide +kernel) (by decide +kernel)
theorem xk556 : Cond.selects "PlatformsLeave" ⟨"PlatformsLeave", "hang", "()I"⟩ ⟨"PlatformsLeave", "hang", "()I"⟩ ∈ xws := xws_in (i := 556) (by decide +kernel) (by decide +kernel)
theorem xk557 : Cond.code ⟨"PlatformsLeave", "hang", "()I"⟩ prog_1_method_15_code 3 (some .int) ∈ xws := xws_in (i := 557) (by decide +kernel) (by decide +kernel)
theorem xk558 : Cond.methodLink "PlatformsLeave" 169 ⟨"PlatformsLeave$Run", "hangs", "(I)Z"⟩ ∈ xws := xws_in (i := 558) (by decide +kernel) (by decide +kernel)
theorem xk559 : Cond.instanceMethod ⟨"PlatformsLeave$Run", "hangs", "(I)Z"⟩ ∈ xws := xws_in (i := 559) (by decide +kernel) (by decide +kernel)
theorem xk560 : Cond.selects "PlatformsLeave$Run" ⟨"PlatformsLeave$Run", "hangs", "(I)Z"⟩ ⟨"PlatformsLeave$Run", "hangs", "(I)Z"⟩ ∈ xws := xws_in (i := 560) (by decide +kernel) (by decide +kernel)
theorem xk561 : Cond.code ⟨"PlatformsLeave$Run", "hangs", "(I)Z"⟩ prog_7_method_12_code 2 (some .boolean) ∈ xws := xws_in (i := 561) (by decide +kernel) (by decide +kernel)
theorem xk562 : Cond.methodLink "PlatformsLeaveLaw" 73 ⟨"PlatformsLeave", "trip", "(III)I"⟩ ∈ xws := xws_in (i := 562) (by decide +kernel) (by decide +kernel)
theorem xk563 : Cond.instanceMethod ⟨"PlatformsLeave", "trip", "(III)I"⟩ ∈ xws := xws_in (i := 563) (by decide +kernel) (by decide +kernel)
theorem xk564 : Cond.selects "PlatformsLeave" ⟨"PlatformsLeave", "trip", "(III)I"⟩ ⟨"PlatformsLeave", "trip", "(III)I"⟩ ∈ xws := xws_in (i := 564) (by decide +kernel) (by decide +kernel)
theorem xk565 : Cond.code ⟨"PlatformsLeave", "trip", "(III)I"⟩ prog_1_method_16_code 5 (some .int) ∈ xws := xws_in (i := 565) (by decide +kernel) (by decide +kernel)
theorem xk566 : Cond.methodLink "PlatformsLeave" 172 ⟨"PlatformsLeave$Rider", "ride", "(II)I"⟩ ∈ xws := xws_in (i := 566) (by decide +kernel) (by decide +kernel)
theorem xk567 : Cond.instanceMethod ⟨"PlatformsLeave$Rider", "ride", "(II)I"⟩ ∈ xws := xws_in (i := 567) (by decide +kernel) (by decide +kernel)
theorem xk568 : Cond.selects "PlatformsLeave$Rider" ⟨"PlatformsLeave$Rider", "ride", "(II)I"⟩ ⟨"PlatformsLeave$Rider", "ride", "(II)I"⟩ ∈ xws := xws_in (i := 568) (by decide +kernel) (by decide +kernel)
theorem xk569 : Cond.code ⟨"PlatformsLeave$Rider", "ride", "(II)I"⟩ prog_6_method_2_code 4 (some .int) ∈ xws := xws_in (i := 569) (by decide +kernel) (by decide +kernel)
theorem xk570 : Cond.constant "PlatformsLeave$Rider" 22 (1000000) ∈ xws := xws_in (i := 570) (by decide +kernel) (by decide +kernel)
theorem xk571 : Cond.methodLink "PlatformsLeave$Rider" 23 ⟨"PlatformsLeave$Run", "begin", "()V"⟩ ∈ xws := xws_in (i := 571) (by decide +kernel) (by decide +kernel)
theorem xk572 : Cond.methodLink "PlatformsLeave$Rider" 28 ⟨"PlatformsLeave$Run", "goTo", "(I)V"⟩ ∈ xws := xws_in (i := 572) (by decide +kernel) (by decide +kernel)
theorem xk573 : Cond.methodLink "PlatformsLeave$Rider" 32 ⟨"PlatformsLeave$Rider", "change", "()V"⟩ ∈ xws := xws_in (i := 573) (by decide +kernel) (by decide +kernel)
theorem xk575 : Cond.instanceMethod ⟨"PlatformsLeave$Rider", "change", "()V"⟩ ∈ xws := xws_in (i := 575) (by decide +kernel) (by decide +kernel)
theorem xk576 : Cond.code ⟨"PlatformsLeave$Rider", "change", "()V"⟩ prog_6_method_3_code 1 none ∈ xws := xws_in (i := 576) (by decide +kernel) (by decide +kernel)
theorem xk577 : Cond.methodLink "PlatformsLeave$Rider" 35 ⟨"PlatformsLeave$Rider", "getOff", "()V"⟩ ∈ xws := xws_in (i := 577) (by decide +kernel) (by decide +kernel)
theorem xk579 : Cond.instanceMethod ⟨"PlatformsLeave$Rider", "getOff", "()V"⟩ ∈ xws := xws_in (i := 579) (by decide +kernel) (by decide +kernel)
theorem xk580 : Cond.code ⟨"PlatformsLeave$Rider", "getOff", "()V"⟩ prog_6_method_5_code 3 none ∈ xws := xws_in (i := 580) (by decide +kernel) (by decide +kernel)
theorem xk581 : Cond.methodLink "PlatformsLeave$Rider" 54 ⟨"PlatformsLeave$Run", "isAt", "(II)Z"⟩ ∈ xws := xws_in (i := 581) (by decide +kernel) (by decide +kernel)
theorem xk582 : Cond.methodLink "PlatformsLeave$Rider" 58 ⟨"java/lang/Math", "min", "(II)I"⟩ ∈ xws := xws_in (i := 582) (by decide +kernel) (by decide +kernel)
theorem xk583 : Cond.static ⟨"java/lang/Math", "min", "(II)I"⟩ ∈ xws := xws_in (i := 583) (by decide +kernel) (by decide +kernel)
theorem xk584 : Cond.code ⟨"java/lang/Math", "min", "(II)I"⟩ prog_13_method_69_code 2 (some .int) ∈ xws := xws_in (i := 584) (by decide +kernel) (by decide +kernel)
theorem xk585 : Cond.methodLink "PlatformsLeave$Rider" 38 ⟨"PlatformsLeave$Rider", "getOn", "()V"⟩ ∈ xws := xws_in (i := 585) (by decide +kernel) (by decide +kernel)
theorem xk587 : Cond.instanceMethod ⟨"PlatformsLeave$Rider", "getOn", "()V"⟩ ∈ xws := xws_in (i := 587) (by decide +kernel) (by decide +kernel)
theorem xk588 : Cond.code ⟨"PlatformsLeave$Rider", "getOn", "()V"⟩ prog_6_method_4_code 3 none ∈ xws := xws_in (i := 588) (by decide +kernel) (by decide +kernel)
theorem xk589 : Cond.methodLink "PlatformsLeaveLaw" 77 ⟨"PlatformsLeave", "best", "(III)I"⟩ ∈ xws := xws_in (i := 589) (by decide +kernel) (by decide +kernel)
theorem xk590 : Cond.instanceMethod ⟨"PlatformsLeave", "best", "(III)I"⟩ ∈ xws := xws_in (i := 590) (by decide +kernel) (by decide +kernel)
theorem xk591 : Cond.selects "PlatformsLeave" ⟨"PlatformsLeave", "best", "(III)I"⟩ ⟨"PlatformsLeave", "best", "(III)I"⟩ ∈ xws := xws_in (i := 591) (by decide +kernel) (by decide +kernel)
theorem xk592 : Cond.code ⟨"PlatformsLeave", "best", "(III)I"⟩ prog_1_method_17_code 8 (some .int) ∈ xws := xws_in (i := 592) (by decide +kernel) (by decide +kernel)
theorem xk593 : Cond.methodLink "PlatformsLeaveLaw" 81 ⟨"PlatformsLeave", "places", "(I)I"⟩ ∈ xws := xws_in (i := 593) (by decide +kernel) (by decide +kernel)
theorem xk594 : Cond.instanceMethod ⟨"PlatformsLeave", "places", "(I)I"⟩ ∈ xws := xws_in (i := 594) (by decide +kernel) (by decide +kernel)
theorem xk595 : Cond.selects "PlatformsLeave" ⟨"PlatformsLeave", "places", "(I)I"⟩ ⟨"PlatformsLeave", "places", "(I)I"⟩ ∈ xws := xws_in (i := 595) (by decide +kernel) (by decide +kernel)
theorem xk596 : Cond.code ⟨"PlatformsLeave", "places", "(I)I"⟩ prog_1_method_18_code 3 (some .int) ∈ xws := xws_in (i := 596) (by decide +kernel) (by decide +kernel)
theorem xk597 : Cond.methodLink "PlatformsLeave" 179 ⟨"PlatformsLeave", "fewestPlaces", "()I"⟩ ∈ xws := xws_in (i := 597) (by decide +kernel) (by decide +kernel)
theorem xk599 : Cond.instanceMethod ⟨"PlatformsLeave", "fewestPlaces", "()I"⟩ ∈ xws := xws_in (i := 599) (by decide +kernel) (by decide +kernel)
theorem xk600 : Cond.code ⟨"PlatformsLeave", "fewestPlaces", "()I"⟩ prog_1_method_31_code 3 (some .int) ∈ xws := xws_in (i := 600) (by decide +kernel) (by decide +kernel)
theorem xk601 : Cond.methodLink "PlatformsLeave" 183 ⟨"java/lang/Integer", "bitCount", "(I)I"⟩ ∈ xws := xws_in (i := 601) (by decide +kernel) (by decide +kernel)
theorem xk602 : Cond.static ⟨"java/lang/Integer", "bitCount", "(I)I"⟩ ∈ xws := xws_in (i := 602) (by decide +kernel) (by decide +kernel)
theorem xk607 : Cond.methodLink "PlatformsLeave" 188 ⟨"PlatformsLeave", "kthOf", "(II)I"⟩ ∈ xws := xws_in (i := 607) (by decide +kernel) (by decide +kernel)
theorem xk608 : Cond.static ⟨"PlatformsLeave", "kthOf", "(II)I"⟩ ∈ xws := xws_in (i := 608) (by decide +kernel) (by decide +kernel)
theorem xk609 : Cond.code ⟨"PlatformsLeave", "kthOf", "(II)I"⟩ prog_1_method_32_code 4 (some .int) ∈ xws := xws_in (i := 609) (by decide +kernel) (by decide +kernel)
theorem xk610 : Cond.methodLink "PlatformsLeaveLaw" 85 ⟨"PlatformsLeave", "came", "(IIZ)I"⟩ ∈ xws := xws_in (i := 610) (by decide +kernel) (by decide +kernel)
theorem xk611 : Cond.instanceMethod ⟨"PlatformsLeave", "came", "(IIZ)I"⟩ ∈ xws := xws_in (i := 611) (by decide +kernel) (by decide +kernel)
theorem xk612 : Cond.selects "PlatformsLeave" ⟨"PlatformsLeave", "came", "(IIZ)I"⟩ ⟨"PlatformsLeave", "came", "(IIZ)I"⟩ ∈ xws := xws_in (i := 612) (by decide +kernel) (by decide +kernel)
theorem xk613 : Cond.code ⟨"PlatformsLeave", "came", "(IIZ)I"⟩ prog_1_method_19_code 4 (some .int) ∈ xws := xws_in (i := 613) (by decide +kernel) (by decide +kernel)
theorem xk614 : Cond.methodLink "PlatformsLeave" 191 ⟨"PlatformsLeave$Clues", "add", "(IIZ)Z"⟩ ∈ xws := xws_in (i := 614) (by decide +kernel) (by decide +kernel)
theorem xk615 : Cond.instanceMethod ⟨"PlatformsLeave$Clues", "add", "(IIZ)Z"⟩ ∈ xws := xws_in (i := 615) (by decide +kernel) (by decide +kernel)
theorem xk616 : Cond.selects "PlatformsLeave$Clues" ⟨"PlatformsLeave$Clues", "add", "(IIZ)Z"⟩ ⟨"PlatformsLeave$Clues", "add", "(IIZ)Z"⟩ ∈ xws := xws_in (i := 616) (by decide +kernel) (by decide +kernel)
theorem xk617 : Cond.code ⟨"PlatformsLeave$Clues", "add", "(IIZ)Z"⟩ prog_3_method_2_code 4 (some .boolean) ∈ xws := xws_in (i := 617) (by decide +kernel) (by decide +kernel)
theorem xk618 : Cond.methodLink "PlatformsLeaveLaw" 90 ⟨"PlatformsLeave", "forget", "()I"⟩ ∈ xws := xws_in (i := 618) (by decide +kernel) (by decide +kernel)
theorem xk619 : Cond.instanceMethod ⟨"PlatformsLeave", "forget", "()I"⟩ ∈ xws := xws_in (i := 619) (by decide +kernel) (by decide +kernel)
theorem xk620 : Cond.selects "PlatformsLeave" ⟨"PlatformsLeave", "forget", "()I"⟩ ⟨"PlatformsLeave", "forget", "()I"⟩ ∈ xws := xws_in (i := 620) (by decide +kernel) (by decide +kernel)
theorem xk621 : Cond.code ⟨"PlatformsLeave", "forget", "()I"⟩ prog_1_method_20_code 2 (some .int) ∈ xws := xws_in (i := 621) (by decide +kernel) (by decide +kernel)
theorem xk622 : Cond.methodLink "PlatformsLeaveLaw" 94 ⟨"PlatformsLeave", "fits", "(I)I"⟩ ∈ xws := xws_in (i := 622) (by decide +kernel) (by decide +kernel)
theorem xk623 : Cond.instanceMethod ⟨"PlatformsLeave", "fits", "(I)I"⟩ ∈ xws := xws_in (i := 623) (by decide +kernel) (by decide +kernel)
theorem xk624 : Cond.selects "PlatformsLeave" ⟨"PlatformsLeave", "fits", "(I)I"⟩ ⟨"PlatformsLeave", "fits", "(I)I"⟩ ∈ xws := xws_in (i := 624) (by decide +kernel) (by decide +kernel)
theorem xk625 : Cond.code ⟨"PlatformsLeave", "fits", "(I)I"⟩ prog_1_method_21_code 4 (some .int) ∈ xws := xws_in (i := 625) (by decide +kernel) (by decide +kernel)
theorem xk626 : Cond.methodLink "PlatformsLeave" 194 ⟨"PlatformsLeave$Clues", "fit", "(LPlatformsLeave$Run;)Z"⟩ ∈ xws := xws_in (i := 626) (by decide +kernel) (by decide +kernel)
theorem xk627 : Cond.instanceMethod ⟨"PlatformsLeave$Clues", "fit", "(LPlatformsLeave$Run;)Z"⟩ ∈ xws := xws_in (i := 627) (by decide +kernel) (by decide +kernel)
theorem xk628 : Cond.selects "PlatformsLeave$Clues" ⟨"PlatformsLeave$Clues", "fit", "(LPlatformsLeave$Run;)Z"⟩ ⟨"PlatformsLeave$Clues", "fit", "(LPlatformsLeave$Run;)Z"⟩ ∈ xws := xws_in (i := 628) (by decide +kernel) (by decide +kernel)
theorem xk629 : Cond.code ⟨"PlatformsLeave$Clues", "fit", "(LPlatformsLeave$Run;)Z"⟩ prog_3_method_3_code 4 (some .boolean) ∈ xws := xws_in (i := 629) (by decide +kernel) (by decide +kernel)
theorem xk630 : Cond.methodLink "PlatformsLeave$Clues" 26 ⟨"PlatformsLeave$Clues", "lastStep", "()I"⟩ ∈ xws := xws_in (i := 630) (by decide +kernel) (by decide +kernel)
theorem xk632 : Cond.instanceMethod ⟨"PlatformsLeave$Clues", "lastStep", "()I"⟩ ∈ xws := xws_in (i := 632) (by decide +kernel) (by decide +kernel)
theorem xk633 : Cond.code ⟨"PlatformsLeave$Clues", "lastStep", "()I"⟩ prog_3_method_5_code 3 (some .int) ∈ xws := xws_in (i := 633) (by decide +kernel) (by decide +kernel)
theorem xk634 : Cond.methodLink "PlatformsLeave$Clues" 47 ⟨"java/lang/Math", "max", "(II)I"⟩ ∈ xws := xws_in (i := 634) (by decide +kernel) (by decide +kernel)
theorem xk635 : Cond.static ⟨"java/lang/Math", "max", "(II)I"⟩ ∈ xws := xws_in (i := 635) (by decide +kernel) (by decide +kernel)
theorem xk636 : Cond.code ⟨"java/lang/Math", "max", "(II)I"⟩ prog_13_method_65_code 2 (some .int) ∈ xws := xws_in (i := 636) (by decide +kernel) (by decide +kernel)
theorem xk637 : Cond.methodLink "PlatformsLeave$Clues" 30 ⟨"PlatformsLeave$Run", "goTo", "(I)V"⟩ ∈ xws := xws_in (i := 637) (by decide +kernel) (by decide +kernel)
theorem xk638 : Cond.methodLink "PlatformsLeave$Clues" 36 ⟨"PlatformsLeave$Clues", "fitNow", "(LPlatformsLeave$Run;)Z"⟩ ∈ xws := xws_in (i := 638) (by decide +kernel) (by decide +kernel)
theorem xk640 : Cond.instanceMethod ⟨"PlatformsLeave$Clues", "fitNow", "(LPlatformsLeave$Run;)Z"⟩ ∈ xws := xws_in (i := 640) (by decide +kernel) (by decide +kernel)
theorem xk641 : Cond.code ⟨"PlatformsLeave$Clues", "fitNow", "(LPlatformsLeave$Run;)Z"⟩ prog_3_method_4_code 3 (some .boolean) ∈ xws := xws_in (i := 641) (by decide +kernel) (by decide +kernel)
theorem xk642 : Cond.methodLink "PlatformsLeave$Clues" 43 ⟨"PlatformsLeave$Run", "someAt", "(I)Z"⟩ ∈ xws := xws_in (i := 642) (by decide +kernel) (by decide +kernel)
theorem xk643 : Cond.instanceMethod ⟨"PlatformsLeave$Run", "someAt", "(I)Z"⟩ ∈ xws := xws_in (i := 643) (by decide +kernel) (by decide +kernel)
theorem xk644 : Cond.selects "PlatformsLeave$Run" ⟨"PlatformsLeave$Run", "someAt", "(I)Z"⟩ ⟨"PlatformsLeave$Run", "someAt", "(I)Z"⟩ ∈ xws := xws_in (i := 644) (by decide +kernel) (by decide +kernel)
theorem xk645 : Cond.code ⟨"PlatformsLeave$Run", "someAt", "(I)Z"⟩ prog_7_method_9_code 2 (some .boolean) ∈ xws := xws_in (i := 645) (by decide +kernel) (by decide +kernel)
theorem xk646 : Cond.methodLink "PlatformsLeaveLaw" 98 ⟨"PlatformsLeave", "from", "(IIII)I"⟩ ∈ xws := xws_in (i := 646) (by decide +kernel) (by decide +kernel)
theorem xk647 : Cond.instanceMethod ⟨"PlatformsLeave", "from", "(IIII)I"⟩ ∈ xws := xws_in (i := 647) (by decide +kernel) (by decide +kernel)
theorem xk648 : Cond.selects "PlatformsLeave" ⟨"PlatformsLeave", "from", "(IIII)I"⟩ ⟨"PlatformsLeave", "from", "(IIII)I"⟩ ∈ xws := xws_in (i := 648) (by decide +kernel) (by decide +kernel)
theorem xk649 : Cond.code ⟨"PlatformsLeave", "from", "(IIII)I"⟩ prog_1_method_22_code 6 (some .int) ∈ xws := xws_in (i := 649) (by decide +kernel) (by decide +kernel)
theorem xk650 : Cond.methodLink "PlatformsLeave" 198 ⟨"PlatformsLeave$Run", "cellsUpTo", "(II)I"⟩ ∈ xws := xws_in (i := 650) (by decide +kernel) (by decide +kernel)
theorem xk651 : Cond.instanceMethod ⟨"PlatformsLeave$Run", "cellsUpTo", "(II)I"⟩ ∈ xws := xws_in (i := 651) (by decide +kernel) (by decide +kernel)
theorem xk652 : Cond.selects "PlatformsLeave$Run" ⟨"PlatformsLeave$Run", "cellsUpTo", "(II)I"⟩ ⟨"PlatformsLeave$Run", "cellsUpTo", "(II)I"⟩ ∈ xws := xws_in (i := 652) (by decide +kernel) (by decide +kernel)
theorem xk653 : Cond.code ⟨"PlatformsLeave$Run", "cellsUpTo", "(II)I"⟩ prog_7_method_10_code 4 (some .int) ∈ xws := xws_in (i := 653) (by decide +kernel) (by decide +kernel)
theorem xk654 : Cond.methodLink "PlatformsLeave" 201 ⟨"PlatformsLeave$Line", "byRound", "(I)I"⟩ ∈ xws := xws_in (i := 654) (by decide +kernel) (by decide +kernel)
theorem xk655 : Cond.instanceMethod ⟨"PlatformsLeave$Line", "byRound", "(I)I"⟩ ∈ xws := xws_in (i := 655) (by decide +kernel) (by decide +kernel)
theorem xk656 : Cond.selects "PlatformsLeave$Line" ⟨"PlatformsLeave$Line", "byRound", "(I)I"⟩ ⟨"PlatformsLeave$Line", "byRound", "(I)I"⟩ ∈ xws := xws_in (i := 656) (by decide +kernel) (by decide +kernel)
theorem xk657 : Cond.code ⟨"PlatformsLeave$Line", "byRound", "(I)I"⟩ prog_5_method_14_code 2 (some .int) ∈ xws := xws_in (i := 657) (by decide +kernel) (by decide +kernel)
theorem xk658 : Cond.methodLink "PlatformsLeaveLaw" 103 ⟨"PlatformsLeave", "clocks", "(III)I"⟩ ∈ xws := xws_in (i := 658) (by decide +kernel) (by decide +kernel)
theorem xk659 : Cond.instanceMethod ⟨"PlatformsLeave", "clocks", "(III)I"⟩ ∈ xws := xws_in (i := 659) (by decide +kernel) (by decide +kernel)
theorem xk660 : Cond.selects "PlatformsLeave" ⟨"PlatformsLeave", "clocks", "(III)I"⟩ ⟨"PlatformsLeave", "clocks", "(III)I"⟩ ∈ xws := xws_in (i := 660) (by decide +kernel) (by decide +kernel)
theorem xk661 : Cond.code ⟨"PlatformsLeave", "clocks", "(III)I"⟩ prog_1_method_23_code 7 (some .int) ∈ xws := xws_in (i := 661) (by decide +kernel) (by decide +kernel)
theorem xk662 : Cond.methodLink "PlatformsLeaveLaw" 107 ⟨"PlatformsLeave", "floods", "(IIIII)I"⟩ ∈ xws := xws_in (i := 662) (by decide +kernel) (by decide +kernel)
theorem xk663 : Cond.instanceMethod ⟨"PlatformsLeave", "floods", "(IIIII)I"⟩ ∈ xws := xws_in (i := 663) (by decide +kernel) (by decide +kernel)
theorem xk664 : Cond.selects "PlatformsLeave" ⟨"PlatformsLeave", "floods", "(IIIII)I"⟩ ⟨"PlatformsLeave", "floods", "(IIIII)I"⟩ ∈ xws := xws_in (i := 664) (by decide +kernel) (by decide +kernel)
theorem xk665 : Cond.code ⟨"PlatformsLeave", "floods", "(IIIII)I"⟩ prog_1_method_24_code 9 (some .int) ∈ xws := xws_in (i := 665) (by decide +kernel) (by decide +kernel)
theorem xk666 : Cond.methodLink "PlatformsLeave" 204 ⟨"PlatformsLeave$Run", "comesInFlood", "(IIII)Z"⟩ ∈ xws := xws_in (i := 666) (by decide +kernel) (by decide +kernel)
theorem xk667 : Cond.instanceMethod ⟨"PlatformsLeave$Run", "comesInFlood", "(IIII)Z"⟩ ∈ xws := xws_in (i := 667) (by decide +kernel) (by decide +kernel)
theorem xk668 : Cond.selects "PlatformsLeave$Run" ⟨"PlatformsLeave$Run", "comesInFlood", "(IIII)Z"⟩ ⟨"PlatformsLeave$Run", "comesInFlood", "(IIII)Z"⟩ ∈ xws := xws_in (i := 668) (by decide +kernel) (by decide +kernel)
theorem xk669 : Cond.code ⟨"PlatformsLeave$Run", "comesInFlood", "(IIII)Z"⟩ prog_7_method_13_code 6 (some .boolean) ∈ xws := xws_in (i := 669) (by decide +kernel) (by decide +kernel)
theorem xk670 : Cond.methodLink "PlatformsLeave$Run" 121 ⟨"PlatformsLeave$Run", "begin", "()V"⟩ ∈ xws := xws_in (i := 670) (by decide +kernel) (by decide +kernel)
theorem xk671 : Cond.methodLink "PlatformsLeave" 208 ⟨"PlatformsLeave", "floodWeight", "(III)I"⟩ ∈ xws := xws_in (i := 671) (by decide +kernel) (by decide +kernel)
theorem xk672 : Cond.static ⟨"PlatformsLeave", "floodWeight", "(III)I"⟩ ∈ xws := xws_in (i := 672) (by decide +kernel) (by decide +kernel)
theorem xk673 : Cond.code ⟨"PlatformsLeave", "floodWeight", "(III)I"⟩ prog_1_method_33_code 5 (some .int) ∈ xws := xws_in (i := 673) (by decide +kernel) (by decide +kernel)
theorem xk674 : Cond.methodLink "PlatformsLeave" 212 ⟨"PlatformsLeave", "commonDivisor", "(II)I"⟩ ∈ xws := xws_in (i := 674) (by decide +kernel) (by decide +kernel)
theorem xk675 : Cond.static ⟨"PlatformsLeave", "commonDivisor", "(II)I"⟩ ∈ xws := xws_in (i := 675) (by decide +kernel) (by decide +kernel)
theorem xk676 : Cond.code ⟨"PlatformsLeave", "commonDivisor", "(II)I"⟩ prog_1_method_34_code 6 (some .int) ∈ xws := xws_in (i := 676) (by decide +kernel) (by decide +kernel)
theorem xk677 : Cond.methodLink "PlatformsLeaveLaw" 112 ⟨"PlatformsLeave", "day", "(II)I"⟩ ∈ xws := xws_in (i := 677) (by decide +kernel) (by decide +kernel)
theorem xk678 : Cond.instanceMethod ⟨"PlatformsLeave", "day", "(II)I"⟩ ∈ xws := xws_in (i := 678) (by decide +kernel) (by decide +kernel)
theorem xk679 : Cond.selects "PlatformsLeave" ⟨"PlatformsLeave", "day", "(II)I"⟩ ⟨"PlatformsLeave", "day", "(II)I"⟩ ∈ xws := xws_in (i := 679) (by decide +kernel) (by decide +kernel)
theorem xk680 : Cond.code ⟨"PlatformsLeave", "day", "(II)I"⟩ prog_1_method_25_code 4 (some .int) ∈ xws := xws_in (i := 680) (by decide +kernel) (by decide +kernel)
theorem xk681 : Cond.methodLink "PlatformsLeave" 215 ⟨"PlatformsLeave", "drawnStart", "(II)I"⟩ ∈ xws := xws_in (i := 681) (by decide +kernel) (by decide +kernel)
theorem xk682 : Cond.static ⟨"PlatformsLeave", "drawnStart", "(II)I"⟩ ∈ xws := xws_in (i := 682) (by decide +kernel) (by decide +kernel)
theorem xk683 : Cond.code ⟨"PlatformsLeave", "drawnStart", "(II)I"⟩ prog_1_method_35_code 6 (some .int) ∈ xws := xws_in (i := 683) (by decide +kernel) (by decide +kernel)
theorem xk684 : Cond.constantLong "PlatformsLeave" 238 (7919) ∈ xws := xws_in (i := 684) (by decide +kernel) (by decide +kernel)
theorem xk685 : Cond.constantLong "PlatformsLeave" 240 (331) ∈ xws := xws_in (i := 685) (by decide +kernel) (by decide +kernel)
theorem xk686 : Cond.constantLong "PlatformsLeave" 242 (65521) ∈ xws := xws_in (i := 686) (by decide +kernel) (by decide +kernel)
theorem xk687 : Cond.constantLong "PlatformsLeave" 244 (8) ∈ xws := xws_in (i := 687) (by decide +kernel) (by decide +kernel)
theorem xk688 : Cond.constantLong "PlatformsLeave" 246 (31) ∈ xws := xws_in (i := 688) (by decide +kernel) (by decide +kernel)
theorem xk689 : Cond.methodLink "PlatformsLeave" 218 ⟨"PlatformsLeave$Run", "twosAt", "()I"⟩ ∈ xws := xws_in (i := 689) (by decide +kernel) (by decide +kernel)
theorem xk690 : Cond.instanceMethod ⟨"PlatformsLeave$Run", "twosAt", "()I"⟩ ∈ xws := xws_in (i := 690) (by decide +kernel) (by decide +kernel)
theorem xk691 : Cond.selects "PlatformsLeave$Run" ⟨"PlatformsLeave$Run", "twosAt", "()I"⟩ ⟨"PlatformsLeave$Run", "twosAt", "()I"⟩ ∈ xws := xws_in (i := 691) (by decide +kernel) (by decide +kernel)
theorem xk692 : Cond.code ⟨"PlatformsLeave$Run", "twosAt", "()I"⟩ prog_7_method_14_code 5 (some .int) ∈ xws := xws_in (i := 692) (by decide +kernel) (by decide +kernel)
theorem xk693 : Cond.methodLink "PlatformsLeave$Run" 127 ⟨"java/lang/Integer", "bitCount", "(I)I"⟩ ∈ xws := xws_in (i := 693) (by decide +kernel) (by decide +kernel)
theorem xk694 : Cond.methodLink "PlatformsLeaveLaw" 116 ⟨"PlatformsLeave", "keep", "()I"⟩ ∈ xws := xws_in (i := 694) (by decide +kernel) (by decide +kernel)
theorem xk695 : Cond.instanceMethod ⟨"PlatformsLeave", "keep", "()I"⟩ ∈ xws := xws_in (i := 695) (by decide +kernel) (by decide +kernel)
theorem xk696 : Cond.selects "PlatformsLeave" ⟨"PlatformsLeave", "keep", "()I"⟩ ⟨"PlatformsLeave", "keep", "()I"⟩ ∈ xws := xws_in (i := 696) (by decide +kernel) (by decide +kernel)
theorem xk697 : Cond.code ⟨"PlatformsLeave", "keep", "()I"⟩ prog_1_method_26_code 1 (some .int) ∈ xws := xws_in (i := 697) (by decide +kernel) (by decide +kernel)
theorem xk698 : Cond.methodLink "PlatformsLeave" 224 ⟨"PlatformsLeave$Kept", "add", "(LPlatformsLeave$Setting;)Z"⟩ ∈ xws := xws_in (i := 698) (by decide +kernel) (by decide +kernel)
theorem xk699 : Cond.instanceMethod ⟨"PlatformsLeave$Kept", "add", "(LPlatformsLeave$Setting;)Z"⟩ ∈ xws := xws_in (i := 699) (by decide +kernel) (by decide +kernel)
theorem xk700 : Cond.selects "PlatformsLeave$Kept" ⟨"PlatformsLeave$Kept", "add", "(LPlatformsLeave$Setting;)Z"⟩ ⟨"PlatformsLeave$Kept", "add", "(LPlatformsLeave$Setting;)Z"⟩ ∈ xws := xws_in (i := 700) (by decide +kernel) (by decide +kernel)
theorem xk701 : Cond.code ⟨"PlatformsLeave$Kept", "add", "(LPlatformsLeave$Setting;)Z"⟩ prog_4_method_2_code 2 (some .boolean) ∈ xws := xws_in (i := 701) (by decide +kernel) (by decide +kernel)
theorem xk702 : Cond.methodLink "PlatformsLeave$Kept" 22 ⟨"PlatformsLeave$Setting", "copy", "(LPlatformsLeave$Setting;)V"⟩ ∈ xws := xws_in (i := 702) (by decide +kernel) (by decide +kernel)
theorem xk703 : Cond.methodLink "PlatformsLeaveLaw" 120 ⟨"PlatformsLeave", "back", "()I"⟩ ∈ xws := xws_in (i := 703) (by decide +kernel) (by decide +kernel)
theorem xk704 : Cond.instanceMethod ⟨"PlatformsLeave", "back", "()I"⟩ ∈ xws := xws_in (i := 704) (by decide +kernel) (by decide +kernel)
theorem xk705 : Cond.selects "PlatformsLeave" ⟨"PlatformsLeave", "back", "()I"⟩ ⟨"PlatformsLeave", "back", "()I"⟩ ∈ xws := xws_in (i := 705) (by decide +kernel) (by decide +kernel)
theorem xk706 : Cond.code ⟨"PlatformsLeave", "back", "()I"⟩ prog_1_method_27_code 1 (some .int) ∈ xws := xws_in (i := 706) (by decide +kernel) (by decide +kernel)
theorem xk707 : Cond.methodLink "PlatformsLeave" 226 ⟨"PlatformsLeave$Kept", "giveBack", "(LPlatformsLeave$Setting;)Z"⟩ ∈ xws := xws_in (i := 707) (by decide +kernel) (by decide +kernel)
theorem xk708 : Cond.instanceMethod ⟨"PlatformsLeave$Kept", "giveBack", "(LPlatformsLeave$Setting;)Z"⟩ ∈ xws := xws_in (i := 708) (by decide +kernel) (by decide +kernel)
theorem xk709 : Cond.selects "PlatformsLeave$Kept" ⟨"PlatformsLeave$Kept", "giveBack", "(LPlatformsLeave$Setting;)Z"⟩ ⟨"PlatformsLeave$Kept", "giveBack", "(LPlatformsLeave$Setting;)Z"⟩ ∈ xws := xws_in (i := 709) (by decide +kernel) (by decide +kernel)
theorem xk710 : Cond.code ⟨"PlatformsLeave$Kept", "giveBack", "(LPlatformsLeave$Setting;)Z"⟩ prog_4_method_3_code 2 (some .boolean) ∈ xws := xws_in (i := 710) (by decide +kernel) (by decide +kernel)
theorem xk711 : Cond.methodLink "PlatformsLeaveLaw" 124 ⟨"PlatformsLeave", "count", "(I)I"⟩ ∈ xws := xws_in (i := 711) (by decide +kernel) (by decide +kernel)
theorem xk712 : Cond.instanceMethod ⟨"PlatformsLeave", "count", "(I)I"⟩ ∈ xws := xws_in (i := 712) (by decide +kernel) (by decide +kernel)
theorem xk713 : Cond.selects "PlatformsLeave" ⟨"PlatformsLeave", "count", "(I)I"⟩ ⟨"PlatformsLeave", "count", "(I)I"⟩ ∈ xws := xws_in (i := 713) (by decide +kernel) (by decide +kernel)
theorem xk714 : Cond.code ⟨"PlatformsLeave", "count", "(I)I"⟩ prog_1_method_28_code 2 (some .int) ∈ xws := xws_in (i := 714) (by decide +kernel) (by decide +kernel)
theorem xk719 : Cond.code ⟨"PlatformsLeaveModel", "<init>", "()V"⟩ prog_11_method_1_code 1 none ∈ xws := xws_in (i := 719) (by decide +kernel) (by decide +kernel)
theorem xk721 : Cond.methodLink "PlatformsLeaveModel" 59 ⟨"PlatformsLeaveModel", "begins", "()V"⟩ ∈ xws := xws_in (i := 721) (by decide +kernel) (by decide +kernel)
theorem xk723 : Cond.instanceMethod ⟨"PlatformsLeaveModel", "begins", "()V"⟩ ∈ xws := xws_in (i := 723) (by decide +kernel) (by decide +kernel)
theorem xk724 : Cond.code ⟨"PlatformsLeaveModel", "begins", "()V"⟩ prog_11_method_13_code 2 none ∈ xws := xws_in (i := 724) (by decide +kernel) (by decide +kernel)
theorem xk725 : Cond.methodLink "PlatformsLeaveModel" 62 ⟨"PlatformsLeaveModel", "trainOf", "(I)V"⟩ ∈ xws := xws_in (i := 725) (by decide +kernel) (by decide +kernel)
theorem xk727 : Cond.instanceMethod ⟨"PlatformsLeaveModel", "trainOf", "(I)V"⟩ ∈ xws := xws_in (i := 727) (by decide +kernel) (by decide +kernel)
theorem xk728 : Cond.code ⟨"PlatformsLeaveModel", "trainOf", "(I)V"⟩ prog_11_method_14_code 2 none ∈ xws := xws_in (i := 728) (by decide +kernel) (by decide +kernel)
theorem xk729 : Cond.methodLink "PlatformsLeaveModel" 66 ⟨"PlatformsLeaveModel", "platformOf", "(IIII)V"⟩ ∈ xws := xws_in (i := 729) (by decide +kernel) (by decide +kernel)
theorem xk731 : Cond.instanceMethod ⟨"PlatformsLeaveModel", "platformOf", "(IIII)V"⟩ ∈ xws := xws_in (i := 731) (by decide +kernel) (by decide +kernel)
theorem xk732 : Cond.code ⟨"PlatformsLeaveModel", "platformOf", "(IIII)V"⟩ prog_11_method_15_code 6 none ∈ xws := xws_in (i := 732) (by decide +kernel) (by decide +kernel)
theorem xk733 : Cond.methodLink "PlatformsLeaveModel" 70 ⟨"PlatformsLeaveModel", "lays", "()V"⟩ ∈ xws := xws_in (i := 733) (by decide +kernel) (by decide +kernel)
theorem xk735 : Cond.instanceMethod ⟨"PlatformsLeaveModel", "lays", "()V"⟩ ∈ xws := xws_in (i := 735) (by decide +kernel) (by decide +kernel)
theorem xk736 : Cond.code ⟨"PlatformsLeaveModel", "lays", "()V"⟩ prog_11_method_20_code 2 none ∈ xws := xws_in (i := 736) (by decide +kernel) (by decide +kernel)
theorem xk737 : Cond.fieldLink "PlatformsLeaveModel" 7 "PlatformsLeaveModel" "text" "[I" ∈ xws := xws_in (i := 737) (by decide +kernel) (by decide +kernel)
theorem xk738 : Cond.fieldLink "PlatformsLeaveModel" 77 "PlatformsLeaveModel" "typed" "I" ∈ xws := xws_in (i := 738) (by decide +kernel) (by decide +kernel)
theorem xk739 : Cond.fieldLink "PlatformsLeaveModel" 13 "PlatformsLeaveModel" "told" "[I" ∈ xws := xws_in (i := 739) (by decide +kernel) (by decide +kernel)
theorem xk740 : Cond.fieldLink "PlatformsLeaveModel" 16 "PlatformsLeaveModel" "draft" "[I" ∈ xws := xws_in (i := 740) (by decide +kernel) (by decide +kernel)
theorem xk741 : Cond.fieldLink "PlatformsLeaveModel" 19 "PlatformsLeaveModel" "begun" "[I" ∈ xws := xws_in (i := 741) (by decide +kernel) (by decide +kernel)
theorem xk742 : Cond.fieldLink "PlatformsLeaveModel" 22 "PlatformsLeaveModel" "s" "[I" ∈ xws := xws_in (i := 742) (by decide +kernel) (by decide +kernel)
theorem xk743 : Cond.fieldLink "PlatformsLeaveModel" 25 "PlatformsLeaveModel" "past" "[I" ∈ xws := xws_in (i := 743) (by decide +kernel) (by decide +kernel)
theorem xk744 : Cond.fieldLink "PlatformsLeaveModel" 106 "PlatformsLeaveModel" "known" "I" ∈ xws := xws_in (i := 744) (by decide +kernel) (by decide +kernel)
theorem xk745 : Cond.fieldLink "PlatformsLeaveModel" 28 "PlatformsLeaveModel" "images" "[I" ∈ xws := xws_in (i := 745) (by decide +kernel) (by decide +kernel)
theorem xk746 : Cond.fieldLink "PlatformsLeaveModel" 109 "PlatformsLeaveModel" "kept" "I" ∈ xws := xws_in (i := 746) (by decide +kernel) (by decide +kernel)
theorem xk747 : Cond.fieldLink "PlatformsLeaveModel" 31 "PlatformsLeaveModel" "cames" "[I" ∈ xws := xws_in (i := 747) (by decide +kernel) (by decide +kernel)
theorem xk748 : Cond.fieldLink "PlatformsLeaveModel" 112 "PlatformsLeaveModel" "comes" "I" ∈ xws := xws_in (i := 748) (by decide +kernel) (by decide +kernel)
theorem xk749 : Cond.fieldLink "PlatformsLeaveModel" 80 "PlatformsLeaveModel" "at" "I" ∈ xws := xws_in (i := 749) (by decide +kernel) (by decide +kernel)
theorem xk750 : Cond.fieldLink "PlatformsLeaveModel" 34 "PlatformsLeaveModel" "cells" "[I" ∈ xws := xws_in (i := 750) (by decide +kernel) (by decide +kernel)
theorem xk751 : Cond.fieldLink "PlatformsLeaveModel" 37 "PlatformsLeaveModel" "waited" "[I" ∈ xws := xws_in (i := 751) (by decide +kernel) (by decide +kernel)
theorem xk752 : Cond.fieldLink "PlatformsLeaveModel" 40 "PlatformsLeaveModel" "wet" "[I" ∈ xws := xws_in (i := 752) (by decide +kernel) (by decide +kernel)
theorem xk753 : Cond.fieldLink "PlatformsLeaveModel" 43 "PlatformsLeaveModel" "ways" "[I" ∈ xws := xws_in (i := 753) (by decide +kernel) (by decide +kernel)
theorem xk754 : Cond.fieldLink "PlatformsLeaveModel" 136 "PlatformsLeaveModel" "stops" "I" ∈ xws := xws_in (i := 754) (by decide +kernel) (by decide +kernel)
theorem xk755 : Cond.fieldLink "PlatformsLeaveModel" 152 "PlatformsLeaveModel" "went" "I" ∈ xws := xws_in (i := 755) (by decide +kernel) (by decide +kernel)
theorem xk756 : Cond.fieldLink "PlatformsLeaveModel" 146 "PlatformsLeaveModel" "waits" "I" ∈ xws := xws_in (i := 756) (by decide +kernel) (by decide +kernel)
theorem xk757 : Cond.fieldLink "PlatformsLeaveModel" 46 "PlatformsLeaveModel" "flooded" "I" ∈ xws := xws_in (i := 757) (by decide +kernel) (by decide +kernel)
theorem xk758 : Cond.fieldLink "PlatformsLeaveModel" 130 "PlatformsLeaveModel" "floods" "I" ∈ xws := xws_in (i := 758) (by decide +kernel) (by decide +kernel)
theorem xk759 : Cond.fieldLink "PlatformsLeaveModel" 127 "PlatformsLeaveModel" "last" "I" ∈ xws := xws_in (i := 759) (by decide +kernel) (by decide +kernel)
theorem xk760 : Cond.fieldLink "PlatformsLeaveModel" 50 "PlatformsLeaveModel" "onTrain" "[I" ∈ xws := xws_in (i := 760) (by decide +kernel) (by decide +kernel)
theorem xk761 : Cond.fieldLink "PlatformsLeaveModel" 53 "PlatformsLeaveModel" "onPlatform" "[I" ∈ xws := xws_in (i := 761) (by decide +kernel) (by decide +kernel)
theorem xk762 : Cond.fieldLink "PlatformsLeaveModel" 56 "PlatformsLeaveModel" "held" "[I" ∈ xws := xws_in (i := 762) (by decide +kernel) (by decide +kernel)
theorem xk816 : Cond.methodLink "PlatformsLeaveLaw" 17 ⟨"PlatformsLeaveModel", "write", "(I)I"⟩ ∈ xws := xws_in (i := 816) (by decide +kernel) (by decide +kernel)
theorem xk817 : Cond.instanceMethod ⟨"PlatformsLeaveModel", "write", "(I)I"⟩ ∈ xws := xws_in (i := 817) (by decide +kernel) (by decide +kernel)
theorem xk818 : Cond.selects "PlatformsLeaveModel" ⟨"PlatformsLeaveModel", "write", "(I)I"⟩ ⟨"PlatformsLeaveModel", "write", "(I)I"⟩ ∈ xws := xws_in (i := 818) (by decide +kernel) (by decide +kernel)
theorem xk819 : Cond.code ⟨"PlatformsLeaveModel", "write", "(I)I"⟩ prog_11_method_8_code 2 (some .int) ∈ xws := xws_in (i := 819) (by decide +kernel) (by decide +kernel)
theorem xk820 : Cond.methodLink "PlatformsLeaveModel" 73 ⟨"PlatformsLeaveModel", "in", "(III)Z"⟩ ∈ xws := xws_in (i := 820) (by decide +kernel) (by decide +kernel)
theorem xk821 : Cond.static ⟨"PlatformsLeaveModel", "in", "(III)Z"⟩ ∈ xws := xws_in (i := 821) (by decide +kernel) (by decide +kernel)
theorem xk822 : Cond.code ⟨"PlatformsLeaveModel", "in", "(III)Z"⟩ prog_11_method_3_code 3 (some .boolean) ∈ xws := xws_in (i := 822) (by decide +kernel) (by decide +kernel)
theorem xk823 : Cond.methodLink "PlatformsLeaveLaw" 22 ⟨"PlatformsLeaveModel", "wipe", "()I"⟩ ∈ xws := xws_in (i := 823) (by decide +kernel) (by decide +kernel)
theorem xk824 : Cond.instanceMethod ⟨"PlatformsLeaveModel", "wipe", "()I"⟩ ∈ xws := xws_in (i := 824) (by decide +kernel) (by decide +kernel)
theorem xk825 : Cond.selects "PlatformsLeaveModel" ⟨"PlatformsLeaveModel", "wipe", "()I"⟩ ⟨"PlatformsLeaveModel", "wipe", "()I"⟩ ∈ xws := xws_in (i := 825) (by decide +kernel) (by decide +kernel)
theorem xk826 : Cond.code ⟨"PlatformsLeaveModel", "wipe", "()I"⟩ prog_11_method_9_code 2 (some .int) ∈ xws := xws_in (i := 826) (by decide +kernel) (by decide +kernel)
theorem xk827 : Cond.methodLink "PlatformsLeaveLaw" 26 ⟨"PlatformsLeaveModel", "fault", "()I"⟩ ∈ xws := xws_in (i := 827) (by decide +kernel) (by decide +kernel)
theorem xk828 : Cond.instanceMethod ⟨"PlatformsLeaveModel", "fault", "()I"⟩ ∈ xws := xws_in (i := 828) (by decide +kernel) (by decide +kernel)
theorem xk829 : Cond.selects "PlatformsLeaveModel" ⟨"PlatformsLeaveModel", "fault", "()I"⟩ ⟨"PlatformsLeaveModel", "fault", "()I"⟩ ∈ xws := xws_in (i := 829) (by decide +kernel) (by decide +kernel)
theorem xk830 : Cond.code ⟨"PlatformsLeaveModel", "fault", "()I"⟩ prog_11_method_19_code 1 (some .int) ∈ xws := xws_in (i := 830) (by decide +kernel) (by decide +kernel)
theorem xk831 : Cond.methodLink "PlatformsLeaveModel" 102 ⟨"PlatformsLeaveModel", "readsAll", "()I"⟩ ∈ xws := xws_in (i := 831) (by decide +kernel) (by decide +kernel)
theorem xk833 : Cond.instanceMethod ⟨"PlatformsLeaveModel", "readsAll", "()I"⟩ ∈ xws := xws_in (i := 833) (by decide +kernel) (by decide +kernel)
theorem xk834 : Cond.code ⟨"PlatformsLeaveModel", "readsAll", "()I"⟩ prog_11_method_18_code 2 (some .int) ∈ xws := xws_in (i := 834) (by decide +kernel) (by decide +kernel)
theorem xk835 : Cond.methodLink "PlatformsLeaveModel" 99 ⟨"PlatformsLeaveModel", "readsItem", "(I)Z"⟩ ∈ xws := xws_in (i := 835) (by decide +kernel) (by decide +kernel)
theorem xk837 : Cond.instanceMethod ⟨"PlatformsLeaveModel", "readsItem", "(I)Z"⟩ ∈ xws := xws_in (i := 837) (by decide +kernel) (by decide +kernel)
theorem xk838 : Cond.code ⟨"PlatformsLeaveModel", "readsItem", "(I)Z"⟩ prog_11_method_17_code 3 (some .boolean) ∈ xws := xws_in (i := 838) (by decide +kernel) (by decide +kernel)
theorem xk839 : Cond.methodLink "PlatformsLeaveModel" 91 ⟨"PlatformsLeaveModel", "number", "(III)I"⟩ ∈ xws := xws_in (i := 839) (by decide +kernel) (by decide +kernel)
theorem xk841 : Cond.instanceMethod ⟨"PlatformsLeaveModel", "number", "(III)I"⟩ ∈ xws := xws_in (i := 841) (by decide +kernel) (by decide +kernel)
theorem xk842 : Cond.code ⟨"PlatformsLeaveModel", "number", "(III)I"⟩ prog_11_method_12_code 6 (some .int) ∈ xws := xws_in (i := 842) (by decide +kernel) (by decide +kernel)
theorem xk843 : Cond.methodLink "PlatformsLeaveModel" 83 ⟨"PlatformsLeaveModel", "letterAt", "(I)I"⟩ ∈ xws := xws_in (i := 843) (by decide +kernel) (by decide +kernel)
theorem xk845 : Cond.instanceMethod ⟨"PlatformsLeaveModel", "letterAt", "(I)I"⟩ ∈ xws := xws_in (i := 845) (by decide +kernel) (by decide +kernel)
theorem xk846 : Cond.code ⟨"PlatformsLeaveModel", "letterAt", "(I)I"⟩ prog_11_method_10_code 2 (some .int) ∈ xws := xws_in (i := 846) (by decide +kernel) (by decide +kernel)
theorem xk847 : Cond.methodLink "PlatformsLeaveModel" 87 ⟨"PlatformsLeaveModel", "isFigure", "(I)Z"⟩ ∈ xws := xws_in (i := 847) (by decide +kernel) (by decide +kernel)
theorem xk848 : Cond.static ⟨"PlatformsLeaveModel", "isFigure", "(I)Z"⟩ ∈ xws := xws_in (i := 848) (by decide +kernel) (by decide +kernel)
theorem xk849 : Cond.code ⟨"PlatformsLeaveModel", "isFigure", "(I)Z"⟩ prog_11_method_11_code 1 (some .boolean) ∈ xws := xws_in (i := 849) (by decide +kernel) (by decide +kernel)
theorem xk850 : Cond.methodLink "PlatformsLeaveModel" 95 ⟨"PlatformsLeaveModel", "readsPlatform", "()Z"⟩ ∈ xws := xws_in (i := 850) (by decide +kernel) (by decide +kernel)
theorem xk852 : Cond.instanceMethod ⟨"PlatformsLeaveModel", "readsPlatform", "()Z"⟩ ∈ xws := xws_in (i := 852) (by decide +kernel) (by decide +kernel)
theorem xk853 : Cond.code ⟨"PlatformsLeaveModel", "readsPlatform", "()Z"⟩ prog_11_method_16_code 7 (some .boolean) ∈ xws := xws_in (i := 853) (by decide +kernel) (by decide +kernel)
theorem xk854 : Cond.methodLink "PlatformsLeaveLaw" 30 ⟨"PlatformsLeaveModel", "lay", "()I"⟩ ∈ xws := xws_in (i := 854) (by decide +kernel) (by decide +kernel)
theorem xk855 : Cond.instanceMethod ⟨"PlatformsLeaveModel", "lay", "()I"⟩ ∈ xws := xws_in (i := 855) (by decide +kernel) (by decide +kernel)
theorem xk856 : Cond.selects "PlatformsLeaveModel" ⟨"PlatformsLeaveModel", "lay", "()I"⟩ ⟨"PlatformsLeaveModel", "lay", "()I"⟩ ∈ xws := xws_in (i := 856) (by decide +kernel) (by decide +kernel)
theorem xk857 : Cond.code ⟨"PlatformsLeaveModel", "lay", "()I"⟩ prog_11_method_21_code 1 (some .int) ∈ xws := xws_in (i := 857) (by decide +kernel) (by decide +kernel)
theorem xk858 : Cond.methodLink "PlatformsLeaveLaw" 35 ⟨"PlatformsLeaveModel", "platform", "(II)I"⟩ ∈ xws := xws_in (i := 858) (by decide +kernel) (by decide +kernel)
theorem xk859 : Cond.instanceMethod ⟨"PlatformsLeaveModel", "platform", "(II)I"⟩ ∈ xws := xws_in (i := 859) (by decide +kernel) (by decide +kernel)
theorem xk860 : Cond.selects "PlatformsLeaveModel" ⟨"PlatformsLeaveModel", "platform", "(II)I"⟩ ⟨"PlatformsLeaveModel", "platform", "(II)I"⟩ ∈ xws := xws_in (i := 860) (by decide +kernel) (by decide +kernel)
theorem xk861 : Cond.code ⟨"PlatformsLeaveModel", "platform", "(II)I"⟩ prog_11_method_22_code 3 (some .int) ∈ xws := xws_in (i := 861) (by decide +kernel) (by decide +kernel)
theorem xk862 : Cond.methodLink "PlatformsLeaveModel" 115 ⟨"PlatformsLeaveModel", "isPlatform", "(I)Z"⟩ ∈ xws := xws_in (i := 862) (by decide +kernel) (by decide +kernel)
theorem xk864 : Cond.instanceMethod ⟨"PlatformsLeaveModel", "isPlatform", "(I)Z"⟩ ∈ xws := xws_in (i := 864) (by decide +kernel) (by decide +kernel)
theorem xk865 : Cond.code ⟨"PlatformsLeaveModel", "isPlatform", "(I)Z"⟩ prog_11_method_5_code 2 (some .boolean) ∈ xws := xws_in (i := 865) (by decide +kernel) (by decide +kernel)
theorem xk866 : Cond.methodLink "PlatformsLeaveLaw" 39 ⟨"PlatformsLeaveModel", "train", "(I)I"⟩ ∈ xws := xws_in (i := 866) (by decide +kernel) (by decide +kernel)
theorem xk867 : Cond.instanceMethod ⟨"PlatformsLeaveModel", "train", "(I)I"⟩ ∈ xws := xws_in (i := 867) (by decide +kernel) (by decide +kernel)
theorem xk868 : Cond.selects "PlatformsLeaveModel" ⟨"PlatformsLeaveModel", "train", "(I)I"⟩ ⟨"PlatformsLeaveModel", "train", "(I)I"⟩ ∈ xws := xws_in (i := 868) (by decide +kernel) (by decide +kernel)
theorem xk869 : Cond.code ⟨"PlatformsLeaveModel", "train", "(I)I"⟩ prog_11_method_23_code 2 (some .int) ∈ xws := xws_in (i := 869) (by decide +kernel) (by decide +kernel)
theorem xk870 : Cond.methodLink "PlatformsLeaveModel" 118 ⟨"PlatformsLeaveModel", "isTrain", "(I)Z"⟩ ∈ xws := xws_in (i := 870) (by decide +kernel) (by decide +kernel)
theorem xk872 : Cond.instanceMethod ⟨"PlatformsLeaveModel", "isTrain", "(I)Z"⟩ ∈ xws := xws_in (i := 872) (by decide +kernel) (by decide +kernel)
theorem xk873 : Cond.code ⟨"PlatformsLeaveModel", "isTrain", "(I)Z"⟩ prog_11_method_4_code 2 (some .boolean) ∈ xws := xws_in (i := 873) (by decide +kernel) (by decide +kernel)
theorem xk874 : Cond.methodLink "PlatformsLeaveLaw" 43 ⟨"PlatformsLeaveModel", "cell", "(II)I"⟩ ∈ xws := xws_in (i := 874) (by decide +kernel) (by decide +kernel)
theorem xk875 : Cond.instanceMethod ⟨"PlatformsLeaveModel", "cell", "(II)I"⟩ ∈ xws := xws_in (i := 875) (by decide +kernel) (by decide +kernel)
theorem xk876 : Cond.selects "PlatformsLeaveModel" ⟨"PlatformsLeaveModel", "cell", "(II)I"⟩ ⟨"PlatformsLeaveModel", "cell", "(II)I"⟩ ∈ xws := xws_in (i := 876) (by decide +kernel) (by decide +kernel)
theorem xk877 : Cond.code ⟨"PlatformsLeaveModel", "cell", "(II)I"⟩ prog_11_method_24_code 3 (some .int) ∈ xws := xws_in (i := 877) (by decide +kernel) (by decide +kernel)
theorem xk878 : Cond.methodLink "PlatformsLeaveModel" 121 ⟨"PlatformsLeaveModel", "isCell", "(I)Z"⟩ ∈ xws := xws_in (i := 878) (by decide +kernel) (by decide +kernel)
theorem xk880 : Cond.instanceMethod ⟨"PlatformsLeaveModel", "isCell", "(I)Z"⟩ ∈ xws := xws_in (i := 880) (by decide +kernel) (by decide +kernel)
theorem xk881 : Cond.code ⟨"PlatformsLeaveModel", "isCell", "(I)Z"⟩ prog_11_method_6_code 2 (some .boolean) ∈ xws := xws_in (i := 881) (by decide +kernel) (by decide +kernel)
theorem xk882 : Cond.methodLink "PlatformsLeaveLaw" 47 ⟨"PlatformsLeaveModel", "start", "(II)I"⟩ ∈ xws := xws_in (i := 882) (by decide +kernel) (by decide +kernel)
theorem xk883 : Cond.instanceMethod ⟨"PlatformsLeaveModel", "start", "(II)I"⟩ ∈ xws := xws_in (i := 883) (by decide +kernel) (by decide +kernel)
theorem xk884 : Cond.selects "PlatformsLeaveModel" ⟨"PlatformsLeaveModel", "start", "(II)I"⟩ ⟨"PlatformsLeaveModel", "start", "(II)I"⟩ ∈ xws := xws_in (i := 884) (by decide +kernel) (by decide +kernel)
theorem xk885 : Cond.code ⟨"PlatformsLeaveModel", "start", "(II)I"⟩ prog_11_method_26_code 4 (some .int) ∈ xws := xws_in (i := 885) (by decide +kernel) (by decide +kernel)
theorem xk886 : Cond.methodLink "PlatformsLeaveModel" 124 ⟨"PlatformsLeaveModel", "keeps", "()V"⟩ ∈ xws := xws_in (i := 886) (by decide +kernel) (by decide +kernel)
theorem xk888 : Cond.instanceMethod ⟨"PlatformsLeaveModel", "keeps", "()V"⟩ ∈ xws := xws_in (i := 888) (by decide +kernel) (by decide +kernel)
theorem xk889 : Cond.code ⟨"PlatformsLeaveModel", "keeps", "()V"⟩ prog_11_method_25_code 2 none ∈ xws := xws_in (i := 889) (by decide +kernel) (by decide +kernel)
theorem xk890 : Cond.methodLink "PlatformsLeaveLaw" 51 ⟨"PlatformsLeaveModel", "hold", "(I)I"⟩ ∈ xws := xws_in (i := 890) (by decide +kernel) (by decide +kernel)
theorem xk891 : Cond.instanceMethod ⟨"PlatformsLeaveModel", "hold", "(I)I"⟩ ∈ xws := xws_in (i := 891) (by decide +kernel) (by decide +kernel)
theorem xk892 : Cond.selects "PlatformsLeaveModel" ⟨"PlatformsLeaveModel", "hold", "(I)I"⟩ ⟨"PlatformsLeaveModel", "hold", "(I)I"⟩ ∈ xws := xws_in (i := 892) (by decide +kernel) (by decide +kernel)
theorem xk893 : Cond.code ⟨"PlatformsLeaveModel", "hold", "(I)I"⟩ prog_11_method_27_code 2 (some .int) ∈ xws := xws_in (i := 893) (by decide +kernel) (by decide +kernel)
theorem xk894 : Cond.methodLink "PlatformsLeaveLaw" 55 ⟨"PlatformsLeaveModel", "pass", "(I)I"⟩ ∈ xws := xws_in (i := 894) (by decide +kernel) (by decide +kernel)
theorem xk895 : Cond.instanceMethod ⟨"PlatformsLeaveModel", "pass", "(I)I"⟩ ∈ xws := xws_in (i := 895) (by decide +kernel) (by decide +kernel)
theorem xk896 : Cond.selects "PlatformsLeaveModel" ⟨"PlatformsLeaveModel", "pass", "(I)I"⟩ ⟨"PlatformsLeaveModel", "pass", "(I)I"⟩ ∈ xws := xws_in (i := 896) (by decide +kernel) (by decide +kernel)
theorem xk897 : Cond.code ⟨"PlatformsLeaveModel", "pass", "(I)I"⟩ prog_11_method_28_code 4 (some .int) ∈ xws := xws_in (i := 897) (by decide +kernel) (by decide +kernel)
theorem xk898 : Cond.methodLink "PlatformsLeaveLaw" 59 ⟨"PlatformsLeaveModel", "undo", "()I"⟩ ∈ xws := xws_in (i := 898) (by decide +kernel) (by decide +kernel)
theorem xk899 : Cond.instanceMethod ⟨"PlatformsLeaveModel", "undo", "()I"⟩ ∈ xws := xws_in (i := 899) (by decide +kernel) (by decide +kernel)
theorem xk900 : Cond.selects "PlatformsLeaveModel" ⟨"PlatformsLeaveModel", "undo", "()I"⟩ ⟨"PlatformsLeaveModel", "undo", "()I"⟩ ∈ xws := xws_in (i := 900) (by decide +kernel) (by decide +kernel)
theorem xk901 : Cond.code ⟨"PlatformsLeaveModel", "undo", "()I"⟩ prog_11_method_29_code 2 (some .int) ∈ xws := xws_in (i := 901) (by decide +kernel) (by decide +kernel)
theorem xk902 : Cond.methodLink "PlatformsLeaveLaw" 64 ⟨"PlatformsLeaveModel", "where", "(III)I"⟩ ∈ xws := xws_in (i := 902) (by decide +kernel) (by decide +kernel)
theorem xk903 : Cond.instanceMethod ⟨"PlatformsLeaveModel", "where", "(III)I"⟩ ∈ xws := xws_in (i := 903) (by decide +kernel) (by decide +kernel)
theorem xk904 : Cond.selects "PlatformsLeaveModel" ⟨"PlatformsLeaveModel", "where", "(III)I"⟩ ⟨"PlatformsLeaveModel", "where", "(III)I"⟩ ∈ xws := xws_in (i := 904) (by decide +kernel) (by decide +kernel)
theorem xk905 : Cond.code ⟨"PlatformsLeaveModel", "where", "(III)I"⟩ prog_11_method_37_code 5 (some .int) ∈ xws := xws_in (i := 905) (by decide +kernel) (by decide +kernel)
theorem xk906 : Cond.methodLink "PlatformsLeaveModel" 162 ⟨"PlatformsLeaveModel", "runs", "()V"⟩ ∈ xws := xws_in (i := 906) (by decide +kernel) (by decide +kernel)
theorem xk908 : Cond.instanceMethod ⟨"PlatformsLeaveModel", "runs", "()V"⟩ ∈ xws := xws_in (i := 908) (by decide +kernel) (by decide +kernel)
theorem xk909 : Cond.code ⟨"PlatformsLeaveModel", "runs", "()V"⟩ prog_11_method_36_code 4 none ∈ xws := xws_in (i := 909) (by decide +kernel) (by decide +kernel)
theorem xk910 : Cond.methodLink "PlatformsLeaveModel" 155 ⟨"PlatformsLeaveModel", "goes", "(III)V"⟩ ∈ xws := xws_in (i := 910) (by decide +kernel) (by decide +kernel)
theorem xk912 : Cond.instanceMethod ⟨"PlatformsLeaveModel", "goes", "(III)V"⟩ ∈ xws := xws_in (i := 912) (by decide +kernel) (by decide +kernel)
theorem xk913 : Cond.code ⟨"PlatformsLeaveModel", "goes", "(III)V"⟩ prog_11_method_34_code 9 none ∈ xws := xws_in (i := 913) (by decide +kernel) (by decide +kernel)
theorem xk914 : Cond.methodLink "PlatformsLeaveModel" 139 ⟨"PlatformsLeaveModel", "isHeld", "(II)Z"⟩ ∈ xws := xws_in (i := 914) (by decide +kernel) (by decide +kernel)
theorem xk916 : Cond.instanceMethod ⟨"PlatformsLeaveModel", "isHeld", "(II)Z"⟩ ∈ xws := xws_in (i := 916) (by decide +kernel) (by decide +kernel)
theorem xk917 : Cond.code ⟨"PlatformsLeaveModel", "isHeld", "(II)Z"⟩ prog_11_method_32_code 3 (some .boolean) ∈ xws := xws_in (i := 917) (by decide +kernel) (by decide +kernel)
theorem xk918 : Cond.methodLink "PlatformsLeaveModel" 143 ⟨"PlatformsLeaveModel", "moves", "(II)Z"⟩ ∈ xws := xws_in (i := 918) (by decide +kernel) (by decide +kernel)
theorem xk920 : Cond.instanceMethod ⟨"PlatformsLeaveModel", "moves", "(II)Z"⟩ ∈ xws := xws_in (i := 920) (by decide +kernel) (by decide +kernel)
theorem xk921 : Cond.code ⟨"PlatformsLeaveModel", "moves", "(II)Z"⟩ prog_11_method_33_code 4 (some .boolean) ∈ xws := xws_in (i := 921) (by decide +kernel) (by decide +kernel)
theorem xk922 : Cond.methodLink "PlatformsLeaveModel" 133 ⟨"PlatformsLeaveModel", "others", "(III)I"⟩ ∈ xws := xws_in (i := 922) (by decide +kernel) (by decide +kernel)
theorem xk924 : Cond.instanceMethod ⟨"PlatformsLeaveModel", "others", "(III)I"⟩ ∈ xws := xws_in (i := 924) (by decide +kernel) (by decide +kernel)
theorem xk925 : Cond.code ⟨"PlatformsLeaveModel", "others", "(III)I"⟩ prog_11_method_31_code 6 (some .int) ∈ xws := xws_in (i := 925) (by decide +kernel) (by decide +kernel)
theorem xk926 : Cond.methodLink "PlatformsLeaveModel" 149 ⟨"PlatformsLeaveModel", "isTrainAt", "(I)Z"⟩ ∈ xws := xws_in (i := 926) (by decide +kernel) (by decide +kernel)
theorem xk928 : Cond.instanceMethod ⟨"PlatformsLeaveModel", "isTrainAt", "(I)Z"⟩ ∈ xws := xws_in (i := 928) (by decide +kernel) (by decide +kernel)
theorem xk929 : Cond.code ⟨"PlatformsLeaveModel", "isTrainAt", "(I)Z"⟩ prog_11_method_30_code 4 (some .boolean) ∈ xws := xws_in (i := 929) (by decide +kernel) (by decide +kernel)
theorem xk930 : Cond.methodLink "PlatformsLeaveModel" 159 ⟨"PlatformsLeaveModel", "ends", "(I)V"⟩ ∈ xws := xws_in (i := 930) (by decide +kernel) (by decide +kernel)
theorem xk932 : Cond.instanceMethod ⟨"PlatformsLeaveModel", "ends", "(I)V"⟩ ∈ xws := xws_in (i := 932) (by decide +kernel) (by decide +kernel)
theorem xk933 : Cond.code ⟨"PlatformsLeaveModel", "ends", "(I)V"⟩ prog_11_method_35_code 3 none ∈ xws := xws_in (i := 933) (by decide +kernel) (by decide +kernel)
theorem xk934 : Cond.methodLink "PlatformsLeaveLaw" 68 ⟨"PlatformsLeaveModel", "first", "(II)I"⟩ ∈ xws := xws_in (i := 934) (by decide +kernel) (by decide +kernel)
theorem xk935 : Cond.instanceMethod ⟨"PlatformsLeaveModel", "first", "(II)I"⟩ ∈ xws := xws_in (i := 935) (by decide +kernel) (by decide +kernel)
theorem xk936 : Cond.selects "PlatformsLeaveModel" ⟨"PlatformsLeaveModel", "first", "(II)I"⟩ ⟨"PlatformsLeaveModel", "first", "(II)I"⟩ ∈ xws := xws_in (i := 936) (by decide +kernel) (by decide +kernel)
theorem xk937 : Cond.code ⟨"PlatformsLeaveModel", "first", "(II)I"⟩ prog_11_method_40_code 3 (some .int) ∈ xws := xws_in (i := 937) (by decide +kernel) (by decide +kernel)
theorem xk938 : Cond.methodLink "PlatformsLeaveModel" 168 ⟨"PlatformsLeaveModel", "firstAt", "(II)I"⟩ ∈ xws := xws_in (i := 938) (by decide +kernel) (by decide +kernel)
theorem xk940 : Cond.instanceMethod ⟨"PlatformsLeaveModel", "firstAt", "(II)I"⟩ ∈ xws := xws_in (i := 940) (by decide +kernel) (by decide +kernel)
theorem xk941 : Cond.code ⟨"PlatformsLeaveModel", "firstAt", "(II)I"⟩ prog_11_method_39_code 5 (some .int) ∈ xws := xws_in (i := 941) (by decide +kernel) (by decide +kernel)
theorem xk942 : Cond.methodLink "PlatformsLeaveModel" 165 ⟨"PlatformsLeaveModel", "isAt", "(III)Z"⟩ ∈ xws := xws_in (i := 942) (by decide +kernel) (by decide +kernel)
theorem xk944 : Cond.instanceMethod ⟨"PlatformsLeaveModel", "isAt", "(III)Z"⟩ ∈ xws := xws_in (i := 944) (by decide +kernel) (by decide +kernel)
theorem xk945 : Cond.code ⟨"PlatformsLeaveModel", "isAt", "(III)Z"⟩ prog_11_method_38_code 4 (some .boolean) ∈ xws := xws_in (i := 945) (by decide +kernel) (by decide +kernel)
theorem xk946 : Cond.methodLink "PlatformsLeaveLaw" 72 ⟨"PlatformsLeaveModel", "hang", "()I"⟩ ∈ xws := xws_in (i := 946) (by decide +kernel) (by decide +kernel)
theorem xk947 : Cond.instanceMethod ⟨"PlatformsLeaveModel", "hang", "()I"⟩ ∈ xws := xws_in (i := 947) (by decide +kernel) (by decide +kernel)
theorem xk948 : Cond.selects "PlatformsLeaveModel" ⟨"PlatformsLeaveModel", "hang", "()I"⟩ ⟨"PlatformsLeaveModel", "hang", "()I"⟩ ∈ xws := xws_in (i := 948) (by decide +kernel) (by decide +kernel)
theorem xk949 : Cond.code ⟨"PlatformsLeaveModel", "hang", "()I"⟩ prog_11_method_41_code 1 (some .int) ∈ xws := xws_in (i := 949) (by decide +kernel) (by decide +kernel)
theorem xk950 : Cond.methodLink "PlatformsLeaveLaw" 76 ⟨"PlatformsLeaveModel", "trip", "(III)I"⟩ ∈ xws := xws_in (i := 950) (by decide +kernel) (by decide +kernel)
theorem xk951 : Cond.instanceMethod ⟨"PlatformsLeaveModel", "trip", "(III)I"⟩ ∈ xws := xws_in (i := 951) (by decide +kernel) (by decide +kernel)
theorem xk952 : Cond.selects "PlatformsLeaveModel" ⟨"PlatformsLeaveModel", "trip", "(III)I"⟩ ⟨"PlatformsLeaveModel", "trip", "(III)I"⟩ ∈ xws := xws_in (i := 952) (by decide +kernel) (by decide +kernel)
theorem xk953 : Cond.code ⟨"PlatformsLeaveModel", "trip", "(III)I"⟩ prog_11_method_42_code 8 (some .int) ∈ xws := xws_in (i := 953) (by decide +kernel) (by decide +kernel)
theorem xk954 : Cond.methodLink "PlatformsLeaveLaw" 80 ⟨"PlatformsLeaveModel", "best", "(III)I"⟩ ∈ xws := xws_in (i := 954) (by decide +kernel) (by decide +kernel)
theorem xk955 : Cond.instanceMethod ⟨"PlatformsLeaveModel", "best", "(III)I"⟩ ∈ xws := xws_in (i := 955) (by decide +kernel) (by decide +kernel)
theorem xk956 : Cond.selects "PlatformsLeaveModel" ⟨"PlatformsLeaveModel", "best", "(III)I"⟩ ⟨"PlatformsLeaveModel", "best", "(III)I"⟩ ∈ xws := xws_in (i := 956) (by decide +kernel) (by decide +kernel)
theorem xk957 : Cond.code ⟨"PlatformsLeaveModel", "best", "(III)I"⟩ prog_11_method_43_code 10 (some .int) ∈ xws := xws_in (i := 957) (by decide +kernel) (by decide +kernel)
theorem xk958 : Cond.methodLink "PlatformsLeaveLaw" 84 ⟨"PlatformsLeaveModel", "places", "(I)I"⟩ ∈ xws := xws_in (i := 958) (by decide +kernel) (by decide +kernel)
theorem xk959 : Cond.instanceMethod ⟨"PlatformsLeaveModel", "places", "(I)I"⟩ ∈ xws := xws_in (i := 959) (by decide +kernel) (by decide +kernel)
theorem xk960 : Cond.selects "PlatformsLeaveModel" ⟨"PlatformsLeaveModel", "places", "(I)I"⟩ ⟨"PlatformsLeaveModel", "places", "(I)I"⟩ ∈ xws := xws_in (i := 960) (by decide +kernel) (by decide +kernel)
theorem xk961 : Cond.code ⟨"PlatformsLeaveModel", "places", "(I)I"⟩ prog_11_method_44_code 9 (some .int) ∈ xws := xws_in (i := 961) (by decide +kernel) (by decide +kernel)
theorem xk962 : Cond.methodLink "PlatformsLeaveModel" 172 ⟨"PlatformsLeaveModel", "ones", "(I)I"⟩ ∈ xws := xws_in (i := 962) (by decide +kernel) (by decide +kernel)
theorem xk963 : Cond.static ⟨"PlatformsLeaveModel", "ones", "(I)I"⟩ ∈ xws := xws_in (i := 963) (by decide +kernel) (by decide +kernel)
theorem xk964 : Cond.code ⟨"PlatformsLeaveModel", "ones", "(I)I"⟩ prog_11_method_7_code 3 (some .int) ∈ xws := xws_in (i := 964) (by decide +kernel) (by decide +kernel)
theorem xk965 : Cond.methodLink "PlatformsLeaveLaw" 89 ⟨"PlatformsLeaveModel", "came", "(IIZ)I"⟩ ∈ xws := xws_in (i := 965) (by decide +kernel) (by decide +kernel)
theorem xk966 : Cond.instanceMethod ⟨"PlatformsLeaveModel", "came", "(IIZ)I"⟩ ∈ xws := xws_in (i := 966) (by decide +kernel) (by decide +kernel)
theorem xk967 : Cond.selects "PlatformsLeaveModel" ⟨"PlatformsLeaveModel", "came", "(IIZ)I"⟩ ⟨"PlatformsLeaveModel", "came", "(IIZ)I"⟩ ∈ xws := xws_in (i := 967) (by decide +kernel) (by decide +kernel)
theorem xk968 : Cond.code ⟨"PlatformsLeaveModel", "came", "(IIZ)I"⟩ prog_11_method_45_code 4 (some .int) ∈ xws := xws_in (i := 968) (by decide +kernel) (by decide +kernel)
theorem xk969 : Cond.methodLink "PlatformsLeaveLaw" 93 ⟨"PlatformsLeaveModel", "forget", "()I"⟩ ∈ xws := xws_in (i := 969) (by decide +kernel) (by decide +kernel)
theorem xk970 : Cond.instanceMethod ⟨"PlatformsLeaveModel", "forget", "()I"⟩ ∈ xws := xws_in (i := 970) (by decide +kernel) (by decide +kernel)
theorem xk971 : Cond.selects "PlatformsLeaveModel" ⟨"PlatformsLeaveModel", "forget", "()I"⟩ ⟨"PlatformsLeaveModel", "forget", "()I"⟩ ∈ xws := xws_in (i := 971) (by decide +kernel) (by decide +kernel)
theorem xk972 : Cond.code ⟨"PlatformsLeaveModel", "forget", "()I"⟩ prog_11_method_46_code 2 (some .int) ∈ xws := xws_in (i := 972) (by decide +kernel) (by decide +kernel)
theorem xk973 : Cond.methodLink "PlatformsLeaveLaw" 97 ⟨"PlatformsLeaveModel", "fits", "(I)I"⟩ ∈ xws := xws_in (i := 973) (by decide +kernel) (by decide +kernel)
theorem xk974 : Cond.instanceMethod ⟨"PlatformsLeaveModel", "fits", "(I)I"⟩ ∈ xws := xws_in (i := 974) (by decide +kernel) (by decide +kernel)
theorem xk975 : Cond.selects "PlatformsLeaveModel" ⟨"PlatformsLeaveModel", "fits", "(I)I"⟩ ⟨"PlatformsLeaveModel", "fits", "(I)I"⟩ ∈ xws := xws_in (i := 975) (by decide +kernel) (by decide +kernel)
theorem xk976 : Cond.code ⟨"PlatformsLeaveModel", "fits", "(I)I"⟩ prog_11_method_47_code 9 (some .int) ∈ xws := xws_in (i := 976) (by decide +kernel) (by decide +kernel)
theorem xk977 : Cond.methodLink "PlatformsLeaveLaw" 102 ⟨"PlatformsLeaveModel", "from", "(IIII)I"⟩ ∈ xws := xws_in (i := 977) (by decide +kernel) (by decide +kernel)
theorem xk978 : Cond.instanceMethod ⟨"PlatformsLeaveModel", "from", "(IIII)I"⟩ ∈ xws := xws_in (i := 978) (by decide +kernel) (by decide +kernel)
theorem xk979 : Cond.selects "PlatformsLeaveModel" ⟨"PlatformsLeaveModel", "from", "(IIII)I"⟩ ⟨"PlatformsLeaveModel", "from", "(IIII)I"⟩ ∈ xws := xws_in (i := 979) (by decide +kernel) (by decide +kernel)
theorem xk980 : Cond.code ⟨"PlatformsLeaveModel", "from", "(IIII)I"⟩ prog_11_method_49_code 6 (some .int) ∈ xws := xws_in (i := 980) (by decide +kernel) (by decide +kernel)
theorem xk981 : Cond.methodLink "PlatformsLeaveModel" 175 ⟨"PlatformsLeaveModel", "up", "(III)I"⟩ ∈ xws := xws_in (i := 981) (by decide +kernel) (by decide +kernel)
theorem xk983 : Cond.instanceMethod ⟨"PlatformsLeaveModel", "up", "(III)I"⟩ ∈ xws := xws_in (i := 983) (by decide +kernel) (by decide +kernel)
theorem xk984 : Cond.code ⟨"PlatformsLeaveModel", "up", "(III)I"⟩ prog_11_method_48_code 4 (some .int) ∈ xws := xws_in (i := 984) (by decide +kernel) (by decide +kernel)
theorem xk985 : Cond.methodLink "PlatformsLeaveLaw" 106 ⟨"PlatformsLeaveModel", "clocks", "(III)I"⟩ ∈ xws := xws_in (i := 985) (by decide +kernel) (by decide +kernel)
theorem xk986 : Cond.instanceMethod ⟨"PlatformsLeaveModel", "clocks", "(III)I"⟩ ∈ xws := xws_in (i := 986) (by decide +kernel) (by decide +kernel)
theorem xk987 : Cond.selects "PlatformsLeaveModel" ⟨"PlatformsLeaveModel", "clocks", "(III)I"⟩ ⟨"PlatformsLeaveModel", "clocks", "(III)I"⟩ ∈ xws := xws_in (i := 987) (by decide +kernel) (by decide +kernel)
theorem xk988 : Cond.code ⟨"PlatformsLeaveModel", "clocks", "(III)I"⟩ prog_11_method_50_code 8 (some .int) ∈ xws := xws_in (i := 988) (by decide +kernel) (by decide +kernel)
theorem xk989 : Cond.methodLink "PlatformsLeaveLaw" 111 ⟨"PlatformsLeaveModel", "floods", "(IIIII)I"⟩ ∈ xws := xws_in (i := 989) (by decide +kernel) (by decide +kernel)
theorem xk990 : Cond.instanceMethod ⟨"PlatformsLeaveModel", "floods", "(IIIII)I"⟩ ∈ xws := xws_in (i := 990) (by decide +kernel) (by decide +kernel)
theorem xk991 : Cond.selects "PlatformsLeaveModel" ⟨"PlatformsLeaveModel", "floods", "(IIIII)I"⟩ ⟨"PlatformsLeaveModel", "floods", "(IIIII)I"⟩ ∈ xws := xws_in (i := 991) (by decide +kernel) (by decide +kernel)
theorem xk992 : Cond.code ⟨"PlatformsLeaveModel", "floods", "(IIIII)I"⟩ prog_11_method_51_code 12 (some .int) ∈ xws := xws_in (i := 992) (by decide +kernel) (by decide +kernel)
theorem xk993 : Cond.methodLink "PlatformsLeaveLaw" 115 ⟨"PlatformsLeaveModel", "day", "(II)I"⟩ ∈ xws := xws_in (i := 993) (by decide +kernel) (by decide +kernel)
theorem xk994 : Cond.instanceMethod ⟨"PlatformsLeaveModel", "day", "(II)I"⟩ ∈ xws := xws_in (i := 994) (by decide +kernel) (by decide +kernel)
theorem xk995 : Cond.selects "PlatformsLeaveModel" ⟨"PlatformsLeaveModel", "day", "(II)I"⟩ ⟨"PlatformsLeaveModel", "day", "(II)I"⟩ ∈ xws := xws_in (i := 995) (by decide +kernel) (by decide +kernel)
theorem xk996 : Cond.code ⟨"PlatformsLeaveModel", "day", "(II)I"⟩ prog_11_method_52_code 6 (some .int) ∈ xws := xws_in (i := 996) (by decide +kernel) (by decide +kernel)
theorem xk997 : Cond.constantLong "PlatformsLeaveModel" 178 (7919) ∈ xws := xws_in (i := 997) (by decide +kernel) (by decide +kernel)
theorem xk998 : Cond.constantLong "PlatformsLeaveModel" 180 (331) ∈ xws := xws_in (i := 998) (by decide +kernel) (by decide +kernel)
theorem xk999 : Cond.constantLong "PlatformsLeaveModel" 182 (65521) ∈ xws := xws_in (i := 999) (by decide +kernel) (by decide +kernel)
theorem xk1000 : Cond.methodLink "PlatformsLeaveLaw" 119 ⟨"PlatformsLeaveModel", "keep", "()I"⟩ ∈ xws := xws_in (i := 1000) (by decide +kernel) (by decide +kernel)
theorem xk1001 : Cond.instanceMethod ⟨"PlatformsLeaveModel", "keep", "()I"⟩ ∈ xws := xws_in (i := 1001) (by decide +kernel) (by decide +kernel)
theorem xk1002 : Cond.selects "PlatformsLeaveModel" ⟨"PlatformsLeaveModel", "keep", "()I"⟩ ⟨"PlatformsLeaveModel", "keep", "()I"⟩ ∈ xws := xws_in (i := 1002) (by decide +kernel) (by decide +kernel)
theorem xk1003 : Cond.code ⟨"PlatformsLeaveModel", "keep", "()I"⟩ prog_11_method_53_code 2 (some .int) ∈ xws := xws_in (i := 1003) (by decide +kernel) (by decide +kernel)
theorem xk1004 : Cond.methodLink "PlatformsLeaveLaw" 123 ⟨"PlatformsLeaveModel", "back", "()I"⟩ ∈ xws := xws_in (i := 1004) (by decide +kernel) (by decide +kernel)
theorem xk1005 : Cond.instanceMethod ⟨"PlatformsLeaveModel", "back", "()I"⟩ ∈ xws := xws_in (i := 1005) (by decide +kernel) (by decide +kernel)
theorem xk1006 : Cond.selects "PlatformsLeaveModel" ⟨"PlatformsLeaveModel", "back", "()I"⟩ ⟨"PlatformsLeaveModel", "back", "()I"⟩ ∈ xws := xws_in (i := 1006) (by decide +kernel) (by decide +kernel)
theorem xk1007 : Cond.code ⟨"PlatformsLeaveModel", "back", "()I"⟩ prog_11_method_54_code 2 (some .int) ∈ xws := xws_in (i := 1007) (by decide +kernel) (by decide +kernel)
theorem xk1008 : Cond.methodLink "PlatformsLeaveLaw" 127 ⟨"PlatformsLeaveModel", "count", "(I)I"⟩ ∈ xws := xws_in (i := 1008) (by decide +kernel) (by decide +kernel)
theorem xk1009 : Cond.instanceMethod ⟨"PlatformsLeaveModel", "count", "(I)I"⟩ ∈ xws := xws_in (i := 1009) (by decide +kernel) (by decide +kernel)
theorem xk1010 : Cond.selects "PlatformsLeaveModel" ⟨"PlatformsLeaveModel", "count", "(I)I"⟩ ⟨"PlatformsLeaveModel", "count", "(I)I"⟩ ∈ xws := xws_in (i := 1010) (by decide +kernel) (by decide +kernel)
theorem xk1011 : Cond.code ⟨"PlatformsLeaveModel", "count", "(I)I"⟩ prog_11_method_55_code 2 (some .int) ∈ xws := xws_in (i := 1011) (by decide +kernel) (by decide +kernel)
theorem xbt0 : xby 0 = cX0_add := rfl
theorem xmok0 : xMok 0 := ⟨xk478, by decide +kernel, ⟨by decide +kernel, by decide +kernel, by decide +kernel⟩, rfl, by decide⟩
theorem xbt1 : xby 1 = cX0_dropOldest := rfl
theorem xmok1 : xMok 1 := ⟨xk482, by decide +kernel, ⟨by decide +kernel, by decide +kernel, by decide +kernel⟩, rfl, by decide⟩
theorem xbt2 : xby 2 = cX0_takeBack := rfl
theorem xmok2 : xMok 2 := ⟨xk499, by decide +kernel, ⟨by decide +kernel, by decide +kernel, by decide +kernel⟩, rfl, by decide⟩
theorem xbt3 : xby 3 = cX6_copy := rfl
theorem xmok3 : xMok 3 := ⟨xk511, by decide +kernel, ⟨by decide +kernel, by decide +kernel, by decide +kernel⟩, rfl, by decide⟩
theorem xbt4 : xby 4 = cX2_add := rfl
theorem xmok4 : xMok 4 := ⟨xk701, by decide +kernel, ⟨by decide +kernel, by decide +kernel, by decide +kernel⟩, rfl, by decide⟩
theorem xbt5 : xby 5 = cX2_giveBack := rfl
theorem xmok5 : xMok 5 := ⟨xk710, by decide +kernel, ⟨by decide +kernel, by decide +kernel, by decide +kernel⟩, rfl, by decide⟩
theorem xbt6 : xby 6 = cX3_clear := rfl
theorem xmok6 : xMok 6 := ⟨xk360, by decide +kernel, ⟨by decide +kernel, by decide +kernel, by decide +kernel⟩, rfl, by decide⟩
theorem xbt7 : xby 7 = cX3_hasCell := rfl
theorem xmok7 : xMok 7 := ⟨xk383, by decide +kernel, ⟨by decide +kernel, by decide +kernel, by decide +kernel⟩, rfl, by decide⟩
theorem xbt8 : xby 8 = cX3_hasTrain := rfl
theorem xmok8 : xMok 8 := ⟨xk462, by decide +kernel, ⟨by decide +kernel, by decide +kernel, by decide +kernel⟩, rfl, by decide⟩
theorem xbt9 : xby 9 = cX3_hasPlatform := rfl
theorem xmok9 : xMok 9 := ⟨xk453, by decide +kernel, ⟨by decide +kernel, by decide +kernel, by decide +kernel⟩, rfl, by decide⟩
theorem xbt10 : xby 10 = cX3_toldIn := rfl
theorem xmok10 : xMok 10 := ⟨xk391, by decide +kernel, ⟨by decide +kernel, by decide +kernel, by decide +kernel⟩, rfl, by decide⟩
theorem xbt11 : xby 11 = cX3_standsIn := rfl
theorem xmok11 : xMok 11 := ⟨xk540, by decide +kernel, ⟨by decide +kernel, by decide +kernel, by decide +kernel⟩, rfl, by decide⟩
theorem xbt12 : xby 12 = cX3_addRing := rfl
theorem xmok12 : xMok 12 := ⟨xk375, by decide +kernel, ⟨by decide +kernel, by decide +kernel, by decide +kernel⟩, rfl, by decide⟩
theorem xbt13 : xby 13 = cX3_addTrain := rfl
theorem xmok13 : xMok 13 := ⟨xk379, by decide +kernel, ⟨by decide +kernel, by decide +kernel, by decide +kernel⟩, rfl, by decide⟩
theorem xbt14 : xby 14 = cX3_addPlatform := rfl
theorem xmok14 : xMok 14 := ⟨xk387, by decide +kernel, ⟨by decide +kernel, by decide +kernel, by decide +kernel⟩, rfl, by decide⟩
theorem xbt15 : xby 15 = cX3_addPassing := rfl
theorem xmok15 : xMok 15 := ⟨xk398, by decide +kernel, ⟨by decide +kernel, by decide +kernel, by decide +kernel⟩, rfl, by decide⟩
theorem xbt16 : xby 16 = cX3_addRain := rfl
theorem xmok16 : xMok 16 := ⟨xk402, by decide +kernel, ⟨by decide +kernel, by decide +kernel, by decide +kernel⟩, rfl, by decide⟩
theorem xbt17 : xby 17 = cX3_nextCell := rfl
theorem xmok17 : xMok 17 := ⟨xk536, by decide +kernel, ⟨by decide +kernel, by decide +kernel, by decide +kernel⟩, rfl, by decide⟩
theorem xbt18 : xby 18 = cX3_byRound := rfl
theorem xmok18 : xMok 18 := ⟨xk657, by decide +kernel, ⟨by decide +kernel, by decide +kernel, by decide +kernel⟩, rfl, by decide⟩
theorem xbt19 : xby 19 = cX7_add := rfl
theorem xmok19 : xMok 19 := ⟨xk352, by decide +kernel, ⟨by decide +kernel, by decide +kernel, by decide +kernel⟩, rfl, by decide⟩
theorem xbt20 : xby 20 = cX7_readInto := rfl
theorem xmok20 : xMok 20 := ⟨xk356, by decide +kernel, ⟨by decide +kernel, by decide +kernel, by decide +kernel⟩, rfl, by decide⟩
theorem xbt21 : xby 21 = cX7_readItem := rfl
theorem xmok21 : xMok 21 := ⟨xk364, by decide +kernel, ⟨by decide +kernel, by decide +kernel, by decide +kernel⟩, rfl, by decide⟩
theorem xbt22 : xby 22 = cX7_readNumber := rfl
theorem xmok22 : xMok 22 := ⟨xk368, by decide +kernel, ⟨by decide +kernel, by decide +kernel, by decide +kernel⟩, rfl, by decide⟩
theorem xbt23 : xby 23 = cX7_isFigure := rfl
theorem xmok23 : xMok 23 := ⟨xk371, by decide +kernel, ⟨by decide +kernel, by decide +kernel, by decide +kernel⟩, rfl, by decide⟩
theorem xbt24 : xby 24 = cX5_begin := rfl
theorem xmok24 : xMok 24 := ⟨xk507, by decide +kernel, ⟨by decide +kernel, by decide +kernel, by decide +kernel⟩, rfl, by decide⟩
theorem xbt25 : xby 25 = cX5_goTo := rfl
theorem xmok25 : xMok 25 := ⟨xk515, by decide +kernel, ⟨by decide +kernel, by decide +kernel, by decide +kernel⟩, rfl, by decide⟩
theorem xbt26 : xby 26 = cX5_goOn := rfl
theorem xmok26 : xMok 26 := ⟨xk519, by decide +kernel, ⟨by decide +kernel, by decide +kernel, by decide +kernel⟩, rfl, by decide⟩
theorem xbt27 : xby 27 = cX5_wantsOn := rfl
theorem xmok27 : xMok 27 := ⟨xk523, by decide +kernel, ⟨by decide +kernel, by decide +kernel, by decide +kernel⟩, rfl, by decide⟩
theorem xbt28 : xby 28 = cX5_move := rfl
theorem xmok28 : xMok 28 := ⟨xk528, by decide +kernel, ⟨by decide +kernel, by decide +kernel, by decide +kernel⟩, rfl, by decide⟩
theorem xbt29 : xby 29 = cX5_goesIn := rfl
theorem xmok29 : xMok 29 := ⟨xk532, by decide +kernel, ⟨by decide +kernel, by decide +kernel, by decide +kernel⟩, rfl, by decide⟩
theorem xbt30 : xby 30 = cX5_isAt := rfl
theorem xmok30 : xMok 30 := ⟨xk553, by decide +kernel, ⟨by decide +kernel, by decide +kernel, by decide +kernel⟩, rfl, by decide⟩
theorem xbt31 : xby 31 = cX5_someAt := rfl
theorem xmok31 : xMok 31 := ⟨xk645, by decide +kernel, ⟨by decide +kernel, by decide +kernel, by decide +kernel⟩, rfl, by decide⟩
theorem xbt32 : xby 32 = cX5_cellsUpTo := rfl
theorem xmok32 : xMok 32 := ⟨xk653, by decide +kernel, ⟨by decide +kernel, by decide +kernel, by decide +kernel⟩, rfl, by decide⟩
theorem xbt33 : xby 33 = cX5_firstAt := rfl
theorem xmok33 : xMok 33 := ⟨xk548, by decide +kernel, ⟨by decide +kernel, by decide +kernel, by decide +kernel⟩, rfl, by decide⟩
theorem xbt34 : xby 34 = cX5_hangs := rfl
theorem xmok34 : xMok 34 := ⟨xk561, by decide +kernel, ⟨by decide +kernel, by decide +kernel, by decide +kernel⟩, rfl, by decide⟩
theorem xbt35 : xby 35 = cX5_comesInFlood := rfl
theorem xmok35 : xMok 35 := ⟨xk669, by decide +kernel, ⟨by decide +kernel, by decide +kernel, by decide +kernel⟩, rfl, by decide⟩
theorem xbt36 : xby 36 = cX5_twosAt := rfl
theorem xmok36 : xMok 36 := ⟨xk692, by decide +kernel, ⟨by decide +kernel, by decide +kernel, by decide +kernel⟩, rfl, by decide⟩
theorem xbt37 : xby 37 = cX1_add := rfl
theorem xmok37 : xMok 37 := ⟨xk617, by decide +kernel, ⟨by decide +kernel, by decide +kernel, by decide +kernel⟩, rfl, by decide⟩
theorem xbt38 : xby 38 = cX1_fit := rfl
theorem xmok38 : xMok 38 := ⟨xk629, by decide +kernel, ⟨by decide +kernel, by decide +kernel, by decide +kernel⟩, rfl, by decide⟩
theorem xbt39 : xby 39 = cX1_fitNow := rfl
theorem xmok39 : xMok 39 := ⟨xk641, by decide +kernel, ⟨by decide +kernel, by decide +kernel, by decide +kernel⟩, rfl, by decide⟩
theorem xbt40 : xby 40 = cX1_lastStep := rfl
theorem xmok40 : xMok 40 := ⟨xk633, by decide +kernel, ⟨by decide +kernel, by decide +kernel, by decide +kernel⟩, rfl, by decide⟩
theorem xbt41 : xby 41 = cX4_ride := rfl
theorem xmok41 : xMok 41 := ⟨xk569, by decide +kernel, ⟨by decide +kernel, by decide +kernel, by decide +kernel⟩, rfl, by decide⟩
theorem xbt42 : xby 42 = cX4_change := rfl
theorem xmok42 : xMok 42 := ⟨xk576, by decide +kernel, ⟨by decide +kernel, by decide +kernel, by decide +kernel⟩, rfl, by decide⟩
theorem xbt43 : xby 43 = cX4_getOn := rfl
theorem xmok43 : xMok 43 := ⟨xk588, by decide +kernel, ⟨by decide +kernel, by decide +kernel, by decide +kernel⟩, rfl, by decide⟩
theorem xbt44 : xby 44 = cX4_getOff := rfl
theorem xmok44 : xMok 44 := ⟨xk580, by decide +kernel, ⟨by decide +kernel, by decide +kernel, by decide +kernel⟩, rfl, by decide⟩
theorem xbt45 : xby 45 = cX8_write := rfl
theorem xmok45 : xMok 45 := ⟨xk432, by decide +kernel, ⟨by decide +kernel, by decide +kernel, by decide +kernel⟩, rfl, by decide⟩
theorem xbt46 : xby 46 = cX8_wipe := rfl
theorem xmok46 : xMok 46 := ⟨xk437, by decide +kernel, ⟨by decide +kernel, by decide +kernel, by decide +kernel⟩, rfl, by decide⟩
theorem xbt47 : xby 47 = cX8_fault := rfl
theorem xmok47 : xMok 47 := ⟨xk441, by decide +kernel, ⟨by decide +kernel, by decide +kernel, by decide +kernel⟩, rfl, by decide⟩
theorem xbt48 : xby 48 = cX8_lay := rfl
theorem xmok48 : xMok 48 := ⟨xk445, by decide +kernel, ⟨by decide +kernel, by decide +kernel, by decide +kernel⟩, rfl, by decide⟩
theorem xbt49 : xby 49 = cX8_platform := rfl
theorem xmok49 : xMok 49 := ⟨xk449, by decide +kernel, ⟨by decide +kernel, by decide +kernel, by decide +kernel⟩, rfl, by decide⟩
theorem xbt50 : xby 50 = cX8_train := rfl
theorem xmok50 : xMok 50 := ⟨xk458, by decide +kernel, ⟨by decide +kernel, by decide +kernel, by decide +kernel⟩, rfl, by decide⟩
theorem xbt51 : xby 51 = cX8_cell := rfl
theorem xmok51 : xMok 51 := ⟨xk466, by decide +kernel, ⟨by decide +kernel, by decide +kernel, by decide +kernel⟩, rfl, by decide⟩
theorem xbt52 : xby 52 = cX8_start := rfl
theorem xmok52 : xMok 52 := ⟨xk474, by decide +kernel, ⟨by decide +kernel, by decide +kernel, by decide +kernel⟩, rfl, by decide⟩
theorem xbt53 : xby 53 = cX8_hold := rfl
theorem xmok53 : xMok 53 := ⟨xk486, by decide +kernel, ⟨by decide +kernel, by decide +kernel, by decide +kernel⟩, rfl, by decide⟩
theorem xbt54 : xby 54 = cX8_pass := rfl
theorem xmok54 : xMok 54 := ⟨xk490, by decide +kernel, ⟨by decide +kernel, by decide +kernel, by decide +kernel⟩, rfl, by decide⟩
theorem xbt55 : xby 55 = cX8_undo := rfl
theorem xmok55 : xMok 55 := ⟨xk495, by decide +kernel, ⟨by decide +kernel, by decide +kernel, by decide +kernel⟩, rfl, by decide⟩
theorem xbt56 : xby 56 = cX8_where := rfl
theorem xmok56 : xMok 56 := ⟨xk503, by decide +kernel, ⟨by decide +kernel, by decide +kernel, by decide +kernel⟩, rfl, by decide⟩
theorem xbt57 : xby 57 = cX8_first := rfl
theorem xmok57 : xMok 57 := ⟨xk544, by decide +kernel, ⟨by decide +kernel, by decide +kernel, by decide +kernel⟩, rfl, by decide⟩
theorem xbt58 : xby 58 = cX8_hang := rfl
theorem xmok58 : xMok 58 := ⟨xk557, by decide +kernel, ⟨by decide +kernel, by decide +kernel, by decide +kernel⟩, rfl, by decide⟩
theorem xbt59 : xby 59 = cX8_trip := rfl
theorem xmok59 : xMok 59 := ⟨xk565, by decide +kernel, ⟨by decide +kernel, by decide +kernel, by decide +kernel⟩, rfl, by decide⟩
theorem xbt60 : xby 60 = cX8_best := rfl
theorem xmok60 : xMok 60 := ⟨xk592, by decide +kernel, ⟨by decide +kernel, by decide +kernel, by decide +kernel⟩, rfl, by decide⟩
theorem xbt61 : xby 61 = cX8_places := rfl
theorem xmok61 : xMok 61 := ⟨xk596, by decide +kernel, ⟨by decide +kernel, by decide +kernel, by decide +kernel⟩, rfl, by decide⟩
theorem xbt62 : xby 62 = cX8_came := rfl
theorem xmok62 : xMok 62 := ⟨xk613, by decide +kernel, ⟨by decide +kernel, by decide +kernel, by decide +kernel⟩, rfl, by decide⟩
theorem xbt63 : xby 63 = cX8_forget := rfl
theorem xmok63 : xMok 63 := ⟨xk621, by decide +kernel, ⟨by decide +kernel, by decide +kernel, by decide +kernel⟩, rfl, by decide⟩
theorem xbt64 : xby 64 = cX8_fits := rfl
theorem xmok64 : xMok 64 := ⟨xk625, by decide +kernel, ⟨by decide +kernel, by decide +kernel, by decide +kernel⟩, rfl, by decide⟩
theorem xbt65 : xby 65 = cX8_from := rfl
theorem xmok65 : xMok 65 := ⟨xk649, by decide +kernel, ⟨by decide +kernel, by decide +kernel, by decide +kernel⟩, rfl, by decide⟩
theorem xbt66 : xby 66 = cX8_clocks := rfl
theorem xmok66 : xMok 66 := ⟨xk661, by decide +kernel, ⟨by decide +kernel, by decide +kernel, by decide +kernel⟩, rfl, by decide⟩
theorem xbt67 : xby 67 = cX8_floods := rfl
theorem xmok67 : xMok 67 := ⟨xk665, by decide +kernel, ⟨by decide +kernel, by decide +kernel, by decide +kernel⟩, rfl, by decide⟩
theorem xbt68 : xby 68 = cX8_day := rfl
theorem xmok68 : xMok 68 := ⟨xk680, by decide +kernel, ⟨by decide +kernel, by decide +kernel, by decide +kernel⟩, rfl, by decide⟩
theorem xbt69 : xby 69 = cX8_keep := rfl
theorem xmok69 : xMok 69 := ⟨xk697, by decide +kernel, ⟨by decide +kernel, by decide +kernel, by decide +kernel⟩, rfl, by decide⟩
theorem xbt70 : xby 70 = cX8_back := rfl
theorem xmok70 : xMok 70 := ⟨xk706, by decide +kernel, ⟨by decide +kernel, by decide +kernel, by decide +kernel⟩, rfl, by decide⟩
theorem xbt71 : xby 71 = cX8_count := rfl
theorem xmok71 : xMok 71 := ⟨xk714, by decide +kernel, ⟨by decide +kernel, by decide +kernel, by decide +kernel⟩, rfl, by decide⟩
theorem xbt72 : xby 72 = cX8_isEither := rfl
theorem xmok72 : xMok 72 := ⟨xk470, by decide +kernel, ⟨by decide +kernel, by decide +kernel, by decide +kernel⟩, rfl, by decide⟩
theorem xbt73 : xby 73 = cX8_bit := rfl
theorem xmok73 : xMok 73 := ⟨xk394, by decide +kernel, ⟨by decide +kernel, by decide +kernel, by decide +kernel⟩, rfl, by decide⟩
theorem xbt74 : xby 74 = cX8_fewestPlaces := rfl
theorem xmok74 : xMok 74 := ⟨xk600, by decide +kernel, ⟨by decide +kernel, by decide +kernel, by decide +kernel⟩, rfl, by decide⟩
theorem xbt75 : xby 75 = cX8_kthOf := rfl
theorem xmok75 : xMok 75 := ⟨xk609, by decide +kernel, ⟨by decide +kernel, by decide +kernel, by decide +kernel⟩, rfl, by decide⟩
theorem xbt76 : xby 76 = cX8_floodWeight := rfl
theorem xmok76 : xMok 76 := ⟨xk673, by decide +kernel, ⟨by decide +kernel, by decide +kernel, by decide +kernel⟩, rfl, by decide⟩
theorem xbt77 : xby 77 = cX8_commonDivisor := rfl
theorem xmok77 : xMok 77 := ⟨xk676, by decide +kernel, ⟨by decide +kernel, by decide +kernel, by decide +kernel⟩, rfl, by decide⟩
theorem xbt78 : xby 78 = cX8_drawnStart := rfl
theorem xmok78 : xMok 78 := ⟨xk683, by decide +kernel, ⟨by decide +kernel, by decide +kernel, by decide +kernel⟩, rfl, by decide⟩
theorem xbt79 : xby 79 = cX9_in := rfl
theorem xmok79 : xMok 79 := ⟨xk822, by decide +kernel, ⟨by decide +kernel, by decide +kernel, by decide +kernel⟩, rfl, by decide⟩
theorem xbt80 : xby 80 = cX9_isTrain := rfl
theorem xmok80 : xMok 80 := ⟨xk873, by decide +kernel, ⟨by decide +kernel, by decide +kernel, by decide +kernel⟩, rfl, by decide⟩
theorem xbt81 : xby 81 = cX9_isPlatform := rfl
theorem xmok81 : xMok 81 := ⟨xk865, by decide +kernel, ⟨by decide +kernel, by decide +kernel, by decide +kernel⟩, rfl, by decide⟩
theorem xbt82 : xby 82 = cX9_isCell := rfl
theorem xmok82 : xMok 82 := ⟨xk881, by decide +kernel, ⟨by decide +kernel, by decide +kernel, by decide +kernel⟩, rfl, by decide⟩
theorem xbt83 : xby 83 = cX9_ones := rfl
theorem xmok83 : xMok 83 := ⟨xk964, by decide +kernel, ⟨by decide +kernel, by decide +kernel, by decide +kernel⟩, rfl, by decide⟩
theorem xbt84 : xby 84 = cX9_write := rfl
theorem xmok84 : xMok 84 := ⟨xk819, by decide +kernel, ⟨by decide +kernel, by decide +kernel, by decide +kernel⟩, rfl, by decide⟩
theorem xbt85 : xby 85 = cX9_wipe := rfl
theorem xmok85 : xMok 85 := ⟨xk826, by decide +kernel, ⟨by decide +kernel, by decide +kernel, by decide +kernel⟩, rfl, by decide⟩
theorem xbt86 : xby 86 = cX9_letterAt := rfl
theorem xmok86 : xMok 86 := ⟨xk846, by decide +kernel, ⟨by decide +kernel, by decide +kernel, by decide +kernel⟩, rfl, by decide⟩
theorem xbt87 : xby 87 = cX9_isFigure := rfl
theorem xmok87 : xMok 87 := ⟨xk849, by decide +kernel, ⟨by decide +kernel, by decide +kernel, by decide +kernel⟩, rfl, by decide⟩
theorem xbt88 : xby 88 = cX9_number := rfl
theorem xmok88 : xMok 88 := ⟨xk842, by decide +kernel, ⟨by decide +kernel, by decide +kernel, by decide +kernel⟩, rfl, by decide⟩
theorem xbt89 : xby 89 = cX9_begins := rfl
theorem xmok89 : xMok 89 := ⟨xk724, by decide +kernel, ⟨by decide +kernel, by decide +kernel, by decide +kernel⟩, rfl, by decide⟩
theorem xbt90 : xby 90 = cX9_trainOf := rfl
theorem xmok90 : xMok 90 := ⟨xk728, by decide +kernel, ⟨by decide +kernel, by decide +kernel, by decide +kernel⟩, rfl, by decide⟩
theorem xbt91 : xby 91 = cX9_platformOf := rfl
theorem xmok91 : xMok 91 := ⟨xk732, by decide +kernel, ⟨by decide +kernel, by decide +kernel, by decide +kernel⟩, rfl, by decide⟩
theorem xbt92 : xby 92 = cX9_readsPlatform := rfl
theorem xmok92 : xMok 92 := ⟨xk853, by decide +kernel, ⟨by decide +kernel, by decide +kernel, by decide +kernel⟩, rfl, by decide⟩
theorem xbt93 : xby 93 = cX9_readsItem := rfl
theorem xmok93 : xMok 93 := ⟨xk838, by decide +kernel, ⟨by decide +kernel, by decide +kernel, by decide +kernel⟩, rfl, by decide⟩
theorem xbt94 : xby 94 = cX9_readsAll := rfl
theorem xmok94 : xMok 94 := ⟨xk834, by decide +kernel, ⟨by decide +kernel, by decide +kernel, by decide +kernel⟩, rfl, by decide⟩
theorem xbt95 : xby 95 = cX9_fault := rfl
theorem xmok95 : xMok 95 := ⟨xk830, by decide +kernel, ⟨by decide +kernel, by decide +kernel, by decide +kernel⟩, rfl, by decide⟩
theorem xbt96 : xby 96 = cX9_lays := rfl
theorem xmok96 : xMok 96 := ⟨xk736, by decide +kernel, ⟨by decide +kernel, by decide +kernel, by decide +kernel⟩, rfl, by decide⟩
theorem xbt97 : xby 97 = cX9_lay := rfl
theorem xmok97 : xMok 97 := ⟨xk857, by decide +kernel, ⟨by decide +kernel, by decide +kernel, by decide +kernel⟩, rfl, by decide⟩
theorem xbt98 : xby 98 = cX9_platform := rfl
theorem xmok98 : xMok 98 := ⟨xk861, by decide +kernel, ⟨by decide +kernel, by decide +kernel, by decide +kernel⟩, rfl, by decide⟩
theorem xbt99 : xby 99 = cX9_train := rfl
theorem xmok99 : xMok 99 := ⟨xk869, by decide +kernel, ⟨by decide +kernel, by decide +kernel, by decide +kernel⟩, rfl, by decide⟩
theorem xbt100 : xby 100 = cX9_cell := rfl
theorem xmok100 : xMok 100 := ⟨xk877, by decide +kernel, ⟨by decide +kernel, by decide +kernel, by decide +kernel⟩, rfl, by decide⟩
theorem xbt101 : xby 101 = cX9_keeps := rfl
theorem xmok101 : xMok 101 := ⟨xk889, by decide +kernel, ⟨by decide +kernel, by decide +kernel, by decide +kernel⟩, rfl, by decide⟩
theorem xbt102 : xby 102 = cX9_start := rfl
theorem xmok102 : xMok 102 := ⟨xk885, by decide +kernel, ⟨by decide +kernel, by decide +kernel, by decide +kernel⟩, rfl, by decide⟩
theorem xbt103 : xby 103 = cX9_hold := rfl
theorem xmok103 : xMok 103 := ⟨xk893, by decide +kernel, ⟨by decide +kernel, by decide +kernel, by decide +kernel⟩, rfl, by decide⟩
theorem xbt104 : xby 104 = cX9_pass := rfl
theorem xmok104 : xMok 104 := ⟨xk897, by decide +kernel, ⟨by decide +kernel, by decide +kernel, by decide +kernel⟩, rfl, by decide⟩
theorem xbt105 : xby 105 = cX9_undo := rfl
theorem xmok105 : xMok 105 := ⟨xk901, by decide +kernel, ⟨by decide +kernel, by decide +kernel, by decide +kernel⟩, rfl, by decide⟩
theorem xbt106 : xby 106 = cX9_isTrainAt := rfl
theorem xmok106 : xMok 106 := ⟨xk929, by decide +kernel, ⟨by decide +kernel, by decide +kernel, by decide +kernel⟩, rfl, by decide⟩
theorem xbt107 : xby 107 = cX9_others := rfl
theorem xmok107 : xMok 107 := ⟨xk925, by decide +kernel, ⟨by decide +kernel, by decide +kernel, by decide +kernel⟩, rfl, by decide⟩
theorem xbt108 : xby 108 = cX9_isHeld := rfl
theorem xmok108 : xMok 108 := ⟨xk917, by decide +kernel, ⟨by decide +kernel, by decide +kernel, by decide +kernel⟩, rfl, by decide⟩
theorem xbt109 : xby 109 = cX9_moves := rfl
theorem xmok109 : xMok 109 := ⟨xk921, by decide +kernel, ⟨by decide +kernel, by decide +kernel, by decide +kernel⟩, rfl, by decide⟩
theorem xbt110 : xby 110 = cX9_goes := rfl
theorem xmok110 : xMok 110 := ⟨xk913, by decide +kernel, ⟨by decide +kernel, by decide +kernel, by decide +kernel⟩, rfl, by decide⟩
theorem xbt111 : xby 111 = cX9_ends := rfl
theorem xmok111 : xMok 111 := ⟨xk933, by decide +kernel, ⟨by decide +kernel, by decide +kernel, by decide +kernel⟩, rfl, by decide⟩
theorem xbt112 : xby 112 = cX9_runs := rfl
theorem xmok112 : xMok 112 := ⟨xk909, by decide +kernel, ⟨by decide +kernel, by decide +kernel, by decide +kernel⟩, rfl, by decide⟩
theorem xbt113 : xby 113 = cX9_where := rfl
theorem xmok113 : xMok 113 := ⟨xk905, by decide +kernel, ⟨by decide +kernel, by decide +kernel, by decide +kernel⟩, rfl, by decide⟩
theorem xbt114 : xby 114 = cX9_isAt := rfl
theorem xmok114 : xMok 114 := ⟨xk945, by decide +kernel, ⟨by decide +kernel, by decide +kernel, by decide +kernel⟩, rfl, by decide⟩
theorem xbt115 : xby 115 = cX9_firstAt := rfl
theorem xmok115 : xMok 115 := ⟨xk941, by decide +kernel, ⟨by decide +kernel, by decide +kernel, by decide +kernel⟩, rfl, by decide⟩
theorem xbt116 : xby 116 = cX9_first := rfl
theorem xmok116 : xMok 116 := ⟨xk937, by decide +kernel, ⟨by decide +kernel, by decide +kernel, by decide +kernel⟩, rfl, by decide⟩
theorem xbt117 : xby 117 = cX9_hang := rfl
theorem xmok117 : xMok 117 := ⟨xk949, by decide +kernel, ⟨by decide +kernel, by decide +kernel, by decide +kernel⟩, rfl, by decide⟩
theorem xbt118 : xby 118 = cX9_trip := rfl
theorem xmok118 : xMok 118 := ⟨xk953, by decide +kernel, ⟨by decide +kernel, by decide +kernel, by decide +kernel⟩, rfl, by decide⟩
theorem xbt119 : xby 119 = cX9_best := rfl
theorem xmok119 : xMok 119 := ⟨xk957, by decide +kernel, ⟨by decide +kernel, by decide +kernel, by decide +kernel⟩, rfl, by decide⟩
theorem xbt120 : xby 120 = cX9_places := rfl
theorem xmok120 : xMok 120 := ⟨xk961, by decide +kernel, ⟨by decide +kernel, by decide +kernel, by decide +kernel⟩, rfl, by decide⟩
theorem xbt121 : xby 121 = cX9_came := rfl
theorem xmok121 : xMok 121 := ⟨xk968, by decide +kernel, ⟨by decide +kernel, by decide +kernel, by decide +kernel⟩, rfl, by decide⟩
theorem xbt122 : xby 122 = cX9_forget := rfl
theorem xmok122 : xMok 122 := ⟨xk972, by decide +kernel, ⟨by decide +kernel, by decide +kernel, by decide +kernel⟩, rfl, by decide⟩
theorem xbt123 : xby 123 = cX9_fits := rfl
theorem xmok123 : xMok 123 := ⟨xk976, by decide +kernel, ⟨by decide +kernel, by decide +kernel, by decide +kernel⟩, rfl, by decide⟩
theorem xbt124 : xby 124 = cX9_up := rfl
theorem xmok124 : xMok 124 := ⟨xk984, by decide +kernel, ⟨by decide +kernel, by decide +kernel, by decide +kernel⟩, rfl, by decide⟩
theorem xbt125 : xby 125 = cX9_from := rfl
theorem xmok125 : xMok 125 := ⟨xk980, by decide +kernel, ⟨by decide +kernel, by decide +kernel, by decide +kernel⟩, rfl, by decide⟩
theorem xbt126 : xby 126 = cX9_clocks := rfl
theorem xmok126 : xMok 126 := ⟨xk988, by decide +kernel, ⟨by decide +kernel, by decide +kernel, by decide +kernel⟩, rfl, by decide⟩
theorem xbt127 : xby 127 = cX9_floods := rfl
theorem xmok127 : xMok 127 := ⟨xk992, by decide +kernel, ⟨by decide +kernel, by decide +kernel, by decide +kernel⟩, rfl, by decide⟩
theorem xbt128 : xby 128 = cX9_day := rfl
theorem xmok128 : xMok 128 := ⟨xk996, by decide +kernel, ⟨by decide +kernel, by decide +kernel, by decide +kernel⟩, rfl, by decide⟩
theorem xbt129 : xby 129 = cX9_keep := rfl
theorem xmok129 : xMok 129 := ⟨xk1003, by decide +kernel, ⟨by decide +kernel, by decide +kernel, by decide +kernel⟩, rfl, by decide⟩
theorem xbt130 : xby 130 = cX9_back := rfl
theorem xmok130 : xMok 130 := ⟨xk1007, by decide +kernel, ⟨by decide +kernel, by decide +kernel, by decide +kernel⟩, rfl, by decide⟩
theorem xbt131 : xby 131 = cX9_count := rfl
theorem xmok131 : xMok 131 := ⟨xk1011, by decide +kernel, ⟨by decide +kernel, by decide +kernel, by decide +kernel⟩, rfl, by decide⟩
theorem xbt132 : xby 132 = code := rfl
theorem xbt133 : xby 133 = cX8_init := rfl
theorem xmok133 : xMok 133 := ⟨xk57, by decide +kernel, ⟨by decide +kernel, by decide +kernel, by decide +kernel⟩, rfl, by decide⟩
theorem xbt134 : xby 134 = cX9_init := rfl
theorem xmok134 : xMok 134 := ⟨xk719, by decide +kernel, ⟨by decide +kernel, by decide +kernel, by decide +kernel⟩, rfl, by decide⟩
theorem xget_ok {y : Nat} {l : List (Nat × xI)} (h : ∀ q ∈ l, xOk y q.1 q.2) (pc : Nat) : xOk y pc (xget l pc) := by
  induction l with
  | nil => exact Or.inl (fun ls st M res h => by cases h)
  | cons q l ih =>
    unfold xget
    cases hq : Nat.beq q.1 pc with
    | true =>
      have := h q List.mem_cons_self
      rw [Nat.eq_of_beq_eq_true hq] at this
      exact this
    | false => exact ih (fun q hq => h q (List.mem_cons_of_mem _ hq))
theorem xok_cons {y pc : Nat} {I : xI} {l : List (Nat × xI)} (h : xOk y pc I) (hl : ∀ q ∈ l, xOk y q.1 q.2) : ∀ q ∈ (pc, I) :: l, xOk y q.1 q.2 := fun q hq => (List.mem_cons.mp hq).elim (fun e => e ▸ h) (hl q)
theorem xok_nil {y : Nat} : ∀ q ∈ ([] : List (Nat × xI)), xOk y q.1 q.2 := fun _ h => by cases h
theorem xok_app {y : Nat} {l l' : List (Nat × xI)} (h : ∀ q ∈ l, xOk y q.1 q.2) (h' : ∀ q ∈ l', xOk y q.1 q.2) : ∀ q ∈ l ++ l', xOk y q.1 q.2 := fun q hq => (List.mem_append.mp hq).elim (h q) (h' q)
