theorem xw_lG_0 : ((Cond.laysFinal "TrainGuard" "TrainGuard" "length" "I") : Cond) ∈ x_W := x_inW (i := 326) (by decide +kernel) (by decide +kernel)
theorem xw_lG_1 : ((Cond.laysFinal "TrainGuard" "TrainGuard" "front" "LTrainGuard$Front;") : Cond) ∈ x_W := x_inW (i := 328) (by decide +kernel) (by decide +kernel)
theorem xw_lG_2 : ((Cond.laysFinal "TrainGuard" "TrainGuard" "track" "LTrainGuard$Track;") : Cond) ∈ x_W := x_inW (i := 330) (by decide +kernel) (by decide +kernel)
theorem xw_lG_3 : ((Cond.laysFinal "TrainGuard" "TrainGuard" "bitRow" "LTrainGuard$BitRow;") : Cond) ∈ x_W := x_inW (i := 332) (by decide +kernel) (by decide +kernel)
theorem xw_lG_4 : ((Cond.laysFinal "TrainGuard" "TrainGuard" "received" "LTrainGuard$Message;") : Cond) ∈ x_W := x_inW (i := 334) (by decide +kernel) (by decide +kernel)
theorem xw_lG_5 : ((Cond.laysFinal "TrainGuard" "TrainGuard" "curves" "LTrainGuard$Curves;") : Cond) ∈ x_W := x_inW (i := 336) (by decide +kernel) (by decide +kernel)
theorem xw_lG_6 : ((Cond.laysFinal "TrainGuard" "TrainGuard" "brakes" "LTrainGuard$Brakes;") : Cond) ∈ x_W := x_inW (i := 338) (by decide +kernel) (by decide +kernel)
theorem xw_lG_7 : ((Cond.laysFinal "TrainGuard" "TrainGuard" "notes" "LTrainGuard$Notes;") : Cond) ∈ x_W := x_inW (i := 340) (by decide +kernel) (by decide +kernel)
theorem xw_lG_8 : ((Cond.lays "TrainGuard" "TrainGuard" "modeNow" "I") : Cond) ∈ x_W := x_inW (i := 342) (by decide +kernel) (by decide +kernel)
theorem xw_lG_9 : ((Cond.lays "TrainGuard" "TrainGuard" "staffEnd" "I") : Cond) ∈ x_W := x_inW (i := 344) (by decide +kernel) (by decide +kernel)
theorem xw_lG_10 : ((Cond.lays "TrainGuard" "TrainGuard" "cycles" "I") : Cond) ∈ x_W := x_inW (i := 346) (by decide +kernel) (by decide +kernel)
theorem xw_lG_11 : ((Cond.lays "TrainGuard" "TrainGuard" "latestTime" "I") : Cond) ∈ x_W := x_inW (i := 348) (by decide +kernel) (by decide +kernel)
theorem xw_lG_12 : ((Cond.lays "TrainGuard" "TrainGuard" "asked" "Z") : Cond) ∈ x_W := x_inW (i := 350) (by decide +kernel) (by decide +kernel)
theorem xw_lG_13 : ((Cond.lays "TrainGuard" "TrainGuard" "askedCycles" "I") : Cond) ∈ x_W := x_inW (i := 352) (by decide +kernel) (by decide +kernel)
theorem xw_lFrt_0 : ((Cond.lays "TrainGuard$Front" "TrainGuard$Front" "low" "I") : Cond) ∈ x_W := x_inW (i := 34) (by decide +kernel) (by decide +kernel)
theorem xw_lFrt_1 : ((Cond.lays "TrainGuard$Front" "TrainGuard$Front" "high" "I") : Cond) ∈ x_W := x_inW (i := 36) (by decide +kernel) (by decide +kernel)
theorem xw_lFrt_2 : ((Cond.lays "TrainGuard$Front" "TrainGuard$Front" "top" "I") : Cond) ∈ x_W := x_inW (i := 38) (by decide +kernel) (by decide +kernel)
theorem xw_lTrk_0 : ((Cond.laysFinal "TrainGuard$Track" "TrainGuard$Track" "profile" "LTrainGuard$SpanRow;") : Cond) ∈ x_W := x_inW (i := 127) (by decide +kernel) (by decide +kernel)
theorem xw_lTrk_1 : ((Cond.laysFinal "TrainGuard$Track" "TrainGuard$Track" "grades" "LTrainGuard$SpanRow;") : Cond) ∈ x_W := x_inW (i := 129) (by decide +kernel) (by decide +kernel)
theorem xw_lTrk_2 : ((Cond.laysFinal "TrainGuard$Track" "TrainGuard$Track" "restrictions" "LTrainGuard$Restrictions;") : Cond) ∈ x_W := x_inW (i := 131) (by decide +kernel) (by decide +kernel)
theorem xw_lTrk_3 : ((Cond.laysFinal "TrainGuard$Track" "TrainGuard$Track" "marks" "LTrainGuard$MarkRow;") : Cond) ∈ x_W := x_inW (i := 133) (by decide +kernel) (by decide +kernel)
theorem xw_lTrk_4 : ((Cond.lays "TrainGuard$Track" "TrainGuard$Track" "hasAuthority" "Z") : Cond) ∈ x_W := x_inW (i := 135) (by decide +kernel) (by decide +kernel)
theorem xw_lTrk_5 : ((Cond.lays "TrainGuard$Track" "TrainGuard$Track" "end" "I") : Cond) ∈ x_W := x_inW (i := 137) (by decide +kernel) (by decide +kernel)
theorem xw_lTrk_6 : ((Cond.lays "TrainGuard$Track" "TrainGuard$Track" "overlap" "I") : Cond) ∈ x_W := x_inW (i := 139) (by decide +kernel) (by decide +kernel)
theorem xw_lTrk_7 : ((Cond.lays "TrainGuard$Track" "TrainGuard$Track" "endMode" "I") : Cond) ∈ x_W := x_inW (i := 141) (by decide +kernel) (by decide +kernel)
theorem xw_lSpn_0 : ((Cond.laysFinal "TrainGuard$SpanRow" "TrainGuard$SpanRow" "firsts" "[I") : Cond) ∈ x_W := x_inW (i := 61) (by decide +kernel) (by decide +kernel)
theorem xw_lSpn_1 : ((Cond.laysFinal "TrainGuard$SpanRow" "TrainGuard$SpanRow" "lasts" "[I") : Cond) ∈ x_W := x_inW (i := 63) (by decide +kernel) (by decide +kernel)
theorem xw_lSpn_2 : ((Cond.laysFinal "TrainGuard$SpanRow" "TrainGuard$SpanRow" "values" "[I") : Cond) ∈ x_W := x_inW (i := 65) (by decide +kernel) (by decide +kernel)
theorem xw_lSpn_3 : ((Cond.lays "TrainGuard$SpanRow" "TrainGuard$SpanRow" "count" "I") : Cond) ∈ x_W := x_inW (i := 67) (by decide +kernel) (by decide +kernel)
theorem xw_lRes_0 : ((Cond.laysFinal "TrainGuard$Restrictions" "TrainGuard$Restrictions" "numbers" "[I") : Cond) ∈ x_W := x_inW (i := 83) (by decide +kernel) (by decide +kernel)
theorem xw_lRes_1 : ((Cond.laysFinal "TrainGuard$Restrictions" "TrainGuard$Restrictions" "spans" "LTrainGuard$SpanRow;") : Cond) ∈ x_W := x_inW (i := 85) (by decide +kernel) (by decide +kernel)
theorem xw_lMrk_0 : ((Cond.laysFinal "TrainGuard$MarkRow" "TrainGuard$MarkRow" "places" "[I") : Cond) ∈ x_W := x_inW (i := 99) (by decide +kernel) (by decide +kernel)
theorem xw_lMrk_1 : ((Cond.laysFinal "TrainGuard$MarkRow" "TrainGuard$MarkRow" "numbers" "[I") : Cond) ∈ x_W := x_inW (i := 101) (by decide +kernel) (by decide +kernel)
theorem xw_lMrk_2 : ((Cond.laysFinal "TrainGuard$MarkRow" "TrainGuard$MarkRow" "accuracies" "[I") : Cond) ∈ x_W := x_inW (i := 103) (by decide +kernel) (by decide +kernel)
theorem xw_lMrk_3 : ((Cond.laysFinal "TrainGuard$MarkRow" "TrainGuard$MarkRow" "passed" "[Z") : Cond) ∈ x_W := x_inW (i := 105) (by decide +kernel) (by decide +kernel)
theorem xw_lMrk_4 : ((Cond.lays "TrainGuard$MarkRow" "TrainGuard$MarkRow" "count" "I") : Cond) ∈ x_W := x_inW (i := 107) (by decide +kernel) (by decide +kernel)
theorem xw_lBit_0 : ((Cond.laysFinal "TrainGuard$BitRow" "TrainGuard$BitRow" "row" "[B") : Cond) ∈ x_W := x_inW (i := 157) (by decide +kernel) (by decide +kernel)
theorem xw_lBit_1 : ((Cond.lays "TrainGuard$BitRow" "TrainGuard$BitRow" "count" "I") : Cond) ∈ x_W := x_inW (i := 159) (by decide +kernel) (by decide +kernel)
theorem xw_lBit_2 : ((Cond.lays "TrainGuard$BitRow" "TrainGuard$BitRow" "position" "I") : Cond) ∈ x_W := x_inW (i := 161) (by decide +kernel) (by decide +kernel)
theorem xw_lBit_3 : ((Cond.lays "TrainGuard$BitRow" "TrainGuard$BitRow" "fault" "I") : Cond) ∈ x_W := x_inW (i := 163) (by decide +kernel) (by decide +kernel)
theorem xw_lMsg_0 : ((Cond.laysFinal "TrainGuard$Message" "TrainGuard$Message" "came" "[Z") : Cond) ∈ x_W := x_inW (i := 210) (by decide +kernel) (by decide +kernel)
theorem xw_lMsg_1 : ((Cond.laysFinal "TrainGuard$Message" "TrainGuard$Message" "marks" "LTrainGuard$MarkRow;") : Cond) ∈ x_W := x_inW (i := 212) (by decide +kernel) (by decide +kernel)
theorem xw_lMsg_2 : ((Cond.laysFinal "TrainGuard$Message" "TrainGuard$Message" "grades" "LTrainGuard$SpanRow;") : Cond) ∈ x_W := x_inW (i := 214) (by decide +kernel) (by decide +kernel)
theorem xw_lMsg_3 : ((Cond.laysFinal "TrainGuard$Message" "TrainGuard$Message" "profile" "LTrainGuard$SpanRow;") : Cond) ∈ x_W := x_inW (i := 216) (by decide +kernel) (by decide +kernel)
theorem xw_lMsg_4 : ((Cond.lays "TrainGuard$Message" "TrainGuard$Message" "kind" "I") : Cond) ∈ x_W := x_inW (i := 218) (by decide +kernel) (by decide +kernel)
theorem xw_lMsg_5 : ((Cond.lays "TrainGuard$Message" "TrainGuard$Message" "time" "I") : Cond) ∈ x_W := x_inW (i := 220) (by decide +kernel) (by decide +kernel)
theorem xw_lMsg_6 : ((Cond.lays "TrainGuard$Message" "TrainGuard$Message" "end" "I") : Cond) ∈ x_W := x_inW (i := 222) (by decide +kernel) (by decide +kernel)
theorem xw_lMsg_7 : ((Cond.lays "TrainGuard$Message" "TrainGuard$Message" "overlap" "I") : Cond) ∈ x_W := x_inW (i := 224) (by decide +kernel) (by decide +kernel)
theorem xw_lMsg_8 : ((Cond.lays "TrainGuard$Message" "TrainGuard$Message" "endMode" "I") : Cond) ∈ x_W := x_inW (i := 226) (by decide +kernel) (by decide +kernel)
theorem xw_lMsg_9 : ((Cond.lays "TrainGuard$Message" "TrainGuard$Message" "number" "I") : Cond) ∈ x_W := x_inW (i := 228) (by decide +kernel) (by decide +kernel)
theorem xw_lMsg_10 : ((Cond.lays "TrainGuard$Message" "TrainGuard$Message" "from" "I") : Cond) ∈ x_W := x_inW (i := 230) (by decide +kernel) (by decide +kernel)
theorem xw_lMsg_11 : ((Cond.lays "TrainGuard$Message" "TrainGuard$Message" "reach" "I") : Cond) ∈ x_W := x_inW (i := 232) (by decide +kernel) (by decide +kernel)
theorem xw_lMsg_12 : ((Cond.lays "TrainGuard$Message" "TrainGuard$Message" "speed" "I") : Cond) ∈ x_W := x_inW (i := 234) (by decide +kernel) (by decide +kernel)
theorem xw_lMsg_13 : ((Cond.lays "TrainGuard$Message" "TrainGuard$Message" "ended" "I") : Cond) ∈ x_W := x_inW (i := 236) (by decide +kernel) (by decide +kernel)
theorem xw_lCur_0 : ((Cond.laysFinal "TrainGuard$Curves" "TrainGuard$Curves" "emergency" "I") : Cond) ∈ x_W := x_inW (i := 295) (by decide +kernel) (by decide +kernel)
theorem xw_lCur_1 : ((Cond.laysFinal "TrainGuard$Curves" "TrainGuard$Curves" "service" "I") : Cond) ∈ x_W := x_inW (i := 297) (by decide +kernel) (by decide +kernel)
theorem xw_lCur_2 : ((Cond.laysFinal "TrainGuard$Curves" "TrainGuard$Curves" "places" "[I") : Cond) ∈ x_W := x_inW (i := 299) (by decide +kernel) (by decide +kernel)
theorem xw_lCur_3 : ((Cond.laysFinal "TrainGuard$Curves" "TrainGuard$Curves" "speeds" "[I") : Cond) ∈ x_W := x_inW (i := 301) (by decide +kernel) (by decide +kernel)
theorem xw_lCur_4 : ((Cond.laysFinal "TrainGuard$Curves" "TrainGuard$Curves" "falls" "[I") : Cond) ∈ x_W := x_inW (i := 303) (by decide +kernel) (by decide +kernel)
theorem xw_lCur_5 : ((Cond.lays "TrainGuard$Curves" "TrainGuard$Curves" "count" "I") : Cond) ∈ x_W := x_inW (i := 305) (by decide +kernel) (by decide +kernel)
theorem xw_lCur_6 : ((Cond.lays "TrainGuard$Curves" "TrainGuard$Curves" "ceiling" "I") : Cond) ∈ x_W := x_inW (i := 307) (by decide +kernel) (by decide +kernel)
theorem xw_lCur_7 : ((Cond.lays "TrainGuard$Curves" "TrainGuard$Curves" "high" "I") : Cond) ∈ x_W := x_inW (i := 309) (by decide +kernel) (by decide +kernel)
theorem xw_lBrk_0 : ((Cond.lays "TrainGuard$Brakes" "TrainGuard$Brakes" "emergency" "Z") : Cond) ∈ x_W := x_inW (i := 249) (by decide +kernel) (by decide +kernel)
theorem xw_lBrk_1 : ((Cond.lays "TrainGuard$Brakes" "TrainGuard$Brakes" "service" "Z") : Cond) ∈ x_W := x_inW (i := 251) (by decide +kernel) (by decide +kernel)
theorem xw_lBrk_2 : ((Cond.lays "TrainGuard$Brakes" "TrainGuard$Brakes" "command" "I") : Cond) ∈ x_W := x_inW (i := 253) (by decide +kernel) (by decide +kernel)
theorem xw_lNot_0 : ((Cond.laysFinal "TrainGuard$Notes" "TrainGuard$Notes" "row" "[I") : Cond) ∈ x_W := x_inW (i := 265) (by decide +kernel) (by decide +kernel)
theorem xw_lNot_1 : ((Cond.lays "TrainGuard$Notes" "TrainGuard$Notes" "count" "I") : Cond) ∈ x_W := x_inW (i := 267) (by decide +kernel) (by decide +kernel)
theorem xw_lNot_2 : ((Cond.lays "TrainGuard$Notes" "TrainGuard$Notes" "next" "I") : Cond) ∈ x_W := x_inW (i := 269) (by decide +kernel) (by decide +kernel)
theorem xw_lMod_0 : ((Cond.laysFinal "TrainGuardModel" "TrainGuardModel" "emergency" "I") : Cond) ∈ x_W := x_inW (i := 771) (by decide +kernel) (by decide +kernel)
theorem xw_lMod_1 : ((Cond.laysFinal "TrainGuardModel" "TrainGuardModel" "service" "I") : Cond) ∈ x_W := x_inW (i := 773) (by decide +kernel) (by decide +kernel)
theorem xw_lMod_2 : ((Cond.laysFinal "TrainGuardModel" "TrainGuardModel" "length" "I") : Cond) ∈ x_W := x_inW (i := 775) (by decide +kernel) (by decide +kernel)
theorem xw_lMod_3 : ((Cond.lays "TrainGuardModel" "TrainGuardModel" "low" "I") : Cond) ∈ x_W := x_inW (i := 777) (by decide +kernel) (by decide +kernel)
theorem xw_lMod_4 : ((Cond.lays "TrainGuardModel" "TrainGuardModel" "high" "I") : Cond) ∈ x_W := x_inW (i := 779) (by decide +kernel) (by decide +kernel)
theorem xw_lMod_5 : ((Cond.lays "TrainGuardModel" "TrainGuardModel" "top" "I") : Cond) ∈ x_W := x_inW (i := 781) (by decide +kernel) (by decide +kernel)
theorem xw_lMod_6 : ((Cond.lays "TrainGuardModel" "TrainGuardModel" "mode" "I") : Cond) ∈ x_W := x_inW (i := 783) (by decide +kernel) (by decide +kernel)
theorem xw_lMod_7 : ((Cond.lays "TrainGuardModel" "TrainGuardModel" "cycles" "I") : Cond) ∈ x_W := x_inW (i := 785) (by decide +kernel) (by decide +kernel)
theorem xw_lMod_8 : ((Cond.lays "TrainGuardModel" "TrainGuardModel" "authority" "Z") : Cond) ∈ x_W := x_inW (i := 787) (by decide +kernel) (by decide +kernel)
theorem xw_lMod_9 : ((Cond.lays "TrainGuardModel" "TrainGuardModel" "end" "I") : Cond) ∈ x_W := x_inW (i := 789) (by decide +kernel) (by decide +kernel)
theorem xw_lMod_10 : ((Cond.lays "TrainGuardModel" "TrainGuardModel" "overlap" "I") : Cond) ∈ x_W := x_inW (i := 791) (by decide +kernel) (by decide +kernel)
theorem xw_lMod_11 : ((Cond.lays "TrainGuardModel" "TrainGuardModel" "authorityMode" "I") : Cond) ∈ x_W := x_inW (i := 793) (by decide +kernel) (by decide +kernel)
theorem xw_lMod_12 : ((Cond.lays "TrainGuardModel" "TrainGuardModel" "staffEnd" "I") : Cond) ∈ x_W := x_inW (i := 795) (by decide +kernel) (by decide +kernel)
theorem xw_lMod_13 : ((Cond.lays "TrainGuardModel" "TrainGuardModel" "steps" "I") : Cond) ∈ x_W := x_inW (i := 797) (by decide +kernel) (by decide +kernel)
theorem xw_lMod_14 : ((Cond.laysFinal "TrainGuardModel" "TrainGuardModel" "stepPlace" "[I") : Cond) ∈ x_W := x_inW (i := 799) (by decide +kernel) (by decide +kernel)
theorem xw_lMod_15 : ((Cond.laysFinal "TrainGuardModel" "TrainGuardModel" "stepLimit" "[I") : Cond) ∈ x_W := x_inW (i := 801) (by decide +kernel) (by decide +kernel)
theorem xw_lMod_16 : ((Cond.lays "TrainGuardModel" "TrainGuardModel" "grades" "I") : Cond) ∈ x_W := x_inW (i := 803) (by decide +kernel) (by decide +kernel)
theorem xw_lMod_17 : ((Cond.laysFinal "TrainGuardModel" "TrainGuardModel" "gradePlace" "[I") : Cond) ∈ x_W := x_inW (i := 805) (by decide +kernel) (by decide +kernel)
theorem xw_lMod_18 : ((Cond.laysFinal "TrainGuardModel" "TrainGuardModel" "gradeFall" "[I") : Cond) ∈ x_W := x_inW (i := 807) (by decide +kernel) (by decide +kernel)
theorem xw_lMod_19 : ((Cond.lays "TrainGuardModel" "TrainGuardModel" "marked" "I") : Cond) ∈ x_W := x_inW (i := 809) (by decide +kernel) (by decide +kernel)
theorem xw_lMod_20 : ((Cond.laysFinal "TrainGuardModel" "TrainGuardModel" "markPlace" "[I") : Cond) ∈ x_W := x_inW (i := 811) (by decide +kernel) (by decide +kernel)
theorem xw_lMod_21 : ((Cond.laysFinal "TrainGuardModel" "TrainGuardModel" "markNumber" "[I") : Cond) ∈ x_W := x_inW (i := 813) (by decide +kernel) (by decide +kernel)
theorem xw_lMod_22 : ((Cond.laysFinal "TrainGuardModel" "TrainGuardModel" "markAccuracy" "[I") : Cond) ∈ x_W := x_inW (i := 815) (by decide +kernel) (by decide +kernel)
theorem xw_lMod_23 : ((Cond.laysFinal "TrainGuardModel" "TrainGuardModel" "passed" "[Z") : Cond) ∈ x_W := x_inW (i := 817) (by decide +kernel) (by decide +kernel)
theorem xw_lMod_24 : ((Cond.lays "TrainGuardModel" "TrainGuardModel" "restrictions" "I") : Cond) ∈ x_W := x_inW (i := 819) (by decide +kernel) (by decide +kernel)
theorem xw_lMod_25 : ((Cond.laysFinal "TrainGuardModel" "TrainGuardModel" "slowNumber" "[I") : Cond) ∈ x_W := x_inW (i := 821) (by decide +kernel) (by decide +kernel)
theorem xw_lMod_26 : ((Cond.laysFinal "TrainGuardModel" "TrainGuardModel" "slowPlace" "[I") : Cond) ∈ x_W := x_inW (i := 823) (by decide +kernel) (by decide +kernel)
theorem xw_lMod_27 : ((Cond.laysFinal "TrainGuardModel" "TrainGuardModel" "slowLength" "[I") : Cond) ∈ x_W := x_inW (i := 825) (by decide +kernel) (by decide +kernel)
theorem xw_lMod_28 : ((Cond.laysFinal "TrainGuardModel" "TrainGuardModel" "slowLimit" "[I") : Cond) ∈ x_W := x_inW (i := 827) (by decide +kernel) (by decide +kernel)
theorem xw_lMod_29 : ((Cond.lays "TrainGuardModel" "TrainGuardModel" "asked" "Z") : Cond) ∈ x_W := x_inW (i := 829) (by decide +kernel) (by decide +kernel)
theorem xw_lMod_30 : ((Cond.lays "TrainGuardModel" "TrainGuardModel" "askedCycles" "I") : Cond) ∈ x_W := x_inW (i := 831) (by decide +kernel) (by decide +kernel)
theorem xw_lMod_31 : ((Cond.lays "TrainGuardModel" "TrainGuardModel" "hard" "Z") : Cond) ∈ x_W := x_inW (i := 833) (by decide +kernel) (by decide +kernel)
theorem xw_lMod_32 : ((Cond.lays "TrainGuardModel" "TrainGuardModel" "soft" "Z") : Cond) ∈ x_W := x_inW (i := 835) (by decide +kernel) (by decide +kernel)
theorem xw_lMod_33 : ((Cond.lays "TrainGuardModel" "TrainGuardModel" "command" "I") : Cond) ∈ x_W := x_inW (i := 837) (by decide +kernel) (by decide +kernel)
theorem xw_lMod_34 : ((Cond.lays "TrainGuardModel" "TrainGuardModel" "latest" "I") : Cond) ∈ x_W := x_inW (i := 839) (by decide +kernel) (by decide +kernel)
theorem xw_lMod_35 : ((Cond.lays "TrainGuardModel" "TrainGuardModel" "size" "I") : Cond) ∈ x_W := x_inW (i := 841) (by decide +kernel) (by decide +kernel)
theorem xw_lMod_36 : ((Cond.laysFinal "TrainGuardModel" "TrainGuardModel" "row" "[I") : Cond) ∈ x_W := x_inW (i := 843) (by decide +kernel) (by decide +kernel)
theorem xw_lMod_37 : ((Cond.lays "TrainGuardModel" "TrainGuardModel" "next" "I") : Cond) ∈ x_W := x_inW (i := 845) (by decide +kernel) (by decide +kernel)
theorem xw_lMod_38 : ((Cond.lays "TrainGuardModel" "TrainGuardModel" "fault" "I") : Cond) ∈ x_W := x_inW (i := 847) (by decide +kernel) (by decide +kernel)
theorem xw_lMod_39 : ((Cond.laysFinal "TrainGuardModel" "TrainGuardModel" "came" "[Z") : Cond) ∈ x_W := x_inW (i := 849) (by decide +kernel) (by decide +kernel)
theorem xw_lMod_40 : ((Cond.laysFinal "TrainGuardModel" "TrainGuardModel" "count" "[I") : Cond) ∈ x_W := x_inW (i := 851) (by decide +kernel) (by decide +kernel)
theorem xw_lMod_41 : ((Cond.laysFinal "TrainGuardModel" "TrainGuardModel" "said" "[I") : Cond) ∈ x_W := x_inW (i := 853) (by decide +kernel) (by decide +kernel)
theorem xw_lMod_42 : ((Cond.lays "TrainGuardModel" "TrainGuardModel" "notes" "I") : Cond) ∈ x_W := x_inW (i := 855) (by decide +kernel) (by decide +kernel)
theorem xw_lMod_43 : ((Cond.laysFinal "TrainGuardModel" "TrainGuardModel" "noted" "[I") : Cond) ∈ x_W := x_inW (i := 857) (by decide +kernel) (by decide +kernel)
theorem xw_iLaw : ((Cond.initialized "TrainGuardLaw") : Cond) ∈ x_W := x_inW (i := 0) (by decide +kernel) (by decide +kernel)
theorem xw_iG : ((Cond.initialized "TrainGuard") : Cond) ∈ x_W := x_inW (i := 1) (by decide +kernel) (by decide +kernel)
theorem xw_iFrt : ((Cond.initialized "TrainGuard$Front") : Cond) ∈ x_W := x_inW (i := 2) (by decide +kernel) (by decide +kernel)
theorem xw_iTrk : ((Cond.initialized "TrainGuard$Track") : Cond) ∈ x_W := x_inW (i := 3) (by decide +kernel) (by decide +kernel)
theorem xw_iSpn : ((Cond.initialized "TrainGuard$SpanRow") : Cond) ∈ x_W := x_inW (i := 4) (by decide +kernel) (by decide +kernel)
theorem xw_iRes : ((Cond.initialized "TrainGuard$Restrictions") : Cond) ∈ x_W := x_inW (i := 5) (by decide +kernel) (by decide +kernel)
theorem xw_iMrk : ((Cond.initialized "TrainGuard$MarkRow") : Cond) ∈ x_W := x_inW (i := 6) (by decide +kernel) (by decide +kernel)
theorem xw_iBit : ((Cond.initialized "TrainGuard$BitRow") : Cond) ∈ x_W := x_inW (i := 7) (by decide +kernel) (by decide +kernel)
theorem xw_iMsg : ((Cond.initialized "TrainGuard$Message") : Cond) ∈ x_W := x_inW (i := 8) (by decide +kernel) (by decide +kernel)
theorem xw_iBrk : ((Cond.initialized "TrainGuard$Brakes") : Cond) ∈ x_W := x_inW (i := 9) (by decide +kernel) (by decide +kernel)
theorem xw_iNot : ((Cond.initialized "TrainGuard$Notes") : Cond) ∈ x_W := x_inW (i := 10) (by decide +kernel) (by decide +kernel)
theorem xw_iMth : ((Cond.initialized "java/lang/Math") : Cond) ∈ x_W := x_inW (i := 11) (by decide +kernel) (by decide +kernel)
theorem xw_iCur : ((Cond.initialized "TrainGuard$Curves") : Cond) ∈ x_W := x_inW (i := 12) (by decide +kernel) (by decide +kernel)
theorem xw_iMod : ((Cond.initialized "TrainGuardModel") : Cond) ∈ x_W := x_inW (i := 13) (by decide +kernel) (by decide +kernel)
theorem xw_kLaw_7 : ((Cond.classLink "TrainGuardLaw" (7 : Nat) "TrainGuard") : Cond) ∈ x_W := x_inW (i := 14) (by decide +kernel) (by decide +kernel)
theorem xw_nG : ((Cond.instantiable "TrainGuard" (14 : Nat)) : Cond) ∈ x_W := x_inW (i := 15) (by decide +kernel) (by decide +kernel)
theorem xw_mLaw_15 : ((Cond.methodLink "TrainGuardLaw" (15 : Nat) ({ cls := "TrainGuard", name := "<init>", desc := "(III)V" } : MethodName)) : Cond) ∈ x_W := x_inW (i := 16) (by decide +kernel) (by decide +kernel)
theorem xw_mG_1 : ((Cond.methodLink "TrainGuard" (1 : Nat) ({ cls := "java/lang/Object", name := "<init>", desc := "()V" } : MethodName)) : Cond) ∈ x_W := x_inW (i := 19) (by decide +kernel) (by decide +kernel)
theorem xw_kG_7 : ((Cond.classLink "TrainGuard" (7 : Nat) "TrainGuard$Front") : Cond) ∈ x_W := x_inW (i := 22) (by decide +kernel) (by decide +kernel)
theorem xw_nFrt : ((Cond.instantiable "TrainGuard$Front" (3 : Nat)) : Cond) ∈ x_W := x_inW (i := 23) (by decide +kernel) (by decide +kernel)
theorem xw_oG_9 : ((Cond.methodLinkNest "TrainGuard" (9 : Nat) ({ cls := "TrainGuard$Front", name := "<init>", desc := "()V" } : MethodName) "TrainGuard") : Cond) ∈ x_N := x_inN (i := 24) (by decide +kernel) (by decide +kernel)
theorem xw_mFrt_1 : ((Cond.methodLink "TrainGuard$Front" (1 : Nat) ({ cls := "java/lang/Object", name := "<init>", desc := "()V" } : MethodName)) : Cond) ∈ x_W := x_inW (i := 27) (by decide +kernel) (by decide +kernel)
theorem xw_fFrt_13 : ((Cond.fieldLink "TrainGuard$Front" (13 : Nat) "TrainGuard$Front" "low" "I") : Cond) ∈ x_W := x_inW (i := 28) (by decide +kernel) (by decide +kernel)
theorem xw_gG_121 : ((Cond.fieldLinkNest "TrainGuard" (121 : Nat) "TrainGuard$Front" "low" "I" "TrainGuard") : Cond) ∈ x_N := x_inN (i := 29) (by decide +kernel) (by decide +kernel)
theorem xw_fFrt_7 : ((Cond.fieldLink "TrainGuard$Front" (7 : Nat) "TrainGuard$Front" "high" "I") : Cond) ∈ x_W := x_inW (i := 30) (by decide +kernel) (by decide +kernel)
theorem xw_gG_115 : ((Cond.fieldLinkNest "TrainGuard" (115 : Nat) "TrainGuard$Front" "high" "I" "TrainGuard") : Cond) ∈ x_N := x_inN (i := 31) (by decide +kernel) (by decide +kernel)
theorem xw_fFrt_16 : ((Cond.fieldLink "TrainGuard$Front" (16 : Nat) "TrainGuard$Front" "top" "I") : Cond) ∈ x_W := x_inW (i := 32) (by decide +kernel) (by decide +kernel)
theorem xw_gG_172 : ((Cond.fieldLinkNest "TrainGuard" (172 : Nat) "TrainGuard$Front" "top" "I" "TrainGuard") : Cond) ∈ x_N := x_inN (i := 33) (by decide +kernel) (by decide +kernel)
theorem xw_kG_16 : ((Cond.classLink "TrainGuard" (16 : Nat) "TrainGuard$Track") : Cond) ∈ x_W := x_inW (i := 41) (by decide +kernel) (by decide +kernel)
theorem xw_nTrk : ((Cond.instantiable "TrainGuard$Track" (8 : Nat)) : Cond) ∈ x_W := x_inW (i := 42) (by decide +kernel) (by decide +kernel)
theorem xw_oG_18 : ((Cond.methodLinkNest "TrainGuard" (18 : Nat) ({ cls := "TrainGuard$Track", name := "<init>", desc := "()V" } : MethodName) "TrainGuard") : Cond) ∈ x_N := x_inN (i := 43) (by decide +kernel) (by decide +kernel)
theorem xw_mTrk_3 : ((Cond.methodLink "TrainGuard$Track" (3 : Nat) ({ cls := "java/lang/Object", name := "<init>", desc := "()V" } : MethodName)) : Cond) ∈ x_W := x_inW (i := 46) (by decide +kernel) (by decide +kernel)
theorem xw_kTrk_9 : ((Cond.classLink "TrainGuard$Track" (9 : Nat) "TrainGuard$SpanRow") : Cond) ∈ x_W := x_inW (i := 47) (by decide +kernel) (by decide +kernel)
theorem xw_nSpn : ((Cond.instantiable "TrainGuard$SpanRow" (4 : Nat)) : Cond) ∈ x_W := x_inW (i := 48) (by decide +kernel) (by decide +kernel)
theorem xw_oTrk_11 : ((Cond.methodLinkNest "TrainGuard$Track" (11 : Nat) ({ cls := "TrainGuard$SpanRow", name := "<init>", desc := "()V" } : MethodName) "TrainGuard") : Cond) ∈ x_N := x_inN (i := 49) (by decide +kernel) (by decide +kernel)
theorem xw_mSpn_3 : ((Cond.methodLink "TrainGuard$SpanRow" (3 : Nat) ({ cls := "java/lang/Object", name := "<init>", desc := "()V" } : MethodName)) : Cond) ∈ x_W := x_inW (i := 52) (by decide +kernel) (by decide +kernel)
theorem xw_fSpn_9 : ((Cond.fieldLink "TrainGuard$SpanRow" (9 : Nat) "TrainGuard$SpanRow" "firsts" "[I") : Cond) ∈ x_W := x_inW (i := 53) (by decide +kernel) (by decide +kernel)
theorem xw_gG_300 : ((Cond.fieldLinkNest "TrainGuard" (300 : Nat) "TrainGuard$SpanRow" "firsts" "[I" "TrainGuard") : Cond) ∈ x_N := x_inN (i := 54) (by decide +kernel) (by decide +kernel)
theorem xw_fSpn_15 : ((Cond.fieldLink "TrainGuard$SpanRow" (15 : Nat) "TrainGuard$SpanRow" "lasts" "[I") : Cond) ∈ x_W := x_inW (i := 55) (by decide +kernel) (by decide +kernel)
theorem xw_fSpn_18 : ((Cond.fieldLink "TrainGuard$SpanRow" (18 : Nat) "TrainGuard$SpanRow" "values" "[I") : Cond) ∈ x_W := x_inW (i := 56) (by decide +kernel) (by decide +kernel)
theorem xw_gG_304 : ((Cond.fieldLinkNest "TrainGuard" (304 : Nat) "TrainGuard$SpanRow" "values" "[I" "TrainGuard") : Cond) ∈ x_N := x_inN (i := 57) (by decide +kernel) (by decide +kernel)
theorem xw_fSpn_21 : ((Cond.fieldLink "TrainGuard$SpanRow" (21 : Nat) "TrainGuard$SpanRow" "count" "I") : Cond) ∈ x_W := x_inW (i := 58) (by decide +kernel) (by decide +kernel)
theorem xw_gRes_22 : ((Cond.fieldLinkNest "TrainGuard$Restrictions" (22 : Nat) "TrainGuard$SpanRow" "count" "I" "TrainGuard") : Cond) ∈ x_N := x_inN (i := 59) (by decide +kernel) (by decide +kernel)
theorem xw_gG_299 : ((Cond.fieldLinkNest "TrainGuard" (299 : Nat) "TrainGuard$SpanRow" "count" "I" "TrainGuard") : Cond) ∈ x_N := x_inN (i := 60) (by decide +kernel) (by decide +kernel)
theorem xw_a_int : ((Cond.arrayClass FieldType.int) : Cond) ∈ x_W := x_inW (i := 70) (by decide +kernel) (by decide +kernel)
theorem xw_kTrk_21 : ((Cond.classLink "TrainGuard$Track" (21 : Nat) "TrainGuard$Restrictions") : Cond) ∈ x_W := x_inW (i := 71) (by decide +kernel) (by decide +kernel)
theorem xw_nRes : ((Cond.instantiable "TrainGuard$Restrictions" (2 : Nat)) : Cond) ∈ x_W := x_inW (i := 72) (by decide +kernel) (by decide +kernel)
theorem xw_oTrk_23 : ((Cond.methodLinkNest "TrainGuard$Track" (23 : Nat) ({ cls := "TrainGuard$Restrictions", name := "<init>", desc := "()V" } : MethodName) "TrainGuard") : Cond) ∈ x_N := x_inN (i := 73) (by decide +kernel) (by decide +kernel)
theorem xw_mRes_3 : ((Cond.methodLink "TrainGuard$Restrictions" (3 : Nat) ({ cls := "java/lang/Object", name := "<init>", desc := "()V" } : MethodName)) : Cond) ∈ x_W := x_inW (i := 76) (by decide +kernel) (by decide +kernel)
theorem xw_kRes_15 : ((Cond.classLink "TrainGuard$Restrictions" (15 : Nat) "TrainGuard$SpanRow") : Cond) ∈ x_W := x_inW (i := 77) (by decide +kernel) (by decide +kernel)
theorem xw_oRes_17 : ((Cond.methodLinkNest "TrainGuard$Restrictions" (17 : Nat) ({ cls := "TrainGuard$SpanRow", name := "<init>", desc := "()V" } : MethodName) "TrainGuard") : Cond) ∈ x_N := x_inN (i := 78) (by decide +kernel) (by decide +kernel)
theorem xw_fRes_9 : ((Cond.fieldLink "TrainGuard$Restrictions" (9 : Nat) "TrainGuard$Restrictions" "numbers" "[I") : Cond) ∈ x_W := x_inW (i := 79) (by decide +kernel) (by decide +kernel)
theorem xw_fRes_18 : ((Cond.fieldLink "TrainGuard$Restrictions" (18 : Nat) "TrainGuard$Restrictions" "spans" "LTrainGuard$SpanRow;") : Cond) ∈ x_W := x_inW (i := 80) (by decide +kernel) (by decide +kernel)
theorem xw_gTrk_51 : ((Cond.fieldLinkNest "TrainGuard$Track" (51 : Nat) "TrainGuard$Restrictions" "spans" "LTrainGuard$SpanRow;" "TrainGuard") : Cond) ∈ x_N := x_inN (i := 81) (by decide +kernel) (by decide +kernel)
theorem xw_gG_293 : ((Cond.fieldLinkNest "TrainGuard" (293 : Nat) "TrainGuard$Restrictions" "spans" "LTrainGuard$SpanRow;" "TrainGuard") : Cond) ∈ x_N := x_inN (i := 82) (by decide +kernel) (by decide +kernel)
theorem xw_kTrk_28 : ((Cond.classLink "TrainGuard$Track" (28 : Nat) "TrainGuard$MarkRow") : Cond) ∈ x_W := x_inW (i := 88) (by decide +kernel) (by decide +kernel)
theorem xw_nMrk : ((Cond.instantiable "TrainGuard$MarkRow" (5 : Nat)) : Cond) ∈ x_W := x_inW (i := 89) (by decide +kernel) (by decide +kernel)
theorem xw_oTrk_30 : ((Cond.methodLinkNest "TrainGuard$Track" (30 : Nat) ({ cls := "TrainGuard$MarkRow", name := "<init>", desc := "()V" } : MethodName) "TrainGuard") : Cond) ∈ x_N := x_inN (i := 90) (by decide +kernel) (by decide +kernel)
theorem xw_mMrk_3 : ((Cond.methodLink "TrainGuard$MarkRow" (3 : Nat) ({ cls := "java/lang/Object", name := "<init>", desc := "()V" } : MethodName)) : Cond) ∈ x_W := x_inW (i := 93) (by decide +kernel) (by decide +kernel)
theorem xw_fMrk_9 : ((Cond.fieldLink "TrainGuard$MarkRow" (9 : Nat) "TrainGuard$MarkRow" "places" "[I") : Cond) ∈ x_W := x_inW (i := 94) (by decide +kernel) (by decide +kernel)
theorem xw_fMrk_15 : ((Cond.fieldLink "TrainGuard$MarkRow" (15 : Nat) "TrainGuard$MarkRow" "numbers" "[I") : Cond) ∈ x_W := x_inW (i := 95) (by decide +kernel) (by decide +kernel)
theorem xw_fMrk_18 : ((Cond.fieldLink "TrainGuard$MarkRow" (18 : Nat) "TrainGuard$MarkRow" "accuracies" "[I") : Cond) ∈ x_W := x_inW (i := 96) (by decide +kernel) (by decide +kernel)
theorem xw_fMrk_21 : ((Cond.fieldLink "TrainGuard$MarkRow" (21 : Nat) "TrainGuard$MarkRow" "passed" "[Z") : Cond) ∈ x_W := x_inW (i := 97) (by decide +kernel) (by decide +kernel)
theorem xw_fMrk_25 : ((Cond.fieldLink "TrainGuard$MarkRow" (25 : Nat) "TrainGuard$MarkRow" "count" "I") : Cond) ∈ x_W := x_inW (i := 98) (by decide +kernel) (by decide +kernel)
theorem xw_a_boolean : ((Cond.arrayClass FieldType.boolean) : Cond) ∈ x_W := x_inW (i := 110) (by decide +kernel) (by decide +kernel)
theorem xw_fTrk_12 : ((Cond.fieldLink "TrainGuard$Track" (12 : Nat) "TrainGuard$Track" "profile" "LTrainGuard$SpanRow;") : Cond) ∈ x_W := x_inW (i := 111) (by decide +kernel) (by decide +kernel)
theorem xw_gG_236 : ((Cond.fieldLinkNest "TrainGuard" (236 : Nat) "TrainGuard$Track" "profile" "LTrainGuard$SpanRow;" "TrainGuard") : Cond) ∈ x_N := x_inN (i := 112) (by decide +kernel) (by decide +kernel)
theorem xw_fTrk_18 : ((Cond.fieldLink "TrainGuard$Track" (18 : Nat) "TrainGuard$Track" "grades" "LTrainGuard$SpanRow;") : Cond) ∈ x_W := x_inW (i := 113) (by decide +kernel) (by decide +kernel)
theorem xw_gG_307 : ((Cond.fieldLinkNest "TrainGuard" (307 : Nat) "TrainGuard$Track" "grades" "LTrainGuard$SpanRow;" "TrainGuard") : Cond) ∈ x_N := x_inN (i := 114) (by decide +kernel) (by decide +kernel)
theorem xw_fTrk_24 : ((Cond.fieldLink "TrainGuard$Track" (24 : Nat) "TrainGuard$Track" "restrictions" "LTrainGuard$Restrictions;") : Cond) ∈ x_W := x_inW (i := 115) (by decide +kernel) (by decide +kernel)
theorem xw_gG_256 : ((Cond.fieldLinkNest "TrainGuard" (256 : Nat) "TrainGuard$Track" "restrictions" "LTrainGuard$Restrictions;" "TrainGuard") : Cond) ∈ x_N := x_inN (i := 116) (by decide +kernel) (by decide +kernel)
theorem xw_fTrk_31 : ((Cond.fieldLink "TrainGuard$Track" (31 : Nat) "TrainGuard$Track" "marks" "LTrainGuard$MarkRow;") : Cond) ∈ x_W := x_inW (i := 117) (by decide +kernel) (by decide +kernel)
theorem xw_gG_101 : ((Cond.fieldLinkNest "TrainGuard" (101 : Nat) "TrainGuard$Track" "marks" "LTrainGuard$MarkRow;" "TrainGuard") : Cond) ∈ x_N := x_inN (i := 118) (by decide +kernel) (by decide +kernel)
theorem xw_fTrk_39 : ((Cond.fieldLink "TrainGuard$Track" (39 : Nat) "TrainGuard$Track" "hasAuthority" "Z") : Cond) ∈ x_W := x_inW (i := 119) (by decide +kernel) (by decide +kernel)
theorem xw_gG_181 : ((Cond.fieldLinkNest "TrainGuard" (181 : Nat) "TrainGuard$Track" "hasAuthority" "Z" "TrainGuard") : Cond) ∈ x_N := x_inN (i := 120) (by decide +kernel) (by decide +kernel)
theorem xw_fTrk_91 : ((Cond.fieldLink "TrainGuard$Track" (91 : Nat) "TrainGuard$Track" "end" "I") : Cond) ∈ x_W := x_inW (i := 121) (by decide +kernel) (by decide +kernel)
theorem xw_gG_184 : ((Cond.fieldLinkNest "TrainGuard" (184 : Nat) "TrainGuard$Track" "end" "I" "TrainGuard") : Cond) ∈ x_N := x_inN (i := 122) (by decide +kernel) (by decide +kernel)
theorem xw_fTrk_95 : ((Cond.fieldLink "TrainGuard$Track" (95 : Nat) "TrainGuard$Track" "overlap" "I") : Cond) ∈ x_W := x_inW (i := 123) (by decide +kernel) (by decide +kernel)
theorem xw_gG_296 : ((Cond.fieldLinkNest "TrainGuard" (296 : Nat) "TrainGuard$Track" "overlap" "I" "TrainGuard") : Cond) ∈ x_N := x_inN (i := 124) (by decide +kernel) (by decide +kernel)
theorem xw_fTrk_35 : ((Cond.fieldLink "TrainGuard$Track" (35 : Nat) "TrainGuard$Track" "endMode" "I") : Cond) ∈ x_W := x_inW (i := 125) (by decide +kernel) (by decide +kernel)
theorem xw_gG_233 : ((Cond.fieldLinkNest "TrainGuard" (233 : Nat) "TrainGuard$Track" "endMode" "I" "TrainGuard") : Cond) ∈ x_N := x_inN (i := 126) (by decide +kernel) (by decide +kernel)
theorem xw_kG_23 : ((Cond.classLink "TrainGuard" (23 : Nat) "TrainGuard$BitRow") : Cond) ∈ x_W := x_inW (i := 144) (by decide +kernel) (by decide +kernel)
theorem xw_nBit : ((Cond.instantiable "TrainGuard$BitRow" (4 : Nat)) : Cond) ∈ x_W := x_inW (i := 145) (by decide +kernel) (by decide +kernel)
theorem xw_oG_25 : ((Cond.methodLinkNest "TrainGuard" (25 : Nat) ({ cls := "TrainGuard$BitRow", name := "<init>", desc := "()V" } : MethodName) "TrainGuard") : Cond) ∈ x_N := x_inN (i := 146) (by decide +kernel) (by decide +kernel)
theorem xw_mBit_3 : ((Cond.methodLink "TrainGuard$BitRow" (3 : Nat) ({ cls := "java/lang/Object", name := "<init>", desc := "()V" } : MethodName)) : Cond) ∈ x_W := x_inW (i := 149) (by decide +kernel) (by decide +kernel)
theorem xw_fBit_9 : ((Cond.fieldLink "TrainGuard$BitRow" (9 : Nat) "TrainGuard$BitRow" "row" "[B") : Cond) ∈ x_W := x_inW (i := 150) (by decide +kernel) (by decide +kernel)
theorem xw_fBit_15 : ((Cond.fieldLink "TrainGuard$BitRow" (15 : Nat) "TrainGuard$BitRow" "count" "I") : Cond) ∈ x_W := x_inW (i := 151) (by decide +kernel) (by decide +kernel)
theorem xw_gMsg_56 : ((Cond.fieldLinkNest "TrainGuard$Message" (56 : Nat) "TrainGuard$BitRow" "count" "I" "TrainGuard") : Cond) ∈ x_N := x_inN (i := 152) (by decide +kernel) (by decide +kernel)
theorem xw_gG_175 : ((Cond.fieldLinkNest "TrainGuard" (175 : Nat) "TrainGuard$BitRow" "count" "I" "TrainGuard") : Cond) ∈ x_N := x_inN (i := 153) (by decide +kernel) (by decide +kernel)
theorem xw_fBit_19 : ((Cond.fieldLink "TrainGuard$BitRow" (19 : Nat) "TrainGuard$BitRow" "position" "I") : Cond) ∈ x_W := x_inW (i := 154) (by decide +kernel) (by decide +kernel)
theorem xw_gMsg_81 : ((Cond.fieldLinkNest "TrainGuard$Message" (81 : Nat) "TrainGuard$BitRow" "fault" "I" "TrainGuard") : Cond) ∈ x_N := x_inN (i := 155) (by decide +kernel) (by decide +kernel)
theorem xw_fBit_22 : ((Cond.fieldLink "TrainGuard$BitRow" (22 : Nat) "TrainGuard$BitRow" "fault" "I") : Cond) ∈ x_W := x_inW (i := 156) (by decide +kernel) (by decide +kernel)
theorem xw_a_byte : ((Cond.arrayClass FieldType.byte) : Cond) ∈ x_W := x_inW (i := 166) (by decide +kernel) (by decide +kernel)
theorem xw_kG_30 : ((Cond.classLink "TrainGuard" (30 : Nat) "TrainGuard$Message") : Cond) ∈ x_W := x_inW (i := 167) (by decide +kernel) (by decide +kernel)
theorem xw_nMsg : ((Cond.instantiable "TrainGuard$Message" (14 : Nat)) : Cond) ∈ x_W := x_inW (i := 168) (by decide +kernel) (by decide +kernel)
theorem xw_oG_32 : ((Cond.methodLinkNest "TrainGuard" (32 : Nat) ({ cls := "TrainGuard$Message", name := "<init>", desc := "()V" } : MethodName) "TrainGuard") : Cond) ∈ x_N := x_inN (i := 169) (by decide +kernel) (by decide +kernel)
theorem xw_mMsg_3 : ((Cond.methodLink "TrainGuard$Message" (3 : Nat) ({ cls := "java/lang/Object", name := "<init>", desc := "()V" } : MethodName)) : Cond) ∈ x_W := x_inW (i := 172) (by decide +kernel) (by decide +kernel)
theorem xw_fMsg_9 : ((Cond.fieldLink "TrainGuard$Message" (9 : Nat) "TrainGuard$Message" "IDS" "[I") : Cond) ∈ x_W := x_inW (i := 173) (by decide +kernel) (by decide +kernel)
theorem xw_ls : Cond.laysStatic "TrainGuard$Message" "IDS" "[I" ∈ lw_tbl := List.mem_append_right _ (List.mem_of_getElem? (i := 174) (by decide +kernel))
theorem xw_kMsg_19 : ((Cond.classLink "TrainGuard$Message" (19 : Nat) "TrainGuard$MarkRow") : Cond) ∈ x_W := x_inW (i := 175) (by decide +kernel) (by decide +kernel)
theorem xw_oMsg_21 : ((Cond.methodLinkNest "TrainGuard$Message" (21 : Nat) ({ cls := "TrainGuard$MarkRow", name := "<init>", desc := "()V" } : MethodName) "TrainGuard") : Cond) ∈ x_N := x_inN (i := 176) (by decide +kernel) (by decide +kernel)
theorem xw_kMsg_26 : ((Cond.classLink "TrainGuard$Message" (26 : Nat) "TrainGuard$SpanRow") : Cond) ∈ x_W := x_inW (i := 177) (by decide +kernel) (by decide +kernel)
theorem xw_oMsg_28 : ((Cond.methodLinkNest "TrainGuard$Message" (28 : Nat) ({ cls := "TrainGuard$SpanRow", name := "<init>", desc := "()V" } : MethodName) "TrainGuard") : Cond) ∈ x_N := x_inN (i := 178) (by decide +kernel) (by decide +kernel)
theorem xw_fMsg_15 : ((Cond.fieldLink "TrainGuard$Message" (15 : Nat) "TrainGuard$Message" "came" "[Z") : Cond) ∈ x_W := x_inW (i := 179) (by decide +kernel) (by decide +kernel)
theorem xw_gTrk_59 : ((Cond.fieldLinkNest "TrainGuard$Track" (59 : Nat) "TrainGuard$Message" "came" "[Z" "TrainGuard") : Cond) ∈ x_N := x_inN (i := 180) (by decide +kernel) (by decide +kernel)
theorem xw_gG_248 : ((Cond.fieldLinkNest "TrainGuard" (248 : Nat) "TrainGuard$Message" "came" "[Z" "TrainGuard") : Cond) ∈ x_N := x_inN (i := 181) (by decide +kernel) (by decide +kernel)
theorem xw_fMsg_22 : ((Cond.fieldLink "TrainGuard$Message" (22 : Nat) "TrainGuard$Message" "marks" "LTrainGuard$MarkRow;") : Cond) ∈ x_W := x_inW (i := 182) (by decide +kernel) (by decide +kernel)
theorem xw_gTrk_103 : ((Cond.fieldLinkNest "TrainGuard$Track" (103 : Nat) "TrainGuard$Message" "marks" "LTrainGuard$MarkRow;" "TrainGuard") : Cond) ∈ x_N := x_inN (i := 183) (by decide +kernel) (by decide +kernel)
theorem xw_fMsg_29 : ((Cond.fieldLink "TrainGuard$Message" (29 : Nat) "TrainGuard$Message" "grades" "LTrainGuard$SpanRow;") : Cond) ∈ x_W := x_inW (i := 184) (by decide +kernel) (by decide +kernel)
theorem xw_gTrk_102 : ((Cond.fieldLinkNest "TrainGuard$Track" (102 : Nat) "TrainGuard$Message" "grades" "LTrainGuard$SpanRow;" "TrainGuard") : Cond) ∈ x_N := x_inN (i := 185) (by decide +kernel) (by decide +kernel)
theorem xw_fMsg_33 : ((Cond.fieldLink "TrainGuard$Message" (33 : Nat) "TrainGuard$Message" "profile" "LTrainGuard$SpanRow;") : Cond) ∈ x_W := x_inW (i := 186) (by decide +kernel) (by decide +kernel)
theorem xw_gTrk_97 : ((Cond.fieldLinkNest "TrainGuard$Track" (97 : Nat) "TrainGuard$Message" "profile" "LTrainGuard$SpanRow;" "TrainGuard") : Cond) ∈ x_N := x_inN (i := 187) (by decide +kernel) (by decide +kernel)
theorem xw_fMsg_49 : ((Cond.fieldLink "TrainGuard$Message" (49 : Nat) "TrainGuard$Message" "kind" "I") : Cond) ∈ x_W := x_inW (i := 188) (by decide +kernel) (by decide +kernel)
theorem xw_gG_92 : ((Cond.fieldLinkNest "TrainGuard" (92 : Nat) "TrainGuard$Message" "kind" "I" "TrainGuard") : Cond) ∈ x_N := x_inN (i := 189) (by decide +kernel) (by decide +kernel)
theorem xw_gG_95 : ((Cond.fieldLinkNest "TrainGuard" (95 : Nat) "TrainGuard$Message" "time" "I" "TrainGuard") : Cond) ∈ x_N := x_inN (i := 190) (by decide +kernel) (by decide +kernel)
theorem xw_fMsg_59 : ((Cond.fieldLink "TrainGuard$Message" (59 : Nat) "TrainGuard$Message" "time" "I") : Cond) ∈ x_W := x_inW (i := 191) (by decide +kernel) (by decide +kernel)
theorem xw_fMsg_66 : ((Cond.fieldLink "TrainGuard$Message" (66 : Nat) "TrainGuard$Message" "end" "I") : Cond) ∈ x_W := x_inW (i := 192) (by decide +kernel) (by decide +kernel)
theorem xw_gTrk_88 : ((Cond.fieldLinkNest "TrainGuard$Track" (88 : Nat) "TrainGuard$Message" "end" "I" "TrainGuard") : Cond) ∈ x_N := x_inN (i := 193) (by decide +kernel) (by decide +kernel)
theorem xw_gG_252 : ((Cond.fieldLinkNest "TrainGuard" (252 : Nat) "TrainGuard$Message" "end" "I" "TrainGuard") : Cond) ∈ x_N := x_inN (i := 194) (by decide +kernel) (by decide +kernel)
theorem xw_gTrk_92 : ((Cond.fieldLinkNest "TrainGuard$Track" (92 : Nat) "TrainGuard$Message" "overlap" "I" "TrainGuard") : Cond) ∈ x_N := x_inN (i := 195) (by decide +kernel) (by decide +kernel)
theorem xw_fMsg_115 : ((Cond.fieldLink "TrainGuard$Message" (115 : Nat) "TrainGuard$Message" "overlap" "I") : Cond) ∈ x_W := x_inW (i := 196) (by decide +kernel) (by decide +kernel)
theorem xw_gTrk_96 : ((Cond.fieldLinkNest "TrainGuard$Track" (96 : Nat) "TrainGuard$Message" "endMode" "I" "TrainGuard") : Cond) ∈ x_N := x_inN (i := 197) (by decide +kernel) (by decide +kernel)
theorem xw_fMsg_118 : ((Cond.fieldLink "TrainGuard$Message" (118 : Nat) "TrainGuard$Message" "endMode" "I") : Cond) ∈ x_W := x_inW (i := 198) (by decide +kernel) (by decide +kernel)
theorem xw_gTrk_72 : ((Cond.fieldLinkNest "TrainGuard$Track" (72 : Nat) "TrainGuard$Message" "number" "I" "TrainGuard") : Cond) ∈ x_N := x_inN (i := 199) (by decide +kernel) (by decide +kernel)
theorem xw_fMsg_129 : ((Cond.fieldLink "TrainGuard$Message" (129 : Nat) "TrainGuard$Message" "number" "I") : Cond) ∈ x_W := x_inW (i := 200) (by decide +kernel) (by decide +kernel)
theorem xw_gG_260 : ((Cond.fieldLinkNest "TrainGuard" (260 : Nat) "TrainGuard$Message" "number" "I" "TrainGuard") : Cond) ∈ x_N := x_inN (i := 201) (by decide +kernel) (by decide +kernel)
theorem xw_gTrk_75 : ((Cond.fieldLinkNest "TrainGuard$Track" (75 : Nat) "TrainGuard$Message" "from" "I" "TrainGuard") : Cond) ∈ x_N := x_inN (i := 202) (by decide +kernel) (by decide +kernel)
theorem xw_fMsg_132 : ((Cond.fieldLink "TrainGuard$Message" (132 : Nat) "TrainGuard$Message" "from" "I") : Cond) ∈ x_W := x_inW (i := 203) (by decide +kernel) (by decide +kernel)
theorem xw_gTrk_78 : ((Cond.fieldLinkNest "TrainGuard$Track" (78 : Nat) "TrainGuard$Message" "reach" "I" "TrainGuard") : Cond) ∈ x_N := x_inN (i := 204) (by decide +kernel) (by decide +kernel)
theorem xw_fMsg_135 : ((Cond.fieldLink "TrainGuard$Message" (135 : Nat) "TrainGuard$Message" "reach" "I") : Cond) ∈ x_W := x_inW (i := 205) (by decide +kernel) (by decide +kernel)
theorem xw_gTrk_81 : ((Cond.fieldLinkNest "TrainGuard$Track" (81 : Nat) "TrainGuard$Message" "speed" "I" "TrainGuard") : Cond) ∈ x_N := x_inN (i := 206) (by decide +kernel) (by decide +kernel)
theorem xw_fMsg_138 : ((Cond.fieldLink "TrainGuard$Message" (138 : Nat) "TrainGuard$Message" "speed" "I") : Cond) ∈ x_W := x_inW (i := 207) (by decide +kernel) (by decide +kernel)
theorem xw_fMsg_36 : ((Cond.fieldLink "TrainGuard$Message" (36 : Nat) "TrainGuard$Message" "ended" "I") : Cond) ∈ x_W := x_inW (i := 208) (by decide +kernel) (by decide +kernel)
theorem xw_gTrk_65 : ((Cond.fieldLinkNest "TrainGuard$Track" (65 : Nat) "TrainGuard$Message" "ended" "I" "TrainGuard") : Cond) ∈ x_N := x_inN (i := 209) (by decide +kernel) (by decide +kernel)
theorem xw_kG_37 : ((Cond.classLink "TrainGuard" (37 : Nat) "TrainGuard$Brakes") : Cond) ∈ x_W := x_inW (i := 239) (by decide +kernel) (by decide +kernel)
theorem xw_nBrk : ((Cond.instantiable "TrainGuard$Brakes" (3 : Nat)) : Cond) ∈ x_W := x_inW (i := 240) (by decide +kernel) (by decide +kernel)
theorem xw_oG_39 : ((Cond.methodLinkNest "TrainGuard" (39 : Nat) ({ cls := "TrainGuard$Brakes", name := "<init>", desc := "()V" } : MethodName) "TrainGuard") : Cond) ∈ x_N := x_inN (i := 241) (by decide +kernel) (by decide +kernel)
theorem xw_mBrk_3 : ((Cond.methodLink "TrainGuard$Brakes" (3 : Nat) ({ cls := "java/lang/Object", name := "<init>", desc := "()V" } : MethodName)) : Cond) ∈ x_W := x_inW (i := 244) (by decide +kernel) (by decide +kernel)
theorem xw_fBrk_9 : ((Cond.fieldLink "TrainGuard$Brakes" (9 : Nat) "TrainGuard$Brakes" "emergency" "Z") : Cond) ∈ x_W := x_inW (i := 245) (by decide +kernel) (by decide +kernel)
theorem xw_fBrk_15 : ((Cond.fieldLink "TrainGuard$Brakes" (15 : Nat) "TrainGuard$Brakes" "service" "Z") : Cond) ∈ x_W := x_inW (i := 246) (by decide +kernel) (by decide +kernel)
theorem xw_fBrk_18 : ((Cond.fieldLink "TrainGuard$Brakes" (18 : Nat) "TrainGuard$Brakes" "command" "I") : Cond) ∈ x_W := x_inW (i := 247) (by decide +kernel) (by decide +kernel)
theorem xw_gG_163 : ((Cond.fieldLinkNest "TrainGuard" (163 : Nat) "TrainGuard$Brakes" "command" "I" "TrainGuard") : Cond) ∈ x_N := x_inN (i := 248) (by decide +kernel) (by decide +kernel)
theorem xw_kG_44 : ((Cond.classLink "TrainGuard" (44 : Nat) "TrainGuard$Notes") : Cond) ∈ x_W := x_inW (i := 256) (by decide +kernel) (by decide +kernel)
theorem xw_nNot : ((Cond.instantiable "TrainGuard$Notes" (3 : Nat)) : Cond) ∈ x_W := x_inW (i := 257) (by decide +kernel) (by decide +kernel)
theorem xw_oG_46 : ((Cond.methodLinkNest "TrainGuard" (46 : Nat) ({ cls := "TrainGuard$Notes", name := "<init>", desc := "()V" } : MethodName) "TrainGuard") : Cond) ∈ x_N := x_inN (i := 258) (by decide +kernel) (by decide +kernel)
theorem xw_mNot_3 : ((Cond.methodLink "TrainGuard$Notes" (3 : Nat) ({ cls := "java/lang/Object", name := "<init>", desc := "()V" } : MethodName)) : Cond) ∈ x_W := x_inW (i := 261) (by decide +kernel) (by decide +kernel)
theorem xw_fNot_9 : ((Cond.fieldLink "TrainGuard$Notes" (9 : Nat) "TrainGuard$Notes" "row" "[I") : Cond) ∈ x_W := x_inW (i := 262) (by decide +kernel) (by decide +kernel)
theorem xw_fNot_19 : ((Cond.fieldLink "TrainGuard$Notes" (19 : Nat) "TrainGuard$Notes" "count" "I") : Cond) ∈ x_W := x_inW (i := 263) (by decide +kernel) (by decide +kernel)
theorem xw_fNot_15 : ((Cond.fieldLink "TrainGuard$Notes" (15 : Nat) "TrainGuard$Notes" "next" "I") : Cond) ∈ x_W := x_inW (i := 264) (by decide +kernel) (by decide +kernel)
theorem xw_mG_58 : ((Cond.methodLink "TrainGuard" (58 : Nat) ({ cls := "TrainGuard", name := "within", desc := "(III)I" } : MethodName)) : Cond) ∈ x_W := x_inW (i := 272) (by decide +kernel) (by decide +kernel)
theorem xw_mG_212 : ((Cond.methodLink "TrainGuard" (212 : Nat) ({ cls := "java/lang/Math", name := "min", desc := "(II)I" } : MethodName)) : Cond) ∈ x_W := x_inW (i := 275) (by decide +kernel) (by decide +kernel)
theorem xw_mG_187 : ((Cond.methodLink "TrainGuard" (187 : Nat) ({ cls := "java/lang/Math", name := "max", desc := "(II)I" } : MethodName)) : Cond) ∈ x_W := x_inW (i := 278) (by decide +kernel) (by decide +kernel)
theorem xw_kG_62 : ((Cond.classLink "TrainGuard" (62 : Nat) "TrainGuard$Curves") : Cond) ∈ x_W := x_inW (i := 281) (by decide +kernel) (by decide +kernel)
theorem xw_nCur : ((Cond.instantiable "TrainGuard$Curves" (8 : Nat)) : Cond) ∈ x_W := x_inW (i := 282) (by decide +kernel) (by decide +kernel)
theorem xw_mG_64 : ((Cond.methodLink "TrainGuard" (64 : Nat) ({ cls := "TrainGuard$Curves", name := "<init>", desc := "(II)V" } : MethodName)) : Cond) ∈ x_W := x_inW (i := 283) (by decide +kernel) (by decide +kernel)
theorem xw_mCur_3 : ((Cond.methodLink "TrainGuard$Curves" (3 : Nat) ({ cls := "java/lang/Object", name := "<init>", desc := "()V" } : MethodName)) : Cond) ∈ x_W := x_inW (i := 286) (by decide +kernel) (by decide +kernel)
theorem xw_fCur_21 : ((Cond.fieldLink "TrainGuard$Curves" (21 : Nat) "TrainGuard$Curves" "emergency" "I") : Cond) ∈ x_W := x_inW (i := 287) (by decide +kernel) (by decide +kernel)
theorem xw_fCur_25 : ((Cond.fieldLink "TrainGuard$Curves" (25 : Nat) "TrainGuard$Curves" "service" "I") : Cond) ∈ x_W := x_inW (i := 288) (by decide +kernel) (by decide +kernel)
theorem xw_fCur_11 : ((Cond.fieldLink "TrainGuard$Curves" (11 : Nat) "TrainGuard$Curves" "places" "[I") : Cond) ∈ x_W := x_inW (i := 289) (by decide +kernel) (by decide +kernel)
theorem xw_fCur_15 : ((Cond.fieldLink "TrainGuard$Curves" (15 : Nat) "TrainGuard$Curves" "speeds" "[I") : Cond) ∈ x_W := x_inW (i := 290) (by decide +kernel) (by decide +kernel)
theorem xw_fCur_18 : ((Cond.fieldLink "TrainGuard$Curves" (18 : Nat) "TrainGuard$Curves" "falls" "[I") : Cond) ∈ x_W := x_inW (i := 291) (by decide +kernel) (by decide +kernel)
theorem xw_fCur_34 : ((Cond.fieldLink "TrainGuard$Curves" (34 : Nat) "TrainGuard$Curves" "count" "I") : Cond) ∈ x_W := x_inW (i := 292) (by decide +kernel) (by decide +kernel)
theorem xw_fCur_28 : ((Cond.fieldLink "TrainGuard$Curves" (28 : Nat) "TrainGuard$Curves" "ceiling" "I") : Cond) ∈ x_W := x_inW (i := 293) (by decide +kernel) (by decide +kernel)
theorem xw_fCur_31 : ((Cond.fieldLink "TrainGuard$Curves" (31 : Nat) "TrainGuard$Curves" "high" "I") : Cond) ∈ x_W := x_inW (i := 294) (by decide +kernel) (by decide +kernel)
theorem xw_fG_71 : ((Cond.fieldLink "TrainGuard" (71 : Nat) "TrainGuard" "length" "I") : Cond) ∈ x_W := x_inW (i := 312) (by decide +kernel) (by decide +kernel)
theorem xw_fG_10 : ((Cond.fieldLink "TrainGuard" (10 : Nat) "TrainGuard" "front" "LTrainGuard$Front;") : Cond) ∈ x_W := x_inW (i := 313) (by decide +kernel) (by decide +kernel)
theorem xw_fG_19 : ((Cond.fieldLink "TrainGuard" (19 : Nat) "TrainGuard" "track" "LTrainGuard$Track;") : Cond) ∈ x_W := x_inW (i := 314) (by decide +kernel) (by decide +kernel)
theorem xw_fG_26 : ((Cond.fieldLink "TrainGuard" (26 : Nat) "TrainGuard" "bitRow" "LTrainGuard$BitRow;") : Cond) ∈ x_W := x_inW (i := 315) (by decide +kernel) (by decide +kernel)
theorem xw_fG_33 : ((Cond.fieldLink "TrainGuard" (33 : Nat) "TrainGuard" "received" "LTrainGuard$Message;") : Cond) ∈ x_W := x_inW (i := 316) (by decide +kernel) (by decide +kernel)
theorem xw_fG_67 : ((Cond.fieldLink "TrainGuard" (67 : Nat) "TrainGuard" "curves" "LTrainGuard$Curves;") : Cond) ∈ x_W := x_inW (i := 317) (by decide +kernel) (by decide +kernel)
theorem xw_fG_40 : ((Cond.fieldLink "TrainGuard" (40 : Nat) "TrainGuard" "brakes" "LTrainGuard$Brakes;") : Cond) ∈ x_W := x_inW (i := 318) (by decide +kernel) (by decide +kernel)
theorem xw_fG_47 : ((Cond.fieldLink "TrainGuard" (47 : Nat) "TrainGuard" "notes" "LTrainGuard$Notes;") : Cond) ∈ x_W := x_inW (i := 319) (by decide +kernel) (by decide +kernel)
theorem xw_fG_51 : ((Cond.fieldLink "TrainGuard" (51 : Nat) "TrainGuard" "modeNow" "I") : Cond) ∈ x_W := x_inW (i := 320) (by decide +kernel) (by decide +kernel)
theorem xw_fG_230 : ((Cond.fieldLink "TrainGuard" (230 : Nat) "TrainGuard" "staffEnd" "I") : Cond) ∈ x_W := x_inW (i := 321) (by decide +kernel) (by decide +kernel)
theorem xw_fG_137 : ((Cond.fieldLink "TrainGuard" (137 : Nat) "TrainGuard" "cycles" "I") : Cond) ∈ x_W := x_inW (i := 322) (by decide +kernel) (by decide +kernel)
theorem xw_fG_55 : ((Cond.fieldLink "TrainGuard" (55 : Nat) "TrainGuard" "latestTime" "I") : Cond) ∈ x_W := x_inW (i := 323) (by decide +kernel) (by decide +kernel)
theorem xw_fG_149 : ((Cond.fieldLink "TrainGuard" (149 : Nat) "TrainGuard" "asked" "Z") : Cond) ∈ x_W := x_inW (i := 324) (by decide +kernel) (by decide +kernel)
theorem xw_fG_153 : ((Cond.fieldLink "TrainGuard" (153 : Nat) "TrainGuard" "askedCycles" "I") : Cond) ∈ x_W := x_inW (i := 325) (by decide +kernel) (by decide +kernel)
theorem xw_mLaw_21 : ((Cond.methodLink "TrainGuardLaw" (21 : Nat) ({ cls := "TrainGuard", name := "bits", desc := "(II)Z" } : MethodName)) : Cond) ∈ x_W := x_inW (i := 355) (by decide +kernel) (by decide +kernel)
theorem xw_mG_74 : ((Cond.methodLink "TrainGuard" (74 : Nat) ({ cls := "TrainGuard$BitRow", name := "put", desc := "(II)Z" } : MethodName)) : Cond) ∈ x_W := x_inW (i := 359) (by decide +kernel) (by decide +kernel)
theorem xw_mLaw_26 : ((Cond.methodLink "TrainGuardLaw" (26 : Nat) ({ cls := "TrainGuard", name := "message", desc := "()I" } : MethodName)) : Cond) ∈ x_W := x_inW (i := 363) (by decide +kernel) (by decide +kernel)
theorem xw_mG_78 : ((Cond.methodLink "TrainGuard" (78 : Nat) ({ cls := "TrainGuard$Message", name := "readFrom", desc := "(LTrainGuard$BitRow;I)I" } : MethodName)) : Cond) ∈ x_W := x_inW (i := 367) (by decide +kernel) (by decide +kernel)
theorem xw_mMsg_40 : ((Cond.methodLink "TrainGuard$Message" (40 : Nat) ({ cls := "TrainGuard$BitRow", name := "begin", desc := "()V" } : MethodName)) : Cond) ∈ x_W := x_inW (i := 371) (by decide +kernel) (by decide +kernel)
theorem xw_mMsg_45 : ((Cond.methodLink "TrainGuard$Message" (45 : Nat) ({ cls := "TrainGuard$BitRow", name := "take", desc := "(I)I" } : MethodName)) : Cond) ∈ x_W := x_inW (i := 375) (by decide +kernel) (by decide +kernel)
theorem xw_mMsg_52 : ((Cond.methodLink "TrainGuard$Message" (52 : Nat) ({ cls := "TrainGuard$BitRow", name := "need", desc := "(ZI)V" } : MethodName)) : Cond) ∈ x_W := x_inW (i := 379) (by decide +kernel) (by decide +kernel)
theorem xw_mMsg_62 : ((Cond.methodLink "TrainGuard$Message" (62 : Nat) ({ cls := "TrainGuard$Message", name := "takePlace", desc := "(LTrainGuard$BitRow;)I" } : MethodName)) : Cond) ∈ x_W := x_inW (i := 383) (by decide +kernel) (by decide +kernel)
theorem xw_mMsg_69 : ((Cond.methodLink "TrainGuard$Message" (69 : Nat) ({ cls := "TrainGuard$BitRow", name := "isSound", desc := "()Z" } : MethodName)) : Cond) ∈ x_W := x_inW (i := 386) (by decide +kernel) (by decide +kernel)
theorem xw_mMsg_73 : ((Cond.methodLink "TrainGuard$Message" (73 : Nat) ({ cls := "TrainGuard$BitRow", name := "left", desc := "()I" } : MethodName)) : Cond) ∈ x_W := x_inW (i := 390) (by decide +kernel) (by decide +kernel)
theorem xw_mMsg_77 : ((Cond.methodLink "TrainGuard$Message" (77 : Nat) ({ cls := "TrainGuard$Message", name := "readPacket", desc := "(LTrainGuard$BitRow;)V" } : MethodName)) : Cond) ∈ x_W := x_inW (i := 394) (by decide +kernel) (by decide +kernel)
theorem xw_mMsg_84 : ((Cond.methodLink "TrainGuard$Message" (84 : Nat) ({ cls := "TrainGuard$Message", name := "slotOf", desc := "(I)I" } : MethodName)) : Cond) ∈ x_W := x_inW (i := 398) (by decide +kernel) (by decide +kernel)
theorem xw_mMsg_87 : ((Cond.methodLink "TrainGuard$Message" (87 : Nat) ({ cls := "TrainGuard$Message", name := "readNumbers", desc := "(LTrainGuard$BitRow;I)V" } : MethodName)) : Cond) ∈ x_W := x_inW (i := 401) (by decide +kernel) (by decide +kernel)
theorem xw_mMsg_91 : ((Cond.methodLink "TrainGuard$Message" (91 : Nat) ({ cls := "TrainGuard$Message", name := "readMarks", desc := "(LTrainGuard$BitRow;)V" } : MethodName)) : Cond) ∈ x_W := x_inW (i := 405) (by decide +kernel) (by decide +kernel)
theorem xw_mMsg_104 : ((Cond.methodLink "TrainGuard$Message" (104 : Nat) ({ cls := "TrainGuard$MarkRow", name := "clear", desc := "()V" } : MethodName)) : Cond) ∈ x_W := x_inW (i := 409) (by decide +kernel) (by decide +kernel)
theorem xw_mMsg_107 : ((Cond.methodLink "TrainGuard$Message" (107 : Nat) ({ cls := "TrainGuard$Message", name := "takePlaceBehind", desc := "(LTrainGuard$BitRow;I)I" } : MethodName)) : Cond) ∈ x_W := x_inW (i := 413) (by decide +kernel) (by decide +kernel)
theorem xw_mMsg_111 : ((Cond.methodLink "TrainGuard$Message" (111 : Nat) ({ cls := "TrainGuard$MarkRow", name := "add", desc := "(III)V" } : MethodName)) : Cond) ∈ x_W := x_inW (i := 416) (by decide +kernel) (by decide +kernel)
theorem xw_mMsg_94 : ((Cond.methodLink "TrainGuard$Message" (94 : Nat) ({ cls := "TrainGuard$Message", name := "readAuthority", desc := "(LTrainGuard$BitRow;)V" } : MethodName)) : Cond) ∈ x_W := x_inW (i := 420) (by decide +kernel) (by decide +kernel)
theorem xw_mMsg_97 : ((Cond.methodLink "TrainGuard$Message" (97 : Nat) ({ cls := "TrainGuard$Message", name := "readSteps", desc := "(LTrainGuard$BitRow;LTrainGuard$SpanRow;Z)V" } : MethodName)) : Cond) ∈ x_W := x_inW (i := 424) (by decide +kernel) (by decide +kernel)
theorem xw_mMsg_121 : ((Cond.methodLink "TrainGuard$Message" (121 : Nat) ({ cls := "TrainGuard$SpanRow", name := "clear", desc := "()V" } : MethodName)) : Cond) ∈ x_W := x_inW (i := 428) (by decide +kernel) (by decide +kernel)
theorem xw_mMsg_122 : ((Cond.methodLink "TrainGuard$Message" (122 : Nat) ({ cls := "TrainGuard$Message", name := "takeLimit", desc := "(LTrainGuard$BitRow;)I" } : MethodName)) : Cond) ∈ x_W := x_inW (i := 432) (by decide +kernel) (by decide +kernel)
theorem xw_mMsg_141 : ((Cond.methodLink "TrainGuard$Message" (141 : Nat) ({ cls := "java/lang/Math", name := "min", desc := "(II)I" } : MethodName)) : Cond) ∈ x_W := x_inW (i := 435) (by decide +kernel) (by decide +kernel)
theorem xw_mMsg_125 : ((Cond.methodLink "TrainGuard$Message" (125 : Nat) ({ cls := "TrainGuard$SpanRow", name := "addStep", desc := "(II)V" } : MethodName)) : Cond) ∈ x_W := x_inW (i := 436) (by decide +kernel) (by decide +kernel)
theorem xw_c : ((Cond.constant "TrainGuard$SpanRow" (25 : Nat) (2147483647 : Int32)) : Cond) ∈ x_W := x_inW (i := 440) (by decide +kernel) (by decide +kernel)
theorem xw_mSpn_26 : ((Cond.methodLink "TrainGuard$SpanRow" (26 : Nat) ({ cls := "TrainGuard$SpanRow", name := "add", desc := "(III)V" } : MethodName)) : Cond) ∈ x_W := x_inW (i := 441) (by decide +kernel) (by decide +kernel)
theorem xw_mMsg_101 : ((Cond.methodLink "TrainGuard$Message" (101 : Nat) ({ cls := "TrainGuard$Message", name := "readRestriction", desc := "(LTrainGuard$BitRow;)V" } : MethodName)) : Cond) ∈ x_W := x_inW (i := 445) (by decide +kernel) (by decide +kernel)
theorem xw_mG_82 : ((Cond.methodLink "TrainGuard" (82 : Nat) ({ cls := "TrainGuard$BitRow", name := "clear", desc := "()V" } : MethodName)) : Cond) ∈ x_W := x_inW (i := 449) (by decide +kernel) (by decide +kernel)
theorem xw_mG_85 : ((Cond.methodLink "TrainGuard" (85 : Nat) ({ cls := "TrainGuard", name := "faultOfReceived", desc := "()I" } : MethodName)) : Cond) ∈ x_W := x_inW (i := 453) (by decide +kernel) (by decide +kernel)
theorem xw_mG_221 : ((Cond.methodLink "TrainGuard" (221 : Nat) ({ cls := "TrainGuard", name := "isGuided", desc := "()Z" } : MethodName)) : Cond) ∈ x_W := x_inW (i := 457) (by decide +kernel) (by decide +kernel)
theorem xw_mG_253 : ((Cond.methodLink "TrainGuard" (253 : Nat) ({ cls := "TrainGuard", name := "gradeWithEnd", desc := "(I)I" } : MethodName)) : Cond) ∈ x_W := x_inW (i := 461) (by decide +kernel) (by decide +kernel)
theorem xw_mG_193 : ((Cond.methodLink "TrainGuard" (193 : Nat) ({ cls := "TrainGuard", name := "isStopped", desc := "()Z" } : MethodName)) : Cond) ∈ x_W := x_inW (i := 465) (by decide +kernel) (by decide +kernel)
theorem xw_mG_274 : ((Cond.methodLink "TrainGuard" (274 : Nat) ({ cls := "TrainGuard", name := "lookAhead", desc := "(I)V" } : MethodName)) : Cond) ∈ x_W := x_inW (i := 469) (by decide +kernel) (by decide +kernel)
theorem xw_mG_197 : ((Cond.methodLink "TrainGuard" (197 : Nat) ({ cls := "TrainGuard", name := "ceilingNow", desc := "()I" } : MethodName)) : Cond) ∈ x_W := x_inW (i := 473) (by decide +kernel) (by decide +kernel)
theorem xw_mG_200 : ((Cond.methodLink "TrainGuard" (200 : Nat) ({ cls := "TrainGuard$Track", name := "leastLimit", desc := "(II)I" } : MethodName)) : Cond) ∈ x_W := x_inW (i := 477) (by decide +kernel) (by decide +kernel)
theorem xw_mTrk_47 : ((Cond.methodLink "TrainGuard$Track" (47 : Nat) ({ cls := "TrainGuard$SpanRow", name := "least", desc := "(II)I" } : MethodName)) : Cond) ∈ x_W := x_inW (i := 481) (by decide +kernel) (by decide +kernel)
theorem xw_mTrk_54 : ((Cond.methodLink "TrainGuard$Track" (54 : Nat) ({ cls := "java/lang/Math", name := "min", desc := "(II)I" } : MethodName)) : Cond) ∈ x_W := x_inW (i := 485) (by decide +kernel) (by decide +kernel)
theorem xw_mG_283 : ((Cond.methodLink "TrainGuard" (283 : Nat) ({ cls := "TrainGuard$Curves", name := "begin", desc := "(II)V" } : MethodName)) : Cond) ∈ x_W := x_inW (i := 486) (by decide +kernel) (by decide +kernel)
theorem xw_mG_286 : ((Cond.methodLink "TrainGuard" (286 : Nat) ({ cls := "TrainGuard", name := "addTarget", desc := "(II)V" } : MethodName)) : Cond) ∈ x_W := x_inW (i := 490) (by decide +kernel) (by decide +kernel)
theorem xw_mG_310 : ((Cond.methodLink "TrainGuard" (310 : Nat) ({ cls := "TrainGuard$SpanRow", name := "greatest", desc := "(II)I" } : MethodName)) : Cond) ∈ x_W := x_inW (i := 494) (by decide +kernel) (by decide +kernel)
theorem xw_mG_313 : ((Cond.methodLink "TrainGuard" (313 : Nat) ({ cls := "TrainGuard$Curves", name := "add", desc := "(III)V" } : MethodName)) : Cond) ∈ x_W := x_inW (i := 498) (by decide +kernel) (by decide +kernel)
theorem xw_mG_289 : ((Cond.methodLink "TrainGuard" (289 : Nat) ({ cls := "TrainGuard", name := "addTargetsOf", desc := "(LTrainGuard$SpanRow;)V" } : MethodName)) : Cond) ∈ x_W := x_inW (i := 502) (by decide +kernel) (by decide +kernel)
theorem xw_mG_277 : ((Cond.methodLink "TrainGuard" (277 : Nat) ({ cls := "TrainGuard$Curves", name := "gradeOf", desc := "(I)I" } : MethodName)) : Cond) ∈ x_W := x_inW (i := 506) (by decide +kernel) (by decide +kernel)
theorem xw_mCur_37 : ((Cond.methodLink "TrainGuard$Curves" (37 : Nat) ({ cls := "TrainGuard$Curves", name := "isOverEmergency", desc := "(I)Z" } : MethodName)) : Cond) ∈ x_W := x_inW (i := 510) (by decide +kernel) (by decide +kernel)
theorem xw_mCur_49 : ((Cond.methodLink "TrainGuard$Curves" (49 : Nat) ({ cls := "TrainGuard$Curves", name := "isOver", desc := "(IIIII)Z" } : MethodName)) : Cond) ∈ x_W := x_inW (i := 514) (by decide +kernel) (by decide +kernel)
theorem xw_oCur_53 : ((Cond.methodLinkNest "TrainGuard$Curves" (53 : Nat) ({ cls := "TrainGuard", name := "brakingWay", desc := "(III)I" } : MethodName) "TrainGuard") : Cond) ∈ x_N := x_inN (i := 518) (by decide +kernel) (by decide +kernel)
theorem xw_mCur_41 : ((Cond.methodLink "TrainGuard$Curves" (41 : Nat) ({ cls := "TrainGuard$Curves", name := "isOverService", desc := "(II)Z" } : MethodName)) : Cond) ∈ x_W := x_inW (i := 521) (by decide +kernel) (by decide +kernel)
theorem xw_mG_263 : ((Cond.methodLink "TrainGuard" (263 : Nat) ({ cls := "TrainGuard$Message", name := "endedNumber", desc := "()I" } : MethodName)) : Cond) ∈ x_W := x_inW (i := 525) (by decide +kernel) (by decide +kernel)
theorem xw_mG_266 : ((Cond.methodLink "TrainGuard" (266 : Nat) ({ cls := "TrainGuard$Restrictions", name := "hasRoom", desc := "(II)Z" } : MethodName)) : Cond) ∈ x_W := x_inW (i := 529) (by decide +kernel) (by decide +kernel)
theorem xw_mRes_26 : ((Cond.methodLink "TrainGuard$Restrictions" (26 : Nat) ({ cls := "TrainGuard$Restrictions", name := "indexOf", desc := "(I)I" } : MethodName)) : Cond) ∈ x_W := x_inW (i := 533) (by decide +kernel) (by decide +kernel)
theorem xw_mG_89 : ((Cond.methodLink "TrainGuard" (89 : Nat) ({ cls := "TrainGuard", name := "write", desc := "(II)V" } : MethodName)) : Cond) ∈ x_W := x_inW (i := 537) (by decide +kernel) (by decide +kernel)
theorem xw_mG_215 : ((Cond.methodLink "TrainGuard" (215 : Nat) ({ cls := "TrainGuard$Notes", name := "add", desc := "(I)V" } : MethodName)) : Cond) ∈ x_W := x_inW (i := 541) (by decide +kernel) (by decide +kernel)
theorem xw_mG_98 : ((Cond.methodLink "TrainGuard" (98 : Nat) ({ cls := "TrainGuard", name := "obeyReceived", desc := "()V" } : MethodName)) : Cond) ∈ x_W := x_inW (i := 545) (by decide +kernel) (by decide +kernel)
theorem xw_mG_224 : ((Cond.methodLink "TrainGuard" (224 : Nat) ({ cls := "TrainGuard", name := "trip", desc := "()V" } : MethodName)) : Cond) ∈ x_W := x_inW (i := 549) (by decide +kernel) (by decide +kernel)
theorem xw_mG_140 : ((Cond.methodLink "TrainGuard" (140 : Nat) ({ cls := "TrainGuard", name := "become", desc := "(I)V" } : MethodName)) : Cond) ∈ x_W := x_inW (i := 553) (by decide +kernel) (by decide +kernel)
theorem xw_mG_218 : ((Cond.methodLink "TrainGuard" (218 : Nat) ({ cls := "TrainGuard$Track", name := "forget", desc := "()V" } : MethodName)) : Cond) ∈ x_W := x_inW (i := 557) (by decide +kernel) (by decide +kernel)
theorem xw_mTrk_43 : ((Cond.methodLink "TrainGuard$Track" (43 : Nat) ({ cls := "TrainGuard$SpanRow", name := "clear", desc := "()V" } : MethodName)) : Cond) ∈ x_W := x_inW (i := 561) (by decide +kernel) (by decide +kernel)
theorem xw_mTrk_46 : ((Cond.methodLink "TrainGuard$Track" (46 : Nat) ({ cls := "TrainGuard$MarkRow", name := "clear", desc := "()V" } : MethodName)) : Cond) ∈ x_W := x_inW (i := 562) (by decide +kernel) (by decide +kernel)
theorem xw_mG_271 : ((Cond.methodLink "TrainGuard" (271 : Nat) ({ cls := "TrainGuard$Track", name := "put", desc := "(LTrainGuard$Message;I)V" } : MethodName)) : Cond) ∈ x_W := x_inW (i := 563) (by decide +kernel) (by decide +kernel)
theorem xw_mTrk_68 : ((Cond.methodLink "TrainGuard$Track" (68 : Nat) ({ cls := "TrainGuard$Restrictions", name := "remove", desc := "(I)V" } : MethodName)) : Cond) ∈ x_W := x_inW (i := 567) (by decide +kernel) (by decide +kernel)
theorem xw_mRes_30 : ((Cond.methodLink "TrainGuard$Restrictions" (30 : Nat) ({ cls := "TrainGuard$SpanRow", name := "fillFromLast", desc := "(I)V" } : MethodName)) : Cond) ∈ x_W := x_inW (i := 571) (by decide +kernel) (by decide +kernel)
theorem xw_mTrk_84 : ((Cond.methodLink "TrainGuard$Track" (84 : Nat) ({ cls := "TrainGuard$Restrictions", name := "put", desc := "(IIII)V" } : MethodName)) : Cond) ∈ x_W := x_inW (i := 575) (by decide +kernel) (by decide +kernel)
theorem xw_mRes_34 : ((Cond.methodLink "TrainGuard$Restrictions" (34 : Nat) ({ cls := "TrainGuard$Restrictions", name := "remove", desc := "(I)V" } : MethodName)) : Cond) ∈ x_W := x_inW (i := 579) (by decide +kernel) (by decide +kernel)
theorem xw_mRes_37 : ((Cond.methodLink "TrainGuard$Restrictions" (37 : Nat) ({ cls := "TrainGuard$SpanRow", name := "add", desc := "(III)V" } : MethodName)) : Cond) ∈ x_W := x_inW (i := 580) (by decide +kernel) (by decide +kernel)
theorem xw_mTrk_98 : ((Cond.methodLink "TrainGuard$Track" (98 : Nat) ({ cls := "TrainGuard$SpanRow", name := "copyFrom", desc := "(LTrainGuard$SpanRow;)V" } : MethodName)) : Cond) ∈ x_W := x_inW (i := 581) (by decide +kernel) (by decide +kernel)
theorem xw_mSpn_30 : ((Cond.methodLink "TrainGuard$SpanRow" (30 : Nat) ({ cls := "TrainGuard$SpanRow", name := "clear", desc := "()V" } : MethodName)) : Cond) ∈ x_W := x_inW (i := 585) (by decide +kernel) (by decide +kernel)
theorem xw_mTrk_104 : ((Cond.methodLink "TrainGuard$Track" (104 : Nat) ({ cls := "TrainGuard$MarkRow", name := "copyFrom", desc := "(LTrainGuard$MarkRow;)V" } : MethodName)) : Cond) ∈ x_W := x_inW (i := 586) (by decide +kernel) (by decide +kernel)
theorem xw_mMrk_29 : ((Cond.methodLink "TrainGuard$MarkRow" (29 : Nat) ({ cls := "TrainGuard$MarkRow", name := "clear", desc := "()V" } : MethodName)) : Cond) ∈ x_W := x_inW (i := 590) (by decide +kernel) (by decide +kernel)
theorem xw_mMrk_32 : ((Cond.methodLink "TrainGuard$MarkRow" (32 : Nat) ({ cls := "TrainGuard$MarkRow", name := "add", desc := "(III)V" } : MethodName)) : Cond) ∈ x_W := x_inW (i := 591) (by decide +kernel) (by decide +kernel)
theorem xw_mTrk_107 : ((Cond.methodLink "TrainGuard$Track" (107 : Nat) ({ cls := "TrainGuard$MarkRow", name := "passBehind", desc := "(I)Z" } : MethodName)) : Cond) ∈ x_W := x_inW (i := 592) (by decide +kernel) (by decide +kernel)
theorem xw_mMrk_36 : ((Cond.methodLink "TrainGuard$MarkRow" (36 : Nat) ({ cls := "TrainGuard$MarkRow", name := "latest", desc := "(I)I" } : MethodName)) : Cond) ∈ x_W := x_inW (i := 596) (by decide +kernel) (by decide +kernel)
theorem xw_mG_240 : ((Cond.methodLink "TrainGuard" (240 : Nat) ({ cls := "TrainGuard$SpanRow", name := "isEmpty", desc := "()Z" } : MethodName)) : Cond) ∈ x_W := x_inW (i := 600) (by decide +kernel) (by decide +kernel)
theorem xw_mG_245 : ((Cond.methodLink "TrainGuard" (245 : Nat) ({ cls := "TrainGuard", name := "enterModeOfAuthority", desc := "()V" } : MethodName)) : Cond) ∈ x_W := x_inW (i := 604) (by decide +kernel) (by decide +kernel)
theorem xw_mLaw_31 : ((Cond.methodLink "TrainGuardLaw" (31 : Nat) ({ cls := "TrainGuard", name := "mark", desc := "(I)Z" } : MethodName)) : Cond) ∈ x_W := x_inW (i := 608) (by decide +kernel) (by decide +kernel)
theorem xw_mG_105 : ((Cond.methodLink "TrainGuard" (105 : Nat) ({ cls := "TrainGuard$MarkRow", name := "firstOpen", desc := "(I)I" } : MethodName)) : Cond) ∈ x_W := x_inW (i := 612) (by decide +kernel) (by decide +kernel)
theorem xw_mG_111 : ((Cond.methodLink "TrainGuard" (111 : Nat) ({ cls := "TrainGuard$MarkRow", name := "anyOpenBefore", desc := "(I)Z" } : MethodName)) : Cond) ∈ x_W := x_inW (i := 616) (by decide +kernel) (by decide +kernel)
theorem xw_mG_118 : ((Cond.methodLink "TrainGuard" (118 : Nat) ({ cls := "TrainGuard$MarkRow", name := "earliest", desc := "(I)I" } : MethodName)) : Cond) ∈ x_W := x_inW (i := 620) (by decide +kernel) (by decide +kernel)
theorem xw_mG_124 : ((Cond.methodLink "TrainGuard" (124 : Nat) ({ cls := "TrainGuard$MarkRow", name := "latest", desc := "(I)I" } : MethodName)) : Cond) ∈ x_W := x_inW (i := 624) (by decide +kernel) (by decide +kernel)
theorem xw_mG_127 : ((Cond.methodLink "TrainGuard" (127 : Nat) ({ cls := "TrainGuard$MarkRow", name := "passUpTo", desc := "(I)V" } : MethodName)) : Cond) ∈ x_W := x_inW (i := 625) (by decide +kernel) (by decide +kernel)
theorem xw_mG_131 : ((Cond.methodLink "TrainGuard" (131 : Nat) ({ cls := "TrainGuard", name := "faultOfMarks", desc := "()V" } : MethodName)) : Cond) ∈ x_W := x_inW (i := 629) (by decide +kernel) (by decide +kernel)
theorem xw_mG_134 : ((Cond.methodLink "TrainGuard" (134 : Nat) ({ cls := "TrainGuard$Front", name := "narrow", desc := "(II)V" } : MethodName)) : Cond) ∈ x_W := x_inW (i := 633) (by decide +kernel) (by decide +kernel)
theorem xw_mFrt_19 : ((Cond.methodLink "TrainGuard$Front" (19 : Nat) ({ cls := "java/lang/Math", name := "max", desc := "(II)I" } : MethodName)) : Cond) ∈ x_W := x_inW (i := 637) (by decide +kernel) (by decide +kernel)
theorem xw_mFrt_25 : ((Cond.methodLink "TrainGuard$Front" (25 : Nat) ({ cls := "java/lang/Math", name := "min", desc := "(II)I" } : MethodName)) : Cond) ∈ x_W := x_inW (i := 638) (by decide +kernel) (by decide +kernel)
theorem xw_mLaw_36 : ((Cond.methodLink "TrainGuardLaw" (36 : Nat) ({ cls := "TrainGuard", name := "cycle", desc := "(I)I" } : MethodName)) : Cond) ∈ x_W := x_inW (i := 639) (by decide +kernel) (by decide +kernel)
theorem xw_mG_143 : ((Cond.methodLink "TrainGuard" (143 : Nat) ({ cls := "TrainGuard$Front", name := "advance", desc := "(I)V" } : MethodName)) : Cond) ∈ x_W := x_inW (i := 643) (by decide +kernel) (by decide +kernel)
theorem xw_mG_146 : ((Cond.methodLink "TrainGuard" (146 : Nat) ({ cls := "TrainGuard", name := "lookForTrip", desc := "()V" } : MethodName)) : Cond) ∈ x_W := x_inW (i := 647) (by decide +kernel) (by decide +kernel)
theorem xw_mG_227 : ((Cond.methodLink "TrainGuard" (227 : Nat) ({ cls := "TrainGuard$MarkRow", name := "passBehind", desc := "(I)Z" } : MethodName)) : Cond) ∈ x_W := x_inW (i := 651) (by decide +kernel) (by decide +kernel)
theorem xw_mG_156 : ((Cond.methodLink "TrainGuard" (156 : Nat) ({ cls := "TrainGuard", name := "gradeNow", desc := "()I" } : MethodName)) : Cond) ∈ x_W := x_inW (i := 652) (by decide +kernel) (by decide +kernel)
theorem xw_mG_159 : ((Cond.methodLink "TrainGuard" (159 : Nat) ({ cls := "TrainGuard$Brakes", name := "apply", desc := "(IZZ)Z" } : MethodName)) : Cond) ∈ x_W := x_inW (i := 656) (by decide +kernel) (by decide +kernel)
theorem xw_mLaw_41 : ((Cond.methodLink "TrainGuardLaw" (41 : Nat) ({ cls := "TrainGuard", name := "driver", desc := "(I)Z" } : MethodName)) : Cond) ∈ x_W := x_inW (i := 660) (by decide +kernel) (by decide +kernel)
theorem xw_mG_166 : ((Cond.methodLink "TrainGuard" (166 : Nat) ({ cls := "TrainGuard", name := "driverMay", desc := "(I)Z" } : MethodName)) : Cond) ∈ x_W := x_inW (i := 664) (by decide +kernel) (by decide +kernel)
theorem xw_mG_169 : ((Cond.methodLink "TrainGuard" (169 : Nat) ({ cls := "TrainGuard", name := "start", desc := "()V" } : MethodName)) : Cond) ∈ x_W := x_inW (i := 668) (by decide +kernel) (by decide +kernel)
theorem xw_mLaw_45 : ((Cond.methodLink "TrainGuardLaw" (45 : Nat) ({ cls := "TrainGuard", name := "mode", desc := "()I" } : MethodName)) : Cond) ∈ x_W := x_inW (i := 672) (by decide +kernel) (by decide +kernel)
theorem xw_mLaw_49 : ((Cond.methodLink "TrainGuardLaw" (49 : Nat) ({ cls := "TrainGuard", name := "state", desc := "(I)I" } : MethodName)) : Cond) ∈ x_W := x_inW (i := 676) (by decide +kernel) (by decide +kernel)
theorem xw_mLaw_53 : ((Cond.methodLink "TrainGuardLaw" (53 : Nat) ({ cls := "TrainGuard", name := "display", desc := "(I)I" } : MethodName)) : Cond) ∈ x_W := x_inW (i := 680) (by decide +kernel) (by decide +kernel)
theorem xw_mG_178 : ((Cond.methodLink "TrainGuard" (178 : Nat) ({ cls := "TrainGuard", name := "allowedNow", desc := "()I" } : MethodName)) : Cond) ∈ x_W := x_inW (i := 684) (by decide +kernel) (by decide +kernel)
theorem xw_mG_280 : ((Cond.methodLink "TrainGuard" (280 : Nat) ({ cls := "TrainGuard$Curves", name := "allowed", desc := "()I" } : MethodName)) : Cond) ∈ x_W := x_inW (i := 688) (by decide +kernel) (by decide +kernel)
theorem xw_mCur_45 : ((Cond.methodLink "TrainGuard$Curves" (45 : Nat) ({ cls := "TrainGuard$Curves", name := "gradeOf", desc := "(I)I" } : MethodName)) : Cond) ∈ x_W := x_inW (i := 692) (by decide +kernel) (by decide +kernel)
theorem xw_mLaw_57 : ((Cond.methodLink "TrainGuardLaw" (57 : Nat) ({ cls := "TrainGuard", name := "limit", desc := "(I)I" } : MethodName)) : Cond) ∈ x_W := x_inW (i := 693) (by decide +kernel) (by decide +kernel)
theorem xw_mLaw_61 : ((Cond.methodLink "TrainGuardLaw" (61 : Nat) ({ cls := "TrainGuard", name := "way", desc := "(III)I" } : MethodName)) : Cond) ∈ x_W := x_inW (i := 697) (by decide +kernel) (by decide +kernel)
theorem xw_mG_203 : ((Cond.methodLink "TrainGuard" (203 : Nat) ({ cls := "TrainGuard", name := "brakingWay", desc := "(III)I" } : MethodName)) : Cond) ∈ x_W := x_inW (i := 701) (by decide +kernel) (by decide +kernel)
theorem xw_mLaw_66 : ((Cond.methodLink "TrainGuardLaw" (66 : Nat) ({ cls := "TrainGuard", name := "marks", desc := "(I)I" } : MethodName)) : Cond) ∈ x_W := x_inW (i := 702) (by decide +kernel) (by decide +kernel)
theorem xw_mG_206 : ((Cond.methodLink "TrainGuard" (206 : Nat) ({ cls := "TrainGuard$MarkRow", name := "shown", desc := "(I)I" } : MethodName)) : Cond) ∈ x_W := x_inW (i := 706) (by decide +kernel) (by decide +kernel)
theorem xw_mLaw_70 : ((Cond.methodLink "TrainGuardLaw" (70 : Nat) ({ cls := "TrainGuard", name := "note", desc := "(I)I" } : MethodName)) : Cond) ∈ x_W := x_inW (i := 710) (by decide +kernel) (by decide +kernel)
theorem xw_mG_209 : ((Cond.methodLink "TrainGuard" (209 : Nat) ({ cls := "TrainGuard$Notes", name := "get", desc := "(I)I" } : MethodName)) : Cond) ∈ x_W := x_inW (i := 714) (by decide +kernel) (by decide +kernel)
theorem xw_mLaw_9 : ((Cond.methodLink "TrainGuardLaw" (9 : Nat) ({ cls := "TrainGuardLaw", name := "cell", desc := "([II)I" } : MethodName)) : Cond) ∈ x_W := x_inW (i := 718) (by decide +kernel) (by decide +kernel)
theorem xw_kLaw_18 : ((Cond.classLink "TrainGuardLaw" (18 : Nat) "TrainGuardModel") : Cond) ∈ x_W := x_inW (i := 721) (by decide +kernel) (by decide +kernel)
theorem xw_nMod : ((Cond.instantiable "TrainGuardModel" (44 : Nat)) : Cond) ∈ x_W := x_inW (i := 722) (by decide +kernel) (by decide +kernel)
theorem xw_mLaw_20 : ((Cond.methodLink "TrainGuardLaw" (20 : Nat) ({ cls := "TrainGuardModel", name := "<init>", desc := "(III)V" } : MethodName)) : Cond) ∈ x_W := x_inW (i := 723) (by decide +kernel) (by decide +kernel)
theorem xw_mMod_1 : ((Cond.methodLink "TrainGuardModel" (1 : Nat) ({ cls := "java/lang/Object", name := "<init>", desc := "()V" } : MethodName)) : Cond) ∈ x_W := x_inW (i := 726) (by decide +kernel) (by decide +kernel)
theorem xw_fMod_66 : ((Cond.fieldLink "TrainGuardModel" (66 : Nat) "TrainGuardModel" "emergency" "I") : Cond) ∈ x_W := x_inW (i := 727) (by decide +kernel) (by decide +kernel)
theorem xw_fMod_69 : ((Cond.fieldLink "TrainGuardModel" (69 : Nat) "TrainGuardModel" "service" "I") : Cond) ∈ x_W := x_inW (i := 728) (by decide +kernel) (by decide +kernel)
theorem xw_fMod_72 : ((Cond.fieldLink "TrainGuardModel" (72 : Nat) "TrainGuardModel" "length" "I") : Cond) ∈ x_W := x_inW (i := 729) (by decide +kernel) (by decide +kernel)
theorem xw_fMod_189 : ((Cond.fieldLink "TrainGuardModel" (189 : Nat) "TrainGuardModel" "low" "I") : Cond) ∈ x_W := x_inW (i := 730) (by decide +kernel) (by decide +kernel)
theorem xw_fMod_195 : ((Cond.fieldLink "TrainGuardModel" (195 : Nat) "TrainGuardModel" "high" "I") : Cond) ∈ x_W := x_inW (i := 731) (by decide +kernel) (by decide +kernel)
theorem xw_fMod_158 : ((Cond.fieldLink "TrainGuardModel" (158 : Nat) "TrainGuardModel" "top" "I") : Cond) ∈ x_W := x_inW (i := 732) (by decide +kernel) (by decide +kernel)
theorem xw_fMod_81 : ((Cond.fieldLink "TrainGuardModel" (81 : Nat) "TrainGuardModel" "mode" "I") : Cond) ∈ x_W := x_inW (i := 733) (by decide +kernel) (by decide +kernel)
theorem xw_fMod_75 : ((Cond.fieldLink "TrainGuardModel" (75 : Nat) "TrainGuardModel" "cycles" "I") : Cond) ∈ x_W := x_inW (i := 734) (by decide +kernel) (by decide +kernel)
theorem xw_fMod_88 : ((Cond.fieldLink "TrainGuardModel" (88 : Nat) "TrainGuardModel" "authority" "Z") : Cond) ∈ x_W := x_inW (i := 735) (by decide +kernel) (by decide +kernel)
theorem xw_fMod_151 : ((Cond.fieldLink "TrainGuardModel" (151 : Nat) "TrainGuardModel" "end" "I") : Cond) ∈ x_W := x_inW (i := 736) (by decide +kernel) (by decide +kernel)
theorem xw_fMod_183 : ((Cond.fieldLink "TrainGuardModel" (183 : Nat) "TrainGuardModel" "overlap" "I") : Cond) ∈ x_W := x_inW (i := 737) (by decide +kernel) (by decide +kernel)
theorem xw_fMod_108 : ((Cond.fieldLink "TrainGuardModel" (108 : Nat) "TrainGuardModel" "authorityMode" "I") : Cond) ∈ x_W := x_inW (i := 738) (by decide +kernel) (by decide +kernel)
theorem xw_fMod_216 : ((Cond.fieldLink "TrainGuardModel" (216 : Nat) "TrainGuardModel" "staffEnd" "I") : Cond) ∈ x_W := x_inW (i := 739) (by decide +kernel) (by decide +kernel)
theorem xw_fMod_92 : ((Cond.fieldLink "TrainGuardModel" (92 : Nat) "TrainGuardModel" "steps" "I") : Cond) ∈ x_W := x_inW (i := 740) (by decide +kernel) (by decide +kernel)
theorem xw_fMod_7 : ((Cond.fieldLink "TrainGuardModel" (7 : Nat) "TrainGuardModel" "stepPlace" "[I") : Cond) ∈ x_W := x_inW (i := 741) (by decide +kernel) (by decide +kernel)
theorem xw_fMod_13 : ((Cond.fieldLink "TrainGuardModel" (13 : Nat) "TrainGuardModel" "stepLimit" "[I") : Cond) ∈ x_W := x_inW (i := 742) (by decide +kernel) (by decide +kernel)
theorem xw_fMod_95 : ((Cond.fieldLink "TrainGuardModel" (95 : Nat) "TrainGuardModel" "grades" "I") : Cond) ∈ x_W := x_inW (i := 743) (by decide +kernel) (by decide +kernel)
theorem xw_fMod_16 : ((Cond.fieldLink "TrainGuardModel" (16 : Nat) "TrainGuardModel" "gradePlace" "[I") : Cond) ∈ x_W := x_inW (i := 744) (by decide +kernel) (by decide +kernel)
theorem xw_fMod_19 : ((Cond.fieldLink "TrainGuardModel" (19 : Nat) "TrainGuardModel" "gradeFall" "[I") : Cond) ∈ x_W := x_inW (i := 745) (by decide +kernel) (by decide +kernel)
theorem xw_fMod_98 : ((Cond.fieldLink "TrainGuardModel" (98 : Nat) "TrainGuardModel" "marked" "I") : Cond) ∈ x_W := x_inW (i := 746) (by decide +kernel) (by decide +kernel)
theorem xw_fMod_22 : ((Cond.fieldLink "TrainGuardModel" (22 : Nat) "TrainGuardModel" "markPlace" "[I") : Cond) ∈ x_W := x_inW (i := 747) (by decide +kernel) (by decide +kernel)
theorem xw_fMod_25 : ((Cond.fieldLink "TrainGuardModel" (25 : Nat) "TrainGuardModel" "markNumber" "[I") : Cond) ∈ x_W := x_inW (i := 748) (by decide +kernel) (by decide +kernel)
theorem xw_fMod_28 : ((Cond.fieldLink "TrainGuardModel" (28 : Nat) "TrainGuardModel" "markAccuracy" "[I") : Cond) ∈ x_W := x_inW (i := 749) (by decide +kernel) (by decide +kernel)
theorem xw_fMod_31 : ((Cond.fieldLink "TrainGuardModel" (31 : Nat) "TrainGuardModel" "passed" "[Z") : Cond) ∈ x_W := x_inW (i := 750) (by decide +kernel) (by decide +kernel)
theorem xw_fMod_171 : ((Cond.fieldLink "TrainGuardModel" (171 : Nat) "TrainGuardModel" "restrictions" "I") : Cond) ∈ x_W := x_inW (i := 751) (by decide +kernel) (by decide +kernel)
theorem xw_fMod_35 : ((Cond.fieldLink "TrainGuardModel" (35 : Nat) "TrainGuardModel" "slowNumber" "[I") : Cond) ∈ x_W := x_inW (i := 752) (by decide +kernel) (by decide +kernel)
theorem xw_fMod_38 : ((Cond.fieldLink "TrainGuardModel" (38 : Nat) "TrainGuardModel" "slowPlace" "[I") : Cond) ∈ x_W := x_inW (i := 753) (by decide +kernel) (by decide +kernel)
theorem xw_fMod_41 : ((Cond.fieldLink "TrainGuardModel" (41 : Nat) "TrainGuardModel" "slowLength" "[I") : Cond) ∈ x_W := x_inW (i := 754) (by decide +kernel) (by decide +kernel)
theorem xw_fMod_44 : ((Cond.fieldLink "TrainGuardModel" (44 : Nat) "TrainGuardModel" "slowLimit" "[I") : Cond) ∈ x_W := x_inW (i := 755) (by decide +kernel) (by decide +kernel)
theorem xw_fMod_101 : ((Cond.fieldLink "TrainGuardModel" (101 : Nat) "TrainGuardModel" "asked" "Z") : Cond) ∈ x_W := x_inW (i := 756) (by decide +kernel) (by decide +kernel)
theorem xw_fMod_111 : ((Cond.fieldLink "TrainGuardModel" (111 : Nat) "TrainGuardModel" "askedCycles" "I") : Cond) ∈ x_W := x_inW (i := 757) (by decide +kernel) (by decide +kernel)
theorem xw_fMod_222 : ((Cond.fieldLink "TrainGuardModel" (222 : Nat) "TrainGuardModel" "hard" "Z") : Cond) ∈ x_W := x_inW (i := 758) (by decide +kernel) (by decide +kernel)
theorem xw_fMod_225 : ((Cond.fieldLink "TrainGuardModel" (225 : Nat) "TrainGuardModel" "soft" "Z") : Cond) ∈ x_W := x_inW (i := 759) (by decide +kernel) (by decide +kernel)
theorem xw_fMod_228 : ((Cond.fieldLink "TrainGuardModel" (228 : Nat) "TrainGuardModel" "command" "I") : Cond) ∈ x_W := x_inW (i := 760) (by decide +kernel) (by decide +kernel)
theorem xw_fMod_47 : ((Cond.fieldLink "TrainGuardModel" (47 : Nat) "TrainGuardModel" "latest" "I") : Cond) ∈ x_W := x_inW (i := 761) (by decide +kernel) (by decide +kernel)
theorem xw_fMod_114 : ((Cond.fieldLink "TrainGuardModel" (114 : Nat) "TrainGuardModel" "size" "I") : Cond) ∈ x_W := x_inW (i := 762) (by decide +kernel) (by decide +kernel)
theorem xw_fMod_51 : ((Cond.fieldLink "TrainGuardModel" (51 : Nat) "TrainGuardModel" "row" "[I") : Cond) ∈ x_W := x_inW (i := 763) (by decide +kernel) (by decide +kernel)
theorem xw_fMod_120 : ((Cond.fieldLink "TrainGuardModel" (120 : Nat) "TrainGuardModel" "next" "I") : Cond) ∈ x_W := x_inW (i := 764) (by decide +kernel) (by decide +kernel)
theorem xw_fMod_117 : ((Cond.fieldLink "TrainGuardModel" (117 : Nat) "TrainGuardModel" "fault" "I") : Cond) ∈ x_W := x_inW (i := 765) (by decide +kernel) (by decide +kernel)
theorem xw_fMod_54 : ((Cond.fieldLink "TrainGuardModel" (54 : Nat) "TrainGuardModel" "came" "[Z") : Cond) ∈ x_W := x_inW (i := 766) (by decide +kernel) (by decide +kernel)
theorem xw_fMod_57 : ((Cond.fieldLink "TrainGuardModel" (57 : Nat) "TrainGuardModel" "count" "[I") : Cond) ∈ x_W := x_inW (i := 767) (by decide +kernel) (by decide +kernel)
theorem xw_fMod_60 : ((Cond.fieldLink "TrainGuardModel" (60 : Nat) "TrainGuardModel" "said" "[I") : Cond) ∈ x_W := x_inW (i := 768) (by decide +kernel) (by decide +kernel)
theorem xw_fMod_78 : ((Cond.fieldLink "TrainGuardModel" (78 : Nat) "TrainGuardModel" "notes" "I") : Cond) ∈ x_W := x_inW (i := 769) (by decide +kernel) (by decide +kernel)
theorem xw_fMod_63 : ((Cond.fieldLink "TrainGuardModel" (63 : Nat) "TrainGuardModel" "noted" "[I") : Cond) ∈ x_W := x_inW (i := 770) (by decide +kernel) (by decide +kernel)
theorem xw_mLaw_25 : ((Cond.methodLink "TrainGuardLaw" (25 : Nat) ({ cls := "TrainGuardModel", name := "bits", desc := "(II)Z" } : MethodName)) : Cond) ∈ x_W := x_inW (i := 860) (by decide +kernel) (by decide +kernel)
theorem xw_mLaw_30 : ((Cond.methodLink "TrainGuardLaw" (30 : Nat) ({ cls := "TrainGuardModel", name := "message", desc := "()I" } : MethodName)) : Cond) ∈ x_W := x_inW (i := 864) (by decide +kernel) (by decide +kernel)
theorem xw_mMod_123 : ((Cond.methodLink "TrainGuardModel" (123 : Nat) ({ cls := "TrainGuardModel", name := "read", desc := "(I)I" } : MethodName)) : Cond) ∈ x_W := x_inW (i := 868) (by decide +kernel) (by decide +kernel)
theorem xw_mMod_130 : ((Cond.methodLink "TrainGuardModel" (130 : Nat) ({ cls := "TrainGuardModel", name := "check", desc := "(ZI)V" } : MethodName)) : Cond) ∈ x_W := x_inW (i := 872) (by decide +kernel) (by decide +kernel)
theorem xw_mMod_148 : ((Cond.methodLink "TrainGuardModel" (148 : Nat) ({ cls := "TrainGuardModel", name := "packets", desc := "()V" } : MethodName)) : Cond) ∈ x_W := x_inW (i := 876) (by decide +kernel) (by decide +kernel)
theorem xw_mMod_127 : ((Cond.methodLink "TrainGuardModel" (127 : Nat) ({ cls := "TrainGuardModel", name := "slotOf", desc := "(I)I" } : MethodName)) : Cond) ∈ x_W := x_inW (i := 880) (by decide +kernel) (by decide +kernel)
theorem xw_mMod_134 : ((Cond.methodLink "TrainGuardModel" (134 : Nat) ({ cls := "TrainGuardModel", name := "numbers", desc := "(I)V" } : MethodName)) : Cond) ∈ x_W := x_inW (i := 883) (by decide +kernel) (by decide +kernel)
theorem xw_mMod_137 : ((Cond.methodLink "TrainGuardModel" (137 : Nat) ({ cls := "TrainGuardModel", name := "tell", desc := "(IIII)V" } : MethodName)) : Cond) ∈ x_W := x_inW (i := 887) (by decide +kernel) (by decide +kernel)
theorem xw_mMod_141 : ((Cond.methodLink "TrainGuardModel" (141 : Nat) ({ cls := "TrainGuardModel", name := "told", desc := "(III)I" } : MethodName)) : Cond) ∈ x_W := x_inW (i := 891) (by decide +kernel) (by decide +kernel)
theorem xw_mMod_145 : ((Cond.methodLink "TrainGuardModel" (145 : Nat) ({ cls := "TrainGuardModel", name := "limitOf", desc := "(I)I" } : MethodName)) : Cond) ∈ x_W := x_inW (i := 895) (by decide +kernel) (by decide +kernel)
theorem xw_mMod_154 : ((Cond.methodLink "TrainGuardModel" (154 : Nat) ({ cls := "TrainGuardModel", name := "watched", desc := "()Z" } : MethodName)) : Cond) ∈ x_W := x_inW (i := 898) (by decide +kernel) (by decide +kernel)
theorem xw_mMod_161 : ((Cond.methodLink "TrainGuardModel" (161 : Nat) ({ cls := "TrainGuardModel", name := "grade", desc := "(II)I" } : MethodName)) : Cond) ∈ x_W := x_inW (i := 902) (by decide +kernel) (by decide +kernel)
theorem xw_mMod_208 : ((Cond.methodLink "TrainGuardModel" (208 : Nat) ({ cls := "TrainGuardModel", name := "ceiling", desc := "()I" } : MethodName)) : Cond) ∈ x_W := x_inW (i := 906) (by decide +kernel) (by decide +kernel)
theorem xw_mMod_192 : ((Cond.methodLink "TrainGuardModel" (192 : Nat) ({ cls := "TrainGuardModel", name := "least", desc := "(II)I" } : MethodName)) : Cond) ∈ x_W := x_inW (i := 910) (by decide +kernel) (by decide +kernel)
theorem xw_mMod_212 : ((Cond.methodLink "TrainGuardModel" (212 : Nat) ({ cls := "TrainGuardModel", name := "over", desc := "(IIIII)Z" } : MethodName)) : Cond) ∈ x_W := x_inW (i := 914) (by decide +kernel) (by decide +kernel)
theorem xw_mMod_204 : ((Cond.methodLink "TrainGuardModel" (204 : Nat) ({ cls := "TrainGuardModel", name := "past", desc := "(IIIIII)Z" } : MethodName)) : Cond) ∈ x_W := x_inW (i := 918) (by decide +kernel) (by decide +kernel)
theorem xw_mMod_201 : ((Cond.methodLink "TrainGuardModel" (201 : Nat) ({ cls := "TrainGuardModel", name := "fall", desc := "(I)I" } : MethodName)) : Cond) ∈ x_W := x_inW (i := 922) (by decide +kernel) (by decide +kernel)
theorem xw_mMod_198 : ((Cond.methodLink "TrainGuardModel" (198 : Nat) ({ cls := "TrainGuardModel", name := "braking", desc := "(III)I" } : MethodName)) : Cond) ∈ x_W := x_inW (i := 926) (by decide +kernel) (by decide +kernel)
theorem xw_mMod_165 : ((Cond.methodLink "TrainGuardModel" (165 : Nat) ({ cls := "TrainGuardModel", name := "fits", desc := "()Z" } : MethodName)) : Cond) ∈ x_W := x_inW (i := 929) (by decide +kernel) (by decide +kernel)
theorem xw_mMod_84 : ((Cond.methodLink "TrainGuardModel" (84 : Nat) ({ cls := "TrainGuardModel", name := "write", desc := "(II)V" } : MethodName)) : Cond) ∈ x_W := x_inW (i := 933) (by decide +kernel) (by decide +kernel)
theorem xw_mMod_168 : ((Cond.methodLink "TrainGuardModel" (168 : Nat) ({ cls := "TrainGuardModel", name := "take", desc := "(II)V" } : MethodName)) : Cond) ∈ x_W := x_inW (i := 937) (by decide +kernel) (by decide +kernel)
theorem xw_mMod_174 : ((Cond.methodLink "TrainGuardModel" (174 : Nat) ({ cls := "TrainGuardModel", name := "trips", desc := "()V" } : MethodName)) : Cond) ∈ x_W := x_inW (i := 941) (by decide +kernel) (by decide +kernel)
theorem xw_mMod_104 : ((Cond.methodLink "TrainGuardModel" (104 : Nat) ({ cls := "TrainGuardModel", name := "become", desc := "(I)V" } : MethodName)) : Cond) ∈ x_W := x_inW (i := 945) (by decide +kernel) (by decide +kernel)
theorem xw_mMod_177 : ((Cond.methodLink "TrainGuardModel" (177 : Nat) ({ cls := "TrainGuardModel", name := "drop", desc := "(I)V" } : MethodName)) : Cond) ∈ x_W := x_inW (i := 949) (by decide +kernel) (by decide +kernel)
theorem xw_mMod_180 : ((Cond.methodLink "TrainGuardModel" (180 : Nat) ({ cls := "TrainGuardModel", name := "lists", desc := "()V" } : MethodName)) : Cond) ∈ x_W := x_inW (i := 953) (by decide +kernel) (by decide +kernel)
theorem xw_mMod_186 : ((Cond.methodLink "TrainGuardModel" (186 : Nat) ({ cls := "TrainGuardModel", name := "enters", desc := "()V" } : MethodName)) : Cond) ∈ x_W := x_inW (i := 957) (by decide +kernel) (by decide +kernel)
theorem xw_mLaw_60 : ((Cond.methodLink "TrainGuardLaw" (60 : Nat) ({ cls := "TrainGuardModel", name := "limit", desc := "(I)I" } : MethodName)) : Cond) ∈ x_W := x_inW (i := 961) (by decide +kernel) (by decide +kernel)
theorem xw_mLaw_65 : ((Cond.methodLink "TrainGuardLaw" (65 : Nat) ({ cls := "TrainGuardModel", name := "way", desc := "(III)I" } : MethodName)) : Cond) ∈ x_W := x_inW (i := 965) (by decide +kernel) (by decide +kernel)
theorem xw_mLaw_35 : ((Cond.methodLink "TrainGuardLaw" (35 : Nat) ({ cls := "TrainGuardModel", name := "mark", desc := "(I)Z" } : MethodName)) : Cond) ∈ x_W := x_inW (i := 969) (by decide +kernel) (by decide +kernel)
theorem xw_mLaw_40 : ((Cond.methodLink "TrainGuardLaw" (40 : Nat) ({ cls := "TrainGuardModel", name := "cycle", desc := "(I)I" } : MethodName)) : Cond) ∈ x_W := x_inW (i := 973) (by decide +kernel) (by decide +kernel)
theorem xw_mMod_219 : ((Cond.methodLink "TrainGuardModel" (219 : Nat) ({ cls := "TrainGuardModel", name := "moves", desc := "(I)V" } : MethodName)) : Cond) ∈ x_W := x_inW (i := 977) (by decide +kernel) (by decide +kernel)
theorem xw_mLaw_44 : ((Cond.methodLink "TrainGuardLaw" (44 : Nat) ({ cls := "TrainGuardModel", name := "driver", desc := "(I)Z" } : MethodName)) : Cond) ∈ x_W := x_inW (i := 981) (by decide +kernel) (by decide +kernel)
theorem xw_mLaw_48 : ((Cond.methodLink "TrainGuardLaw" (48 : Nat) ({ cls := "TrainGuardModel", name := "mode", desc := "()I" } : MethodName)) : Cond) ∈ x_W := x_inW (i := 985) (by decide +kernel) (by decide +kernel)
theorem xw_mLaw_52 : ((Cond.methodLink "TrainGuardLaw" (52 : Nat) ({ cls := "TrainGuardModel", name := "state", desc := "(I)I" } : MethodName)) : Cond) ∈ x_W := x_inW (i := 989) (by decide +kernel) (by decide +kernel)
theorem xw_mLaw_56 : ((Cond.methodLink "TrainGuardLaw" (56 : Nat) ({ cls := "TrainGuardModel", name := "display", desc := "(I)I" } : MethodName)) : Cond) ∈ x_W := x_inW (i := 993) (by decide +kernel) (by decide +kernel)
theorem xw_mMod_231 : ((Cond.methodLink "TrainGuardModel" (231 : Nat) ({ cls := "TrainGuardModel", name := "allowed", desc := "()I" } : MethodName)) : Cond) ∈ x_W := x_inW (i := 997) (by decide +kernel) (by decide +kernel)
theorem xw_mLaw_69 : ((Cond.methodLink "TrainGuardLaw" (69 : Nat) ({ cls := "TrainGuardModel", name := "marks", desc := "(I)I" } : MethodName)) : Cond) ∈ x_W := x_inW (i := 1001) (by decide +kernel) (by decide +kernel)
theorem xw_mLaw_73 : ((Cond.methodLink "TrainGuardLaw" (73 : Nat) ({ cls := "TrainGuardModel", name := "note", desc := "(I)I" } : MethodName)) : Cond) ∈ x_W := x_inW (i := 1005) (by decide +kernel) (by decide +kernel)
theorem xw_oi : ((Cond.instanceMethod ({ cls := "java/lang/Object", name := "<init>", desc := "()V" } : MethodName)) : Cond) ∈ x_W := x_inW (i := 20) (by decide +kernel) (by decide +kernel)
theorem xw_oc : ((Cond.code ({ cls := "java/lang/Object", name := "<init>", desc := "()V" } : MethodName) object_method_1_code (1 : Nat) (Option.none : Option FieldType)) : Cond) ∈ x_W := x_inW (i := 21) (by decide +kernel) (by decide +kernel)
set_option maxRecDepth 100000 in
theorem xw_dG_init : Cond.code m_G_init.1 m_G_init.2.1 m_G_init.2.2.1 m_G_init.2.2.2.1 ∈ x_W := x_inW (i := 18) rfl rfl
theorem xw_eG_init : Cond.instanceMethod m_G_init.1 ∈ x_W := x_inW (i := 17) (by decide +kernel) (by decide +kernel)
set_option maxRecDepth 100000 in
theorem xw_dG_bits : Cond.code m_G_bits.1 m_G_bits.2.1 m_G_bits.2.2.1 m_G_bits.2.2.2.1 ∈ x_W := x_inW (i := 358) rfl rfl
theorem xw_eG_bits : Cond.instanceMethod m_G_bits.1 ∈ x_W := x_inW (i := 356) (by decide +kernel) (by decide +kernel)
theorem xw_vG_bits : Cond.selects m_G_bits.1.cls m_G_bits.1 m_G_bits.1 ∈ x_W := x_inW (i := 357) (by decide +kernel) (by decide +kernel)
set_option maxRecDepth 100000 in
theorem xw_dG_message : Cond.code m_G_message.1 m_G_message.2.1 m_G_message.2.2.1 m_G_message.2.2.2.1 ∈ x_W := x_inW (i := 366) rfl rfl
theorem xw_eG_message : Cond.instanceMethod m_G_message.1 ∈ x_W := x_inW (i := 364) (by decide +kernel) (by decide +kernel)
theorem xw_vG_message : Cond.selects m_G_message.1.cls m_G_message.1 m_G_message.1 ∈ x_W := x_inW (i := 365) (by decide +kernel) (by decide +kernel)
set_option maxRecDepth 100000 in
theorem xw_dG_mark : Cond.code m_G_mark.1 m_G_mark.2.1 m_G_mark.2.2.1 m_G_mark.2.2.2.1 ∈ x_W := x_inW (i := 611) rfl rfl
theorem xw_eG_mark : Cond.instanceMethod m_G_mark.1 ∈ x_W := x_inW (i := 609) (by decide +kernel) (by decide +kernel)
theorem xw_vG_mark : Cond.selects m_G_mark.1.cls m_G_mark.1 m_G_mark.1 ∈ x_W := x_inW (i := 610) (by decide +kernel) (by decide +kernel)
set_option maxRecDepth 100000 in
theorem xw_dG_cycle : Cond.code m_G_cycle.1 m_G_cycle.2.1 m_G_cycle.2.2.1 m_G_cycle.2.2.2.1 ∈ x_W := x_inW (i := 642) rfl rfl
theorem xw_eG_cycle : Cond.instanceMethod m_G_cycle.1 ∈ x_W := x_inW (i := 640) (by decide +kernel) (by decide +kernel)
theorem xw_vG_cycle : Cond.selects m_G_cycle.1.cls m_G_cycle.1 m_G_cycle.1 ∈ x_W := x_inW (i := 641) (by decide +kernel) (by decide +kernel)
set_option maxRecDepth 100000 in
theorem xw_dG_driver : Cond.code m_G_driver.1 m_G_driver.2.1 m_G_driver.2.2.1 m_G_driver.2.2.2.1 ∈ x_W := x_inW (i := 663) rfl rfl
theorem xw_eG_driver : Cond.instanceMethod m_G_driver.1 ∈ x_W := x_inW (i := 661) (by decide +kernel) (by decide +kernel)
theorem xw_vG_driver : Cond.selects m_G_driver.1.cls m_G_driver.1 m_G_driver.1 ∈ x_W := x_inW (i := 662) (by decide +kernel) (by decide +kernel)
set_option maxRecDepth 100000 in
theorem xw_dG_mode : Cond.code m_G_mode.1 m_G_mode.2.1 m_G_mode.2.2.1 m_G_mode.2.2.2.1 ∈ x_W := x_inW (i := 675) rfl rfl
theorem xw_eG_mode : Cond.instanceMethod m_G_mode.1 ∈ x_W := x_inW (i := 673) (by decide +kernel) (by decide +kernel)
theorem xw_vG_mode : Cond.selects m_G_mode.1.cls m_G_mode.1 m_G_mode.1 ∈ x_W := x_inW (i := 674) (by decide +kernel) (by decide +kernel)
set_option maxRecDepth 100000 in
theorem xw_dG_state : Cond.code m_G_state.1 m_G_state.2.1 m_G_state.2.2.1 m_G_state.2.2.2.1 ∈ x_W := x_inW (i := 679) rfl rfl
theorem xw_eG_state : Cond.instanceMethod m_G_state.1 ∈ x_W := x_inW (i := 677) (by decide +kernel) (by decide +kernel)
theorem xw_vG_state : Cond.selects m_G_state.1.cls m_G_state.1 m_G_state.1 ∈ x_W := x_inW (i := 678) (by decide +kernel) (by decide +kernel)
set_option maxRecDepth 100000 in
theorem xw_dG_display : Cond.code m_G_display.1 m_G_display.2.1 m_G_display.2.2.1 m_G_display.2.2.2.1 ∈ x_W := x_inW (i := 683) rfl rfl
theorem xw_eG_display : Cond.instanceMethod m_G_display.1 ∈ x_W := x_inW (i := 681) (by decide +kernel) (by decide +kernel)
theorem xw_vG_display : Cond.selects m_G_display.1.cls m_G_display.1 m_G_display.1 ∈ x_W := x_inW (i := 682) (by decide +kernel) (by decide +kernel)
set_option maxRecDepth 100000 in
theorem xw_dG_limit : Cond.code m_G_limit.1 m_G_limit.2.1 m_G_limit.2.2.1 m_G_limit.2.2.2.1 ∈ x_W := x_inW (i := 696) rfl rfl
theorem xw_eG_limit : Cond.instanceMethod m_G_limit.1 ∈ x_W := x_inW (i := 694) (by decide +kernel) (by decide +kernel)
theorem xw_vG_limit : Cond.selects m_G_limit.1.cls m_G_limit.1 m_G_limit.1 ∈ x_W := x_inW (i := 695) (by decide +kernel) (by decide +kernel)
set_option maxRecDepth 100000 in
theorem xw_dG_way : Cond.code m_G_way.1 m_G_way.2.1 m_G_way.2.2.1 m_G_way.2.2.2.1 ∈ x_W := x_inW (i := 700) rfl rfl
theorem xw_eG_way : Cond.instanceMethod m_G_way.1 ∈ x_W := x_inW (i := 698) (by decide +kernel) (by decide +kernel)
theorem xw_vG_way : Cond.selects m_G_way.1.cls m_G_way.1 m_G_way.1 ∈ x_W := x_inW (i := 699) (by decide +kernel) (by decide +kernel)
set_option maxRecDepth 100000 in
theorem xw_dG_marks : Cond.code m_G_marks.1 m_G_marks.2.1 m_G_marks.2.2.1 m_G_marks.2.2.2.1 ∈ x_W := x_inW (i := 705) rfl rfl
theorem xw_eG_marks : Cond.instanceMethod m_G_marks.1 ∈ x_W := x_inW (i := 703) (by decide +kernel) (by decide +kernel)
theorem xw_vG_marks : Cond.selects m_G_marks.1.cls m_G_marks.1 m_G_marks.1 ∈ x_W := x_inW (i := 704) (by decide +kernel) (by decide +kernel)
set_option maxRecDepth 100000 in
theorem xw_dG_note : Cond.code m_G_note.1 m_G_note.2.1 m_G_note.2.2.1 m_G_note.2.2.2.1 ∈ x_W := x_inW (i := 713) rfl rfl
theorem xw_eG_note : Cond.instanceMethod m_G_note.1 ∈ x_W := x_inW (i := 711) (by decide +kernel) (by decide +kernel)
theorem xw_vG_note : Cond.selects m_G_note.1.cls m_G_note.1 m_G_note.1 ∈ x_W := x_inW (i := 712) (by decide +kernel) (by decide +kernel)
set_option maxRecDepth 100000 in
theorem xw_dG_within : Cond.code m_G_within.1 m_G_within.2.1 m_G_within.2.2.1 m_G_within.2.2.2.1 ∈ x_W := x_inW (i := 274) rfl rfl
theorem xw_sG_within : Cond.static m_G_within.1 ∈ x_W := x_inW (i := 273) (by decide +kernel) (by decide +kernel)
set_option maxRecDepth 100000 in
theorem xw_dG_brakingWay : Cond.code m_G_brakingWay.1 m_G_brakingWay.2.1 m_G_brakingWay.2.2.1 m_G_brakingWay.2.2.2.1 ∈ x_W := x_inW (i := 520) rfl rfl
theorem xw_sG_brakingWay : Cond.static m_G_brakingWay.1 ∈ x_W := x_inW (i := 519) (by decide +kernel) (by decide +kernel)
set_option maxRecDepth 100000 in
theorem xw_dG_isGuided : Cond.code m_G_isGuided.1 m_G_isGuided.2.1 m_G_isGuided.2.2.1 m_G_isGuided.2.2.2.1 ∈ x_W := x_inW (i := 460) rfl rfl
theorem xw_eG_isGuided : Cond.instanceMethod m_G_isGuided.1 ∈ x_W := x_inW (i := 459) (by decide +kernel) (by decide +kernel)
theorem xw_vG_isGuided : Cond.selects m_G_isGuided.1.cls m_G_isGuided.1 m_G_isGuided.1 ∈ x_W := x_inP (i := 7) (by decide +kernel) (by decide +kernel)
set_option maxRecDepth 100000 in
theorem xw_dG_isStopped : Cond.code m_G_isStopped.1 m_G_isStopped.2.1 m_G_isStopped.2.2.1 m_G_isStopped.2.2.2.1 ∈ x_W := x_inW (i := 468) rfl rfl
theorem xw_eG_isStopped : Cond.instanceMethod m_G_isStopped.1 ∈ x_W := x_inW (i := 467) (by decide +kernel) (by decide +kernel)
theorem xw_vG_isStopped : Cond.selects m_G_isStopped.1.cls m_G_isStopped.1 m_G_isStopped.1 ∈ x_W := x_inP (i := 9) (by decide +kernel) (by decide +kernel)
set_option maxRecDepth 100000 in
theorem xw_dG_write : Cond.code m_G_write.1 m_G_write.2.1 m_G_write.2.2.1 m_G_write.2.2.2.1 ∈ x_W := x_inW (i := 540) rfl rfl
theorem xw_eG_write : Cond.instanceMethod m_G_write.1 ∈ x_W := x_inW (i := 539) (by decide +kernel) (by decide +kernel)
theorem xw_vG_write : Cond.selects m_G_write.1.cls m_G_write.1 m_G_write.1 ∈ x_W := x_inP (i := 18) (by decide +kernel) (by decide +kernel)
set_option maxRecDepth 100000 in
theorem xw_dG_become : Cond.code m_G_become.1 m_G_become.2.1 m_G_become.2.2.1 m_G_become.2.2.2.1 ∈ x_W := x_inW (i := 556) rfl rfl
theorem xw_eG_become : Cond.instanceMethod m_G_become.1 ∈ x_W := x_inW (i := 555) (by decide +kernel) (by decide +kernel)
theorem xw_vG_become : Cond.selects m_G_become.1.cls m_G_become.1 m_G_become.1 ∈ x_W := x_inP (i := 21) (by decide +kernel) (by decide +kernel)
set_option maxRecDepth 100000 in
theorem xw_dG_trip : Cond.code m_G_trip.1 m_G_trip.2.1 m_G_trip.2.2.1 m_G_trip.2.2.2.1 ∈ x_W := x_inW (i := 552) rfl rfl
theorem xw_eG_trip : Cond.instanceMethod m_G_trip.1 ∈ x_W := x_inW (i := 551) (by decide +kernel) (by decide +kernel)
theorem xw_vG_trip : Cond.selects m_G_trip.1.cls m_G_trip.1 m_G_trip.1 ∈ x_W := x_inP (i := 20) (by decide +kernel) (by decide +kernel)
set_option maxRecDepth 100000 in
theorem xw_dG_faultOfMarks : Cond.code m_G_faultOfMarks.1 m_G_faultOfMarks.2.1 m_G_faultOfMarks.2.2.1 m_G_faultOfMarks.2.2.2.1 ∈ x_W := x_inW (i := 632) rfl rfl
theorem xw_eG_faultOfMarks : Cond.instanceMethod m_G_faultOfMarks.1 ∈ x_W := x_inW (i := 631) (by decide +kernel) (by decide +kernel)
theorem xw_vG_faultOfMarks : Cond.selects m_G_faultOfMarks.1.cls m_G_faultOfMarks.1 m_G_faultOfMarks.1 ∈ x_W := x_inP (i := 23) (by decide +kernel) (by decide +kernel)
set_option maxRecDepth 100000 in
theorem xw_dG_lookForTrip : Cond.code m_G_lookForTrip.1 m_G_lookForTrip.2.1 m_G_lookForTrip.2.2.1 m_G_lookForTrip.2.2.2.1 ∈ x_W := x_inW (i := 650) rfl rfl
theorem xw_eG_lookForTrip : Cond.instanceMethod m_G_lookForTrip.1 ∈ x_W := x_inW (i := 649) (by decide +kernel) (by decide +kernel)
theorem xw_vG_lookForTrip : Cond.selects m_G_lookForTrip.1.cls m_G_lookForTrip.1 m_G_lookForTrip.1 ∈ x_W := x_inP (i := 24) (by decide +kernel) (by decide +kernel)
set_option maxRecDepth 100000 in
theorem xw_dG_enterModeOfAuthority : Cond.code m_G_enterModeOfAuthority.1 m_G_enterModeOfAuthority.2.1 m_G_enterModeOfAuthority.2.2.1 m_G_enterModeOfAuthority.2.2.2.1 ∈ x_W := x_inW (i := 607) rfl rfl
theorem xw_eG_enterModeOfAuthority : Cond.instanceMethod m_G_enterModeOfAuthority.1 ∈ x_W := x_inW (i := 606) (by decide +kernel) (by decide +kernel)
theorem xw_vG_enterModeOfAuthority : Cond.selects m_G_enterModeOfAuthority.1.cls m_G_enterModeOfAuthority.1 m_G_enterModeOfAuthority.1 ∈ x_W := x_inP (i := 22) (by decide +kernel) (by decide +kernel)
set_option maxRecDepth 100000 in
theorem xw_dG_driverMay : Cond.code m_G_driverMay.1 m_G_driverMay.2.1 m_G_driverMay.2.2.1 m_G_driverMay.2.2.2.1 ∈ x_W := x_inW (i := 667) rfl rfl
theorem xw_eG_driverMay : Cond.instanceMethod m_G_driverMay.1 ∈ x_W := x_inW (i := 666) (by decide +kernel) (by decide +kernel)
theorem xw_vG_driverMay : Cond.selects m_G_driverMay.1.cls m_G_driverMay.1 m_G_driverMay.1 ∈ x_W := x_inP (i := 26) (by decide +kernel) (by decide +kernel)
set_option maxRecDepth 100000 in
theorem xw_dG_start : Cond.code m_G_start.1 m_G_start.2.1 m_G_start.2.2.1 m_G_start.2.2.2.1 ∈ x_W := x_inW (i := 671) rfl rfl
theorem xw_eG_start : Cond.instanceMethod m_G_start.1 ∈ x_W := x_inW (i := 670) (by decide +kernel) (by decide +kernel)
theorem xw_vG_start : Cond.selects m_G_start.1.cls m_G_start.1 m_G_start.1 ∈ x_W := x_inP (i := 27) (by decide +kernel) (by decide +kernel)
set_option maxRecDepth 100000 in
theorem xw_dG_faultOfReceived : Cond.code m_G_faultOfReceived.1 m_G_faultOfReceived.2.1 m_G_faultOfReceived.2.2.1 m_G_faultOfReceived.2.2.2.1 ∈ x_W := x_inW (i := 456) rfl rfl
theorem xw_eG_faultOfReceived : Cond.instanceMethod m_G_faultOfReceived.1 ∈ x_W := x_inW (i := 455) (by decide +kernel) (by decide +kernel)
theorem xw_vG_faultOfReceived : Cond.selects m_G_faultOfReceived.1.cls m_G_faultOfReceived.1 m_G_faultOfReceived.1 ∈ x_W := x_inP (i := 6) (by decide +kernel) (by decide +kernel)
set_option maxRecDepth 100000 in
theorem xw_dG_obeyReceived : Cond.code m_G_obeyReceived.1 m_G_obeyReceived.2.1 m_G_obeyReceived.2.2.1 m_G_obeyReceived.2.2.2.1 ∈ x_W := x_inW (i := 548) rfl rfl
theorem xw_eG_obeyReceived : Cond.instanceMethod m_G_obeyReceived.1 ∈ x_W := x_inW (i := 547) (by decide +kernel) (by decide +kernel)
theorem xw_vG_obeyReceived : Cond.selects m_G_obeyReceived.1.cls m_G_obeyReceived.1 m_G_obeyReceived.1 ∈ x_W := x_inP (i := 19) (by decide +kernel) (by decide +kernel)
set_option maxRecDepth 100000 in
theorem xw_dG_ceilingNow : Cond.code m_G_ceilingNow.1 m_G_ceilingNow.2.1 m_G_ceilingNow.2.2.1 m_G_ceilingNow.2.2.2.1 ∈ x_W := x_inW (i := 476) rfl rfl
theorem xw_eG_ceilingNow : Cond.instanceMethod m_G_ceilingNow.1 ∈ x_W := x_inW (i := 475) (by decide +kernel) (by decide +kernel)
theorem xw_vG_ceilingNow : Cond.selects m_G_ceilingNow.1.cls m_G_ceilingNow.1 m_G_ceilingNow.1 ∈ x_W := x_inP (i := 11) (by decide +kernel) (by decide +kernel)
set_option maxRecDepth 100000 in
theorem xw_dG_gradeNow : Cond.code m_G_gradeNow.1 m_G_gradeNow.2.1 m_G_gradeNow.2.2.1 m_G_gradeNow.2.2.2.1 ∈ x_W := x_inW (i := 655) rfl rfl
theorem xw_eG_gradeNow : Cond.instanceMethod m_G_gradeNow.1 ∈ x_W := x_inW (i := 654) (by decide +kernel) (by decide +kernel)
theorem xw_vG_gradeNow : Cond.selects m_G_gradeNow.1.cls m_G_gradeNow.1 m_G_gradeNow.1 ∈ x_W := x_inP (i := 25) (by decide +kernel) (by decide +kernel)
set_option maxRecDepth 100000 in
theorem xw_dG_gradeWithEnd : Cond.code m_G_gradeWithEnd.1 m_G_gradeWithEnd.2.1 m_G_gradeWithEnd.2.2.1 m_G_gradeWithEnd.2.2.2.1 ∈ x_W := x_inW (i := 464) rfl rfl
theorem xw_eG_gradeWithEnd : Cond.instanceMethod m_G_gradeWithEnd.1 ∈ x_W := x_inW (i := 463) (by decide +kernel) (by decide +kernel)
theorem xw_vG_gradeWithEnd : Cond.selects m_G_gradeWithEnd.1.cls m_G_gradeWithEnd.1 m_G_gradeWithEnd.1 ∈ x_W := x_inP (i := 8) (by decide +kernel) (by decide +kernel)
set_option maxRecDepth 100000 in
theorem xw_dG_allowedNow : Cond.code m_G_allowedNow.1 m_G_allowedNow.2.1 m_G_allowedNow.2.2.1 m_G_allowedNow.2.2.2.1 ∈ x_W := x_inW (i := 687) rfl rfl
theorem xw_eG_allowedNow : Cond.instanceMethod m_G_allowedNow.1 ∈ x_W := x_inW (i := 686) (by decide +kernel) (by decide +kernel)
theorem xw_vG_allowedNow : Cond.selects m_G_allowedNow.1.cls m_G_allowedNow.1 m_G_allowedNow.1 ∈ x_W := x_inP (i := 28) (by decide +kernel) (by decide +kernel)
set_option maxRecDepth 100000 in
theorem xw_dG_lookAhead : Cond.code m_G_lookAhead.1 m_G_lookAhead.2.1 m_G_lookAhead.2.2.1 m_G_lookAhead.2.2.2.1 ∈ x_W := x_inW (i := 472) rfl rfl
theorem xw_eG_lookAhead : Cond.instanceMethod m_G_lookAhead.1 ∈ x_W := x_inW (i := 471) (by decide +kernel) (by decide +kernel)
theorem xw_vG_lookAhead : Cond.selects m_G_lookAhead.1.cls m_G_lookAhead.1 m_G_lookAhead.1 ∈ x_W := x_inP (i := 10) (by decide +kernel) (by decide +kernel)
set_option maxRecDepth 100000 in
theorem xw_dG_addTargetsOf : Cond.code m_G_addTargetsOf.1 m_G_addTargetsOf.2.1 m_G_addTargetsOf.2.2.1 m_G_addTargetsOf.2.2.2.1 ∈ x_W := x_inW (i := 505) rfl rfl
theorem xw_eG_addTargetsOf : Cond.instanceMethod m_G_addTargetsOf.1 ∈ x_W := x_inW (i := 504) (by decide +kernel) (by decide +kernel)
theorem xw_vG_addTargetsOf : Cond.selects m_G_addTargetsOf.1.cls m_G_addTargetsOf.1 m_G_addTargetsOf.1 ∈ x_W := x_inP (i := 13) (by decide +kernel) (by decide +kernel)
set_option maxRecDepth 100000 in
theorem xw_dG_addTarget : Cond.code m_G_addTarget.1 m_G_addTarget.2.1 m_G_addTarget.2.2.1 m_G_addTarget.2.2.2.1 ∈ x_W := x_inW (i := 493) rfl rfl
theorem xw_eG_addTarget : Cond.instanceMethod m_G_addTarget.1 ∈ x_W := x_inW (i := 492) (by decide +kernel) (by decide +kernel)
theorem xw_vG_addTarget : Cond.selects m_G_addTarget.1.cls m_G_addTarget.1 m_G_addTarget.1 ∈ x_W := x_inP (i := 12) (by decide +kernel) (by decide +kernel)
set_option maxRecDepth 100000 in
theorem xw_dMod_init : Cond.code m_Mod_init.1 m_Mod_init.2.1 m_Mod_init.2.2.1 m_Mod_init.2.2.2.1 ∈ x_W := x_inW (i := 725) rfl rfl
theorem xw_eMod_init : Cond.instanceMethod m_Mod_init.1 ∈ x_W := x_inW (i := 724) (by decide +kernel) (by decide +kernel)
set_option maxRecDepth 100000 in
theorem xw_dMod_write : Cond.code m_Mod_write.1 m_Mod_write.2.1 m_Mod_write.2.2.1 m_Mod_write.2.2.2.1 ∈ x_W := x_inW (i := 936) rfl rfl
theorem xw_eMod_write : Cond.instanceMethod m_Mod_write.1 ∈ x_W := x_inW (i := 935) (by decide +kernel) (by decide +kernel)
theorem xw_vMod_write : Cond.selects m_Mod_write.1.cls m_Mod_write.1 m_Mod_write.1 ∈ x_W := x_inP (i := 43) (by decide +kernel) (by decide +kernel)
set_option maxRecDepth 100000 in
theorem xw_dMod_become : Cond.code m_Mod_become.1 m_Mod_become.2.1 m_Mod_become.2.2.1 m_Mod_become.2.2.2.1 ∈ x_W := x_inW (i := 948) rfl rfl
theorem xw_eMod_become : Cond.instanceMethod m_Mod_become.1 ∈ x_W := x_inW (i := 947) (by decide +kernel) (by decide +kernel)
theorem xw_vMod_become : Cond.selects m_Mod_become.1.cls m_Mod_become.1 m_Mod_become.1 ∈ x_W := x_inP (i := 46) (by decide +kernel) (by decide +kernel)
set_option maxRecDepth 100000 in
theorem xw_dMod_trips : Cond.code m_Mod_trips.1 m_Mod_trips.2.1 m_Mod_trips.2.2.1 m_Mod_trips.2.2.2.1 ∈ x_W := x_inW (i := 944) rfl rfl
theorem xw_eMod_trips : Cond.instanceMethod m_Mod_trips.1 ∈ x_W := x_inW (i := 943) (by decide +kernel) (by decide +kernel)
theorem xw_vMod_trips : Cond.selects m_Mod_trips.1.cls m_Mod_trips.1 m_Mod_trips.1 ∈ x_W := x_inP (i := 45) (by decide +kernel) (by decide +kernel)
set_option maxRecDepth 100000 in
theorem xw_dMod_enters : Cond.code m_Mod_enters.1 m_Mod_enters.2.1 m_Mod_enters.2.2.1 m_Mod_enters.2.2.2.1 ∈ x_W := x_inW (i := 960) rfl rfl
theorem xw_eMod_enters : Cond.instanceMethod m_Mod_enters.1 ∈ x_W := x_inW (i := 959) (by decide +kernel) (by decide +kernel)
theorem xw_vMod_enters : Cond.selects m_Mod_enters.1.cls m_Mod_enters.1 m_Mod_enters.1 ∈ x_W := x_inP (i := 49) (by decide +kernel) (by decide +kernel)
set_option maxRecDepth 100000 in
theorem xw_dMod_watched : Cond.code m_Mod_watched.1 m_Mod_watched.2.1 m_Mod_watched.2.2.1 m_Mod_watched.2.2.2.1 ∈ x_W := x_inW (i := 901) rfl rfl
theorem xw_eMod_watched : Cond.instanceMethod m_Mod_watched.1 ∈ x_W := x_inW (i := 900) (by decide +kernel) (by decide +kernel)
theorem xw_vMod_watched : Cond.selects m_Mod_watched.1.cls m_Mod_watched.1 m_Mod_watched.1 ∈ x_W := x_inP (i := 35) (by decide +kernel) (by decide +kernel)
set_option maxRecDepth 100000 in
theorem xw_dMod_bits : Cond.code m_Mod_bits.1 m_Mod_bits.2.1 m_Mod_bits.2.2.1 m_Mod_bits.2.2.2.1 ∈ x_W := x_inW (i := 863) rfl rfl
theorem xw_eMod_bits : Cond.instanceMethod m_Mod_bits.1 ∈ x_W := x_inW (i := 861) (by decide +kernel) (by decide +kernel)
theorem xw_vMod_bits : Cond.selects m_Mod_bits.1.cls m_Mod_bits.1 m_Mod_bits.1 ∈ x_W := x_inW (i := 862) (by decide +kernel) (by decide +kernel)
set_option maxRecDepth 100000 in
theorem xw_dMod_read : Cond.code m_Mod_read.1 m_Mod_read.2.1 m_Mod_read.2.2.1 m_Mod_read.2.2.2.1 ∈ x_W := x_inW (i := 871) rfl rfl
theorem xw_eMod_read : Cond.instanceMethod m_Mod_read.1 ∈ x_W := x_inW (i := 870) (by decide +kernel) (by decide +kernel)
theorem xw_vMod_read : Cond.selects m_Mod_read.1.cls m_Mod_read.1 m_Mod_read.1 ∈ x_W := x_inP (i := 29) (by decide +kernel) (by decide +kernel)
set_option maxRecDepth 100000 in
theorem xw_dMod_check : Cond.code m_Mod_check.1 m_Mod_check.2.1 m_Mod_check.2.2.1 m_Mod_check.2.2.2.1 ∈ x_W := x_inW (i := 875) rfl rfl
theorem xw_eMod_check : Cond.instanceMethod m_Mod_check.1 ∈ x_W := x_inW (i := 874) (by decide +kernel) (by decide +kernel)
theorem xw_vMod_check : Cond.selects m_Mod_check.1.cls m_Mod_check.1 m_Mod_check.1 ∈ x_W := x_inP (i := 30) (by decide +kernel) (by decide +kernel)
set_option maxRecDepth 100000 in
theorem xw_dMod_slotOf : Cond.code m_Mod_slotOf.1 m_Mod_slotOf.2.1 m_Mod_slotOf.2.2.1 m_Mod_slotOf.2.2.2.1 ∈ x_W := x_inW (i := 882) rfl rfl
theorem xw_sMod_slotOf : Cond.static m_Mod_slotOf.1 ∈ x_W := x_inW (i := 881) (by decide +kernel) (by decide +kernel)
set_option maxRecDepth 100000 in
theorem xw_dMod_told : Cond.code m_Mod_told.1 m_Mod_told.2.1 m_Mod_told.2.2.1 m_Mod_told.2.2.2.1 ∈ x_W := x_inW (i := 894) rfl rfl
theorem xw_eMod_told : Cond.instanceMethod m_Mod_told.1 ∈ x_W := x_inW (i := 893) (by decide +kernel) (by decide +kernel)
theorem xw_vMod_told : Cond.selects m_Mod_told.1.cls m_Mod_told.1 m_Mod_told.1 ∈ x_W := x_inP (i := 34) (by decide +kernel) (by decide +kernel)
set_option maxRecDepth 100000 in
theorem xw_dMod_tell : Cond.code m_Mod_tell.1 m_Mod_tell.2.1 m_Mod_tell.2.2.1 m_Mod_tell.2.2.2.1 ∈ x_W := x_inW (i := 890) rfl rfl
theorem xw_eMod_tell : Cond.instanceMethod m_Mod_tell.1 ∈ x_W := x_inW (i := 889) (by decide +kernel) (by decide +kernel)
theorem xw_vMod_tell : Cond.selects m_Mod_tell.1.cls m_Mod_tell.1 m_Mod_tell.1 ∈ x_W := x_inP (i := 33) (by decide +kernel) (by decide +kernel)
set_option maxRecDepth 100000 in
theorem xw_dMod_limitOf : Cond.code m_Mod_limitOf.1 m_Mod_limitOf.2.1 m_Mod_limitOf.2.2.1 m_Mod_limitOf.2.2.2.1 ∈ x_W := x_inW (i := 897) rfl rfl
theorem xw_sMod_limitOf : Cond.static m_Mod_limitOf.1 ∈ x_W := x_inW (i := 896) (by decide +kernel) (by decide +kernel)
set_option maxRecDepth 100000 in
theorem xw_dMod_packets : Cond.code m_Mod_packets.1 m_Mod_packets.2.1 m_Mod_packets.2.2.1 m_Mod_packets.2.2.2.1 ∈ x_W := x_inW (i := 879) rfl rfl
theorem xw_eMod_packets : Cond.instanceMethod m_Mod_packets.1 ∈ x_W := x_inW (i := 878) (by decide +kernel) (by decide +kernel)
theorem xw_vMod_packets : Cond.selects m_Mod_packets.1.cls m_Mod_packets.1 m_Mod_packets.1 ∈ x_W := x_inP (i := 31) (by decide +kernel) (by decide +kernel)
set_option maxRecDepth 100000 in
theorem xw_dMod_numbers : Cond.code m_Mod_numbers.1 m_Mod_numbers.2.1 m_Mod_numbers.2.2.1 m_Mod_numbers.2.2.2.1 ∈ x_W := x_inW (i := 886) rfl rfl
theorem xw_eMod_numbers : Cond.instanceMethod m_Mod_numbers.1 ∈ x_W := x_inW (i := 885) (by decide +kernel) (by decide +kernel)
theorem xw_vMod_numbers : Cond.selects m_Mod_numbers.1.cls m_Mod_numbers.1 m_Mod_numbers.1 ∈ x_W := x_inP (i := 32) (by decide +kernel) (by decide +kernel)
set_option maxRecDepth 100000 in
theorem xw_dMod_message : Cond.code m_Mod_message.1 m_Mod_message.2.1 m_Mod_message.2.2.1 m_Mod_message.2.2.2.1 ∈ x_W := x_inW (i := 867) rfl rfl
theorem xw_eMod_message : Cond.instanceMethod m_Mod_message.1 ∈ x_W := x_inW (i := 865) (by decide +kernel) (by decide +kernel)
theorem xw_vMod_message : Cond.selects m_Mod_message.1.cls m_Mod_message.1 m_Mod_message.1 ∈ x_W := x_inW (i := 866) (by decide +kernel) (by decide +kernel)
set_option maxRecDepth 100000 in
theorem xw_dMod_fits : Cond.code m_Mod_fits.1 m_Mod_fits.2.1 m_Mod_fits.2.2.1 m_Mod_fits.2.2.2.1 ∈ x_W := x_inW (i := 932) rfl rfl
theorem xw_eMod_fits : Cond.instanceMethod m_Mod_fits.1 ∈ x_W := x_inW (i := 931) (by decide +kernel) (by decide +kernel)
theorem xw_vMod_fits : Cond.selects m_Mod_fits.1.cls m_Mod_fits.1 m_Mod_fits.1 ∈ x_W := x_inP (i := 42) (by decide +kernel) (by decide +kernel)
set_option maxRecDepth 100000 in
theorem xw_dMod_drop : Cond.code m_Mod_drop.1 m_Mod_drop.2.1 m_Mod_drop.2.2.1 m_Mod_drop.2.2.2.1 ∈ x_W := x_inW (i := 952) rfl rfl
theorem xw_eMod_drop : Cond.instanceMethod m_Mod_drop.1 ∈ x_W := x_inW (i := 951) (by decide +kernel) (by decide +kernel)
theorem xw_vMod_drop : Cond.selects m_Mod_drop.1.cls m_Mod_drop.1 m_Mod_drop.1 ∈ x_W := x_inP (i := 47) (by decide +kernel) (by decide +kernel)
set_option maxRecDepth 100000 in
theorem xw_dMod_take : Cond.code m_Mod_take.1 m_Mod_take.2.1 m_Mod_take.2.2.1 m_Mod_take.2.2.2.1 ∈ x_W := x_inW (i := 940) rfl rfl
theorem xw_eMod_take : Cond.instanceMethod m_Mod_take.1 ∈ x_W := x_inW (i := 939) (by decide +kernel) (by decide +kernel)
theorem xw_vMod_take : Cond.selects m_Mod_take.1.cls m_Mod_take.1 m_Mod_take.1 ∈ x_W := x_inP (i := 44) (by decide +kernel) (by decide +kernel)
set_option maxRecDepth 100000 in
theorem xw_dMod_lists : Cond.code m_Mod_lists.1 m_Mod_lists.2.1 m_Mod_lists.2.2.1 m_Mod_lists.2.2.2.1 ∈ x_W := x_inW (i := 956) rfl rfl
theorem xw_eMod_lists : Cond.instanceMethod m_Mod_lists.1 ∈ x_W := x_inW (i := 955) (by decide +kernel) (by decide +kernel)
theorem xw_vMod_lists : Cond.selects m_Mod_lists.1.cls m_Mod_lists.1 m_Mod_lists.1 ∈ x_W := x_inP (i := 48) (by decide +kernel) (by decide +kernel)
set_option maxRecDepth 100000 in
theorem xw_dMod_least : Cond.code m_Mod_least.1 m_Mod_least.2.1 m_Mod_least.2.2.1 m_Mod_least.2.2.2.1 ∈ x_W := x_inW (i := 913) rfl rfl
theorem xw_eMod_least : Cond.instanceMethod m_Mod_least.1 ∈ x_W := x_inW (i := 912) (by decide +kernel) (by decide +kernel)
theorem xw_vMod_least : Cond.selects m_Mod_least.1.cls m_Mod_least.1 m_Mod_least.1 ∈ x_W := x_inP (i := 38) (by decide +kernel) (by decide +kernel)
set_option maxRecDepth 100000 in
theorem xw_dMod_limit : Cond.code m_Mod_limit.1 m_Mod_limit.2.1 m_Mod_limit.2.2.1 m_Mod_limit.2.2.2.1 ∈ x_W := x_inW (i := 964) rfl rfl
theorem xw_eMod_limit : Cond.instanceMethod m_Mod_limit.1 ∈ x_W := x_inW (i := 962) (by decide +kernel) (by decide +kernel)
theorem xw_vMod_limit : Cond.selects m_Mod_limit.1.cls m_Mod_limit.1 m_Mod_limit.1 ∈ x_W := x_inW (i := 963) (by decide +kernel) (by decide +kernel)
set_option maxRecDepth 100000 in
theorem xw_dMod_ceiling : Cond.code m_Mod_ceiling.1 m_Mod_ceiling.2.1 m_Mod_ceiling.2.2.1 m_Mod_ceiling.2.2.2.1 ∈ x_W := x_inW (i := 909) rfl rfl
theorem xw_eMod_ceiling : Cond.instanceMethod m_Mod_ceiling.1 ∈ x_W := x_inW (i := 908) (by decide +kernel) (by decide +kernel)
theorem xw_vMod_ceiling : Cond.selects m_Mod_ceiling.1.cls m_Mod_ceiling.1 m_Mod_ceiling.1 ∈ x_W := x_inP (i := 37) (by decide +kernel) (by decide +kernel)
set_option maxRecDepth 100000 in
theorem xw_dMod_fall : Cond.code m_Mod_fall.1 m_Mod_fall.2.1 m_Mod_fall.2.2.1 m_Mod_fall.2.2.2.1 ∈ x_W := x_inW (i := 925) rfl rfl
theorem xw_eMod_fall : Cond.instanceMethod m_Mod_fall.1 ∈ x_W := x_inW (i := 924) (by decide +kernel) (by decide +kernel)
theorem xw_vMod_fall : Cond.selects m_Mod_fall.1.cls m_Mod_fall.1 m_Mod_fall.1 ∈ x_W := x_inP (i := 41) (by decide +kernel) (by decide +kernel)
set_option maxRecDepth 100000 in
theorem xw_dMod_braking : Cond.code m_Mod_braking.1 m_Mod_braking.2.1 m_Mod_braking.2.2.1 m_Mod_braking.2.2.2.1 ∈ x_W := x_inW (i := 928) rfl rfl
theorem xw_sMod_braking : Cond.static m_Mod_braking.1 ∈ x_W := x_inW (i := 927) (by decide +kernel) (by decide +kernel)
set_option maxRecDepth 100000 in
theorem xw_dMod_way : Cond.code m_Mod_way.1 m_Mod_way.2.1 m_Mod_way.2.2.1 m_Mod_way.2.2.2.1 ∈ x_W := x_inW (i := 968) rfl rfl
theorem xw_eMod_way : Cond.instanceMethod m_Mod_way.1 ∈ x_W := x_inW (i := 966) (by decide +kernel) (by decide +kernel)
theorem xw_vMod_way : Cond.selects m_Mod_way.1.cls m_Mod_way.1 m_Mod_way.1 ∈ x_W := x_inW (i := 967) (by decide +kernel) (by decide +kernel)
set_option maxRecDepth 100000 in
theorem xw_dMod_past : Cond.code m_Mod_past.1 m_Mod_past.2.1 m_Mod_past.2.2.1 m_Mod_past.2.2.2.1 ∈ x_W := x_inW (i := 921) rfl rfl
theorem xw_eMod_past : Cond.instanceMethod m_Mod_past.1 ∈ x_W := x_inW (i := 920) (by decide +kernel) (by decide +kernel)
theorem xw_vMod_past : Cond.selects m_Mod_past.1.cls m_Mod_past.1 m_Mod_past.1 ∈ x_W := x_inP (i := 40) (by decide +kernel) (by decide +kernel)
set_option maxRecDepth 100000 in
theorem xw_dMod_over : Cond.code m_Mod_over.1 m_Mod_over.2.1 m_Mod_over.2.2.1 m_Mod_over.2.2.2.1 ∈ x_W := x_inW (i := 917) rfl rfl
theorem xw_eMod_over : Cond.instanceMethod m_Mod_over.1 ∈ x_W := x_inW (i := 916) (by decide +kernel) (by decide +kernel)
theorem xw_vMod_over : Cond.selects m_Mod_over.1.cls m_Mod_over.1 m_Mod_over.1 ∈ x_W := x_inP (i := 39) (by decide +kernel) (by decide +kernel)
set_option maxRecDepth 100000 in
theorem xw_dMod_grade : Cond.code m_Mod_grade.1 m_Mod_grade.2.1 m_Mod_grade.2.2.1 m_Mod_grade.2.2.2.1 ∈ x_W := x_inW (i := 905) rfl rfl
theorem xw_eMod_grade : Cond.instanceMethod m_Mod_grade.1 ∈ x_W := x_inW (i := 904) (by decide +kernel) (by decide +kernel)
theorem xw_vMod_grade : Cond.selects m_Mod_grade.1.cls m_Mod_grade.1 m_Mod_grade.1 ∈ x_W := x_inP (i := 36) (by decide +kernel) (by decide +kernel)
set_option maxRecDepth 100000 in
theorem xw_dMod_allowed : Cond.code m_Mod_allowed.1 m_Mod_allowed.2.1 m_Mod_allowed.2.2.1 m_Mod_allowed.2.2.2.1 ∈ x_W := x_inW (i := 1000) rfl rfl
theorem xw_eMod_allowed : Cond.instanceMethod m_Mod_allowed.1 ∈ x_W := x_inW (i := 999) (by decide +kernel) (by decide +kernel)
theorem xw_vMod_allowed : Cond.selects m_Mod_allowed.1.cls m_Mod_allowed.1 m_Mod_allowed.1 ∈ x_W := x_inP (i := 51) (by decide +kernel) (by decide +kernel)
set_option maxRecDepth 100000 in
theorem xw_dMod_mark : Cond.code m_Mod_mark.1 m_Mod_mark.2.1 m_Mod_mark.2.2.1 m_Mod_mark.2.2.2.1 ∈ x_W := x_inW (i := 972) rfl rfl
theorem xw_eMod_mark : Cond.instanceMethod m_Mod_mark.1 ∈ x_W := x_inW (i := 970) (by decide +kernel) (by decide +kernel)
theorem xw_vMod_mark : Cond.selects m_Mod_mark.1.cls m_Mod_mark.1 m_Mod_mark.1 ∈ x_W := x_inW (i := 971) (by decide +kernel) (by decide +kernel)
set_option maxRecDepth 100000 in
theorem xw_dMod_moves : Cond.code m_Mod_moves.1 m_Mod_moves.2.1 m_Mod_moves.2.2.1 m_Mod_moves.2.2.2.1 ∈ x_W := x_inW (i := 980) rfl rfl
theorem xw_eMod_moves : Cond.instanceMethod m_Mod_moves.1 ∈ x_W := x_inW (i := 979) (by decide +kernel) (by decide +kernel)
theorem xw_vMod_moves : Cond.selects m_Mod_moves.1.cls m_Mod_moves.1 m_Mod_moves.1 ∈ x_W := x_inP (i := 50) (by decide +kernel) (by decide +kernel)
set_option maxRecDepth 100000 in
theorem xw_dMod_cycle : Cond.code m_Mod_cycle.1 m_Mod_cycle.2.1 m_Mod_cycle.2.2.1 m_Mod_cycle.2.2.2.1 ∈ x_W := x_inW (i := 976) rfl rfl
theorem xw_eMod_cycle : Cond.instanceMethod m_Mod_cycle.1 ∈ x_W := x_inW (i := 974) (by decide +kernel) (by decide +kernel)
theorem xw_vMod_cycle : Cond.selects m_Mod_cycle.1.cls m_Mod_cycle.1 m_Mod_cycle.1 ∈ x_W := x_inW (i := 975) (by decide +kernel) (by decide +kernel)
set_option maxRecDepth 100000 in
theorem xw_dMod_driver : Cond.code m_Mod_driver.1 m_Mod_driver.2.1 m_Mod_driver.2.2.1 m_Mod_driver.2.2.2.1 ∈ x_W := x_inW (i := 984) rfl rfl
theorem xw_eMod_driver : Cond.instanceMethod m_Mod_driver.1 ∈ x_W := x_inW (i := 982) (by decide +kernel) (by decide +kernel)
theorem xw_vMod_driver : Cond.selects m_Mod_driver.1.cls m_Mod_driver.1 m_Mod_driver.1 ∈ x_W := x_inW (i := 983) (by decide +kernel) (by decide +kernel)
set_option maxRecDepth 100000 in
theorem xw_dMod_mode : Cond.code m_Mod_mode.1 m_Mod_mode.2.1 m_Mod_mode.2.2.1 m_Mod_mode.2.2.2.1 ∈ x_W := x_inW (i := 988) rfl rfl
theorem xw_eMod_mode : Cond.instanceMethod m_Mod_mode.1 ∈ x_W := x_inW (i := 986) (by decide +kernel) (by decide +kernel)
theorem xw_vMod_mode : Cond.selects m_Mod_mode.1.cls m_Mod_mode.1 m_Mod_mode.1 ∈ x_W := x_inW (i := 987) (by decide +kernel) (by decide +kernel)
set_option maxRecDepth 100000 in
theorem xw_dMod_state : Cond.code m_Mod_state.1 m_Mod_state.2.1 m_Mod_state.2.2.1 m_Mod_state.2.2.2.1 ∈ x_W := x_inW (i := 992) rfl rfl
theorem xw_eMod_state : Cond.instanceMethod m_Mod_state.1 ∈ x_W := x_inW (i := 990) (by decide +kernel) (by decide +kernel)
theorem xw_vMod_state : Cond.selects m_Mod_state.1.cls m_Mod_state.1 m_Mod_state.1 ∈ x_W := x_inW (i := 991) (by decide +kernel) (by decide +kernel)
set_option maxRecDepth 100000 in
theorem xw_dMod_display : Cond.code m_Mod_display.1 m_Mod_display.2.1 m_Mod_display.2.2.1 m_Mod_display.2.2.2.1 ∈ x_W := x_inW (i := 996) rfl rfl
theorem xw_eMod_display : Cond.instanceMethod m_Mod_display.1 ∈ x_W := x_inW (i := 994) (by decide +kernel) (by decide +kernel)
theorem xw_vMod_display : Cond.selects m_Mod_display.1.cls m_Mod_display.1 m_Mod_display.1 ∈ x_W := x_inW (i := 995) (by decide +kernel) (by decide +kernel)
set_option maxRecDepth 100000 in
theorem xw_dMod_marks : Cond.code m_Mod_marks.1 m_Mod_marks.2.1 m_Mod_marks.2.2.1 m_Mod_marks.2.2.2.1 ∈ x_W := x_inW (i := 1004) rfl rfl
theorem xw_eMod_marks : Cond.instanceMethod m_Mod_marks.1 ∈ x_W := x_inW (i := 1002) (by decide +kernel) (by decide +kernel)
theorem xw_vMod_marks : Cond.selects m_Mod_marks.1.cls m_Mod_marks.1 m_Mod_marks.1 ∈ x_W := x_inW (i := 1003) (by decide +kernel) (by decide +kernel)
set_option maxRecDepth 100000 in
theorem xw_dMod_note : Cond.code m_Mod_note.1 m_Mod_note.2.1 m_Mod_note.2.2.1 m_Mod_note.2.2.2.1 ∈ x_W := x_inW (i := 1008) rfl rfl
theorem xw_eMod_note : Cond.instanceMethod m_Mod_note.1 ∈ x_W := x_inW (i := 1006) (by decide +kernel) (by decide +kernel)
theorem xw_vMod_note : Cond.selects m_Mod_note.1.cls m_Mod_note.1 m_Mod_note.1 ∈ x_W := x_inW (i := 1007) (by decide +kernel) (by decide +kernel)
set_option maxRecDepth 100000 in
theorem xw_dBit_init : Cond.code m_Bit_init.1 m_Bit_init.2.1 m_Bit_init.2.2.1 m_Bit_init.2.2.2.1 ∈ x_W := x_inW (i := 148) rfl rfl
theorem xw_eBit_init : Cond.instanceMethod m_Bit_init.1 ∈ x_W := x_inW (i := 147) (by decide +kernel) (by decide +kernel)
set_option maxRecDepth 100000 in
theorem xw_dBit_put : Cond.code m_Bit_put.1 m_Bit_put.2.1 m_Bit_put.2.2.1 m_Bit_put.2.2.2.1 ∈ x_W := x_inW (i := 362) rfl rfl
theorem xw_eBit_put : Cond.instanceMethod m_Bit_put.1 ∈ x_W := x_inW (i := 360) (by decide +kernel) (by decide +kernel)
theorem xw_vBit_put : Cond.selects m_Bit_put.1.cls m_Bit_put.1 m_Bit_put.1 ∈ x_W := x_inW (i := 361) (by decide +kernel) (by decide +kernel)
set_option maxRecDepth 100000 in
theorem xw_dBit_clear : Cond.code m_Bit_clear.1 m_Bit_clear.2.1 m_Bit_clear.2.2.1 m_Bit_clear.2.2.2.1 ∈ x_W := x_inW (i := 452) rfl rfl
theorem xw_eBit_clear : Cond.instanceMethod m_Bit_clear.1 ∈ x_W := x_inW (i := 450) (by decide +kernel) (by decide +kernel)
theorem xw_vBit_clear : Cond.selects m_Bit_clear.1.cls m_Bit_clear.1 m_Bit_clear.1 ∈ x_W := x_inW (i := 451) (by decide +kernel) (by decide +kernel)
set_option maxRecDepth 100000 in
theorem xw_dBit_begin : Cond.code m_Bit_begin.1 m_Bit_begin.2.1 m_Bit_begin.2.2.1 m_Bit_begin.2.2.2.1 ∈ x_W := x_inW (i := 374) rfl rfl
theorem xw_eBit_begin : Cond.instanceMethod m_Bit_begin.1 ∈ x_W := x_inW (i := 372) (by decide +kernel) (by decide +kernel)
theorem xw_vBit_begin : Cond.selects m_Bit_begin.1.cls m_Bit_begin.1 m_Bit_begin.1 ∈ x_W := x_inW (i := 373) (by decide +kernel) (by decide +kernel)
set_option maxRecDepth 100000 in
theorem xw_dBit_left : Cond.code m_Bit_left.1 m_Bit_left.2.1 m_Bit_left.2.2.1 m_Bit_left.2.2.2.1 ∈ x_W := x_inW (i := 393) rfl rfl
theorem xw_eBit_left : Cond.instanceMethod m_Bit_left.1 ∈ x_W := x_inW (i := 391) (by decide +kernel) (by decide +kernel)
theorem xw_vBit_left : Cond.selects m_Bit_left.1.cls m_Bit_left.1 m_Bit_left.1 ∈ x_W := x_inW (i := 392) (by decide +kernel) (by decide +kernel)
set_option maxRecDepth 100000 in
theorem xw_dBit_isSound : Cond.code m_Bit_isSound.1 m_Bit_isSound.2.1 m_Bit_isSound.2.2.1 m_Bit_isSound.2.2.2.1 ∈ x_W := x_inW (i := 389) rfl rfl
theorem xw_eBit_isSound : Cond.instanceMethod m_Bit_isSound.1 ∈ x_W := x_inW (i := 387) (by decide +kernel) (by decide +kernel)
theorem xw_vBit_isSound : Cond.selects m_Bit_isSound.1.cls m_Bit_isSound.1 m_Bit_isSound.1 ∈ x_W := x_inW (i := 388) (by decide +kernel) (by decide +kernel)
set_option maxRecDepth 100000 in
theorem xw_dBit_need : Cond.code m_Bit_need.1 m_Bit_need.2.1 m_Bit_need.2.2.1 m_Bit_need.2.2.2.1 ∈ x_W := x_inW (i := 382) rfl rfl
theorem xw_eBit_need : Cond.instanceMethod m_Bit_need.1 ∈ x_W := x_inW (i := 380) (by decide +kernel) (by decide +kernel)
theorem xw_vBit_need : Cond.selects m_Bit_need.1.cls m_Bit_need.1 m_Bit_need.1 ∈ x_W := x_inW (i := 381) (by decide +kernel) (by decide +kernel)
set_option maxRecDepth 100000 in
theorem xw_dBit_take : Cond.code m_Bit_take.1 m_Bit_take.2.1 m_Bit_take.2.2.1 m_Bit_take.2.2.2.1 ∈ x_W := x_inW (i := 378) rfl rfl
theorem xw_eBit_take : Cond.instanceMethod m_Bit_take.1 ∈ x_W := x_inW (i := 376) (by decide +kernel) (by decide +kernel)
theorem xw_vBit_take : Cond.selects m_Bit_take.1.cls m_Bit_take.1 m_Bit_take.1 ∈ x_W := x_inW (i := 377) (by decide +kernel) (by decide +kernel)
set_option maxRecDepth 100000 in
theorem xw_dBrk_init : Cond.code m_Brk_init.1 m_Brk_init.2.1 m_Brk_init.2.2.1 m_Brk_init.2.2.2.1 ∈ x_W := x_inW (i := 243) rfl rfl
theorem xw_eBrk_init : Cond.instanceMethod m_Brk_init.1 ∈ x_W := x_inW (i := 242) (by decide +kernel) (by decide +kernel)
set_option maxRecDepth 100000 in
theorem xw_dBrk_apply : Cond.code m_Brk_apply.1 m_Brk_apply.2.1 m_Brk_apply.2.2.1 m_Brk_apply.2.2.2.1 ∈ x_W := x_inW (i := 659) rfl rfl
theorem xw_eBrk_apply : Cond.instanceMethod m_Brk_apply.1 ∈ x_W := x_inW (i := 657) (by decide +kernel) (by decide +kernel)
theorem xw_vBrk_apply : Cond.selects m_Brk_apply.1.cls m_Brk_apply.1 m_Brk_apply.1 ∈ x_W := x_inW (i := 658) (by decide +kernel) (by decide +kernel)
set_option maxRecDepth 100000 in
theorem xw_dCur_init : Cond.code m_Cur_init.1 m_Cur_init.2.1 m_Cur_init.2.2.1 m_Cur_init.2.2.2.1 ∈ x_W := x_inW (i := 285) rfl rfl
theorem xw_eCur_init : Cond.instanceMethod m_Cur_init.1 ∈ x_W := x_inW (i := 284) (by decide +kernel) (by decide +kernel)
set_option maxRecDepth 100000 in
theorem xw_dCur_begin : Cond.code m_Cur_begin.1 m_Cur_begin.2.1 m_Cur_begin.2.2.1 m_Cur_begin.2.2.2.1 ∈ x_W := x_inW (i := 489) rfl rfl
theorem xw_eCur_begin : Cond.instanceMethod m_Cur_begin.1 ∈ x_W := x_inW (i := 487) (by decide +kernel) (by decide +kernel)
theorem xw_vCur_begin : Cond.selects m_Cur_begin.1.cls m_Cur_begin.1 m_Cur_begin.1 ∈ x_W := x_inW (i := 488) (by decide +kernel) (by decide +kernel)
set_option maxRecDepth 100000 in
theorem xw_dCur_add : Cond.code m_Cur_add.1 m_Cur_add.2.1 m_Cur_add.2.2.1 m_Cur_add.2.2.2.1 ∈ x_W := x_inW (i := 501) rfl rfl
theorem xw_eCur_add : Cond.instanceMethod m_Cur_add.1 ∈ x_W := x_inW (i := 499) (by decide +kernel) (by decide +kernel)
theorem xw_vCur_add : Cond.selects m_Cur_add.1.cls m_Cur_add.1 m_Cur_add.1 ∈ x_W := x_inW (i := 500) (by decide +kernel) (by decide +kernel)
set_option maxRecDepth 100000 in
theorem xw_dCur_gradeOf : Cond.code m_Cur_gradeOf.1 m_Cur_gradeOf.2.1 m_Cur_gradeOf.2.2.1 m_Cur_gradeOf.2.2.2.1 ∈ x_W := x_inW (i := 509) rfl rfl
theorem xw_eCur_gradeOf : Cond.instanceMethod m_Cur_gradeOf.1 ∈ x_W := x_inW (i := 507) (by decide +kernel) (by decide +kernel)
theorem xw_vCur_gradeOf : Cond.selects m_Cur_gradeOf.1.cls m_Cur_gradeOf.1 m_Cur_gradeOf.1 ∈ x_W := x_inW (i := 508) (by decide +kernel) (by decide +kernel)
set_option maxRecDepth 100000 in
theorem xw_dCur_allowed : Cond.code m_Cur_allowed.1 m_Cur_allowed.2.1 m_Cur_allowed.2.2.1 m_Cur_allowed.2.2.2.1 ∈ x_W := x_inW (i := 691) rfl rfl
theorem xw_eCur_allowed : Cond.instanceMethod m_Cur_allowed.1 ∈ x_W := x_inW (i := 689) (by decide +kernel) (by decide +kernel)
theorem xw_vCur_allowed : Cond.selects m_Cur_allowed.1.cls m_Cur_allowed.1 m_Cur_allowed.1 ∈ x_W := x_inW (i := 690) (by decide +kernel) (by decide +kernel)
set_option maxRecDepth 100000 in
theorem xw_dCur_isOverEmergency : Cond.code m_Cur_isOverEmergency.1 m_Cur_isOverEmergency.2.1 m_Cur_isOverEmergency.2.2.1 m_Cur_isOverEmergency.2.2.2.1 ∈ x_W := x_inW (i := 513) rfl rfl
theorem xw_eCur_isOverEmergency : Cond.instanceMethod m_Cur_isOverEmergency.1 ∈ x_W := x_inW (i := 512) (by decide +kernel) (by decide +kernel)
theorem xw_vCur_isOverEmergency : Cond.selects m_Cur_isOverEmergency.1.cls m_Cur_isOverEmergency.1 m_Cur_isOverEmergency.1 ∈ x_W := x_inP (i := 14) (by decide +kernel) (by decide +kernel)
set_option maxRecDepth 100000 in
theorem xw_dCur_isOverService : Cond.code m_Cur_isOverService.1 m_Cur_isOverService.2.1 m_Cur_isOverService.2.2.1 m_Cur_isOverService.2.2.2.1 ∈ x_W := x_inW (i := 524) rfl rfl
theorem xw_eCur_isOverService : Cond.instanceMethod m_Cur_isOverService.1 ∈ x_W := x_inW (i := 523) (by decide +kernel) (by decide +kernel)
theorem xw_vCur_isOverService : Cond.selects m_Cur_isOverService.1.cls m_Cur_isOverService.1 m_Cur_isOverService.1 ∈ x_W := x_inP (i := 16) (by decide +kernel) (by decide +kernel)
set_option maxRecDepth 100000 in
theorem xw_dCur_isOver : Cond.code m_Cur_isOver.1 m_Cur_isOver.2.1 m_Cur_isOver.2.2.1 m_Cur_isOver.2.2.2.1 ∈ x_W := x_inW (i := 517) rfl rfl
theorem xw_eCur_isOver : Cond.instanceMethod m_Cur_isOver.1 ∈ x_W := x_inW (i := 516) (by decide +kernel) (by decide +kernel)
theorem xw_vCur_isOver : Cond.selects m_Cur_isOver.1.cls m_Cur_isOver.1 m_Cur_isOver.1 ∈ x_W := x_inP (i := 15) (by decide +kernel) (by decide +kernel)
set_option maxRecDepth 100000 in
theorem xw_dFrt_init : Cond.code m_Frt_init.1 m_Frt_init.2.1 m_Frt_init.2.2.1 m_Frt_init.2.2.2.1 ∈ x_W := x_inW (i := 26) rfl rfl
theorem xw_eFrt_init : Cond.instanceMethod m_Frt_init.1 ∈ x_W := x_inW (i := 25) (by decide +kernel) (by decide +kernel)
set_option maxRecDepth 100000 in
theorem xw_dFrt_advance : Cond.code m_Frt_advance.1 m_Frt_advance.2.1 m_Frt_advance.2.2.1 m_Frt_advance.2.2.2.1 ∈ x_W := x_inW (i := 646) rfl rfl
theorem xw_eFrt_advance : Cond.instanceMethod m_Frt_advance.1 ∈ x_W := x_inW (i := 644) (by decide +kernel) (by decide +kernel)
theorem xw_vFrt_advance : Cond.selects m_Frt_advance.1.cls m_Frt_advance.1 m_Frt_advance.1 ∈ x_W := x_inW (i := 645) (by decide +kernel) (by decide +kernel)
set_option maxRecDepth 100000 in
theorem xw_dFrt_narrow : Cond.code m_Frt_narrow.1 m_Frt_narrow.2.1 m_Frt_narrow.2.2.1 m_Frt_narrow.2.2.2.1 ∈ x_W := x_inW (i := 636) rfl rfl
theorem xw_eFrt_narrow : Cond.instanceMethod m_Frt_narrow.1 ∈ x_W := x_inW (i := 634) (by decide +kernel) (by decide +kernel)
theorem xw_vFrt_narrow : Cond.selects m_Frt_narrow.1.cls m_Frt_narrow.1 m_Frt_narrow.1 ∈ x_W := x_inW (i := 635) (by decide +kernel) (by decide +kernel)
set_option maxRecDepth 100000 in
theorem xw_dMrk_init : Cond.code m_Mrk_init.1 m_Mrk_init.2.1 m_Mrk_init.2.2.1 m_Mrk_init.2.2.2.1 ∈ x_W := x_inW (i := 92) rfl rfl
theorem xw_eMrk_init : Cond.instanceMethod m_Mrk_init.1 ∈ x_W := x_inW (i := 91) (by decide +kernel) (by decide +kernel)
set_option maxRecDepth 100000 in
theorem xw_dMrk_clear : Cond.code m_Mrk_clear.1 m_Mrk_clear.2.1 m_Mrk_clear.2.2.1 m_Mrk_clear.2.2.2.1 ∈ x_W := x_inW (i := 412) rfl rfl
theorem xw_eMrk_clear : Cond.instanceMethod m_Mrk_clear.1 ∈ x_W := x_inW (i := 410) (by decide +kernel) (by decide +kernel)
theorem xw_vMrk_clear : Cond.selects m_Mrk_clear.1.cls m_Mrk_clear.1 m_Mrk_clear.1 ∈ x_W := x_inW (i := 411) (by decide +kernel) (by decide +kernel)
set_option maxRecDepth 100000 in
theorem xw_dMrk_add : Cond.code m_Mrk_add.1 m_Mrk_add.2.1 m_Mrk_add.2.2.1 m_Mrk_add.2.2.2.1 ∈ x_W := x_inW (i := 419) rfl rfl
theorem xw_eMrk_add : Cond.instanceMethod m_Mrk_add.1 ∈ x_W := x_inW (i := 417) (by decide +kernel) (by decide +kernel)
theorem xw_vMrk_add : Cond.selects m_Mrk_add.1.cls m_Mrk_add.1 m_Mrk_add.1 ∈ x_W := x_inW (i := 418) (by decide +kernel) (by decide +kernel)
set_option maxRecDepth 100000 in
theorem xw_dMrk_copyFrom : Cond.code m_Mrk_copyFrom.1 m_Mrk_copyFrom.2.1 m_Mrk_copyFrom.2.2.1 m_Mrk_copyFrom.2.2.2.1 ∈ x_W := x_inW (i := 589) rfl rfl
theorem xw_eMrk_copyFrom : Cond.instanceMethod m_Mrk_copyFrom.1 ∈ x_W := x_inW (i := 587) (by decide +kernel) (by decide +kernel)
theorem xw_vMrk_copyFrom : Cond.selects m_Mrk_copyFrom.1.cls m_Mrk_copyFrom.1 m_Mrk_copyFrom.1 ∈ x_W := x_inW (i := 588) (by decide +kernel) (by decide +kernel)
set_option maxRecDepth 100000 in
theorem xw_dMrk_earliest : Cond.code m_Mrk_earliest.1 m_Mrk_earliest.2.1 m_Mrk_earliest.2.2.1 m_Mrk_earliest.2.2.2.1 ∈ x_W := x_inW (i := 623) rfl rfl
theorem xw_eMrk_earliest : Cond.instanceMethod m_Mrk_earliest.1 ∈ x_W := x_inW (i := 621) (by decide +kernel) (by decide +kernel)
theorem xw_vMrk_earliest : Cond.selects m_Mrk_earliest.1.cls m_Mrk_earliest.1 m_Mrk_earliest.1 ∈ x_W := x_inW (i := 622) (by decide +kernel) (by decide +kernel)
set_option maxRecDepth 100000 in
theorem xw_dMrk_latest : Cond.code m_Mrk_latest.1 m_Mrk_latest.2.1 m_Mrk_latest.2.2.1 m_Mrk_latest.2.2.2.1 ∈ x_W := x_inW (i := 599) rfl rfl
theorem xw_eMrk_latest : Cond.instanceMethod m_Mrk_latest.1 ∈ x_W := x_inW (i := 597) (by decide +kernel) (by decide +kernel)
theorem xw_vMrk_latest : Cond.selects m_Mrk_latest.1.cls m_Mrk_latest.1 m_Mrk_latest.1 ∈ x_W := x_inW (i := 598) (by decide +kernel) (by decide +kernel)
set_option maxRecDepth 100000 in
theorem xw_dMrk_firstOpen : Cond.code m_Mrk_firstOpen.1 m_Mrk_firstOpen.2.1 m_Mrk_firstOpen.2.2.1 m_Mrk_firstOpen.2.2.2.1 ∈ x_W := x_inW (i := 615) rfl rfl
theorem xw_eMrk_firstOpen : Cond.instanceMethod m_Mrk_firstOpen.1 ∈ x_W := x_inW (i := 613) (by decide +kernel) (by decide +kernel)
theorem xw_vMrk_firstOpen : Cond.selects m_Mrk_firstOpen.1.cls m_Mrk_firstOpen.1 m_Mrk_firstOpen.1 ∈ x_W := x_inW (i := 614) (by decide +kernel) (by decide +kernel)
set_option maxRecDepth 100000 in
theorem xw_dMrk_anyOpenBefore : Cond.code m_Mrk_anyOpenBefore.1 m_Mrk_anyOpenBefore.2.1 m_Mrk_anyOpenBefore.2.2.1 m_Mrk_anyOpenBefore.2.2.2.1 ∈ x_W := x_inW (i := 619) rfl rfl
theorem xw_eMrk_anyOpenBefore : Cond.instanceMethod m_Mrk_anyOpenBefore.1 ∈ x_W := x_inW (i := 617) (by decide +kernel) (by decide +kernel)
theorem xw_vMrk_anyOpenBefore : Cond.selects m_Mrk_anyOpenBefore.1.cls m_Mrk_anyOpenBefore.1 m_Mrk_anyOpenBefore.1 ∈ x_W := x_inW (i := 618) (by decide +kernel) (by decide +kernel)
set_option maxRecDepth 100000 in
theorem xw_dMrk_passUpTo : Cond.code m_Mrk_passUpTo.1 m_Mrk_passUpTo.2.1 m_Mrk_passUpTo.2.2.1 m_Mrk_passUpTo.2.2.2.1 ∈ x_W := x_inW (i := 628) rfl rfl
theorem xw_eMrk_passUpTo : Cond.instanceMethod m_Mrk_passUpTo.1 ∈ x_W := x_inW (i := 626) (by decide +kernel) (by decide +kernel)
theorem xw_vMrk_passUpTo : Cond.selects m_Mrk_passUpTo.1.cls m_Mrk_passUpTo.1 m_Mrk_passUpTo.1 ∈ x_W := x_inW (i := 627) (by decide +kernel) (by decide +kernel)
set_option maxRecDepth 100000 in
theorem xw_dMrk_passBehind : Cond.code m_Mrk_passBehind.1 m_Mrk_passBehind.2.1 m_Mrk_passBehind.2.2.1 m_Mrk_passBehind.2.2.2.1 ∈ x_W := x_inW (i := 595) rfl rfl
theorem xw_eMrk_passBehind : Cond.instanceMethod m_Mrk_passBehind.1 ∈ x_W := x_inW (i := 593) (by decide +kernel) (by decide +kernel)
theorem xw_vMrk_passBehind : Cond.selects m_Mrk_passBehind.1.cls m_Mrk_passBehind.1 m_Mrk_passBehind.1 ∈ x_W := x_inW (i := 594) (by decide +kernel) (by decide +kernel)
set_option maxRecDepth 100000 in
theorem xw_dMrk_shown : Cond.code m_Mrk_shown.1 m_Mrk_shown.2.1 m_Mrk_shown.2.2.1 m_Mrk_shown.2.2.2.1 ∈ x_W := x_inW (i := 709) rfl rfl
theorem xw_eMrk_shown : Cond.instanceMethod m_Mrk_shown.1 ∈ x_W := x_inW (i := 707) (by decide +kernel) (by decide +kernel)
theorem xw_vMrk_shown : Cond.selects m_Mrk_shown.1.cls m_Mrk_shown.1 m_Mrk_shown.1 ∈ x_W := x_inW (i := 708) (by decide +kernel) (by decide +kernel)
set_option maxRecDepth 100000 in
theorem xw_dMsg_init : Cond.code m_Msg_init.1 m_Msg_init.2.1 m_Msg_init.2.2.1 m_Msg_init.2.2.2.1 ∈ x_W := x_inW (i := 171) rfl rfl
theorem xw_eMsg_init : Cond.instanceMethod m_Msg_init.1 ∈ x_W := x_inW (i := 170) (by decide +kernel) (by decide +kernel)
set_option maxRecDepth 100000 in
theorem xw_dMsg_endedNumber : Cond.code m_Msg_endedNumber.1 m_Msg_endedNumber.2.1 m_Msg_endedNumber.2.2.1 m_Msg_endedNumber.2.2.2.1 ∈ x_W := x_inW (i := 528) rfl rfl
theorem xw_eMsg_endedNumber : Cond.instanceMethod m_Msg_endedNumber.1 ∈ x_W := x_inW (i := 526) (by decide +kernel) (by decide +kernel)
theorem xw_vMsg_endedNumber : Cond.selects m_Msg_endedNumber.1.cls m_Msg_endedNumber.1 m_Msg_endedNumber.1 ∈ x_W := x_inW (i := 527) (by decide +kernel) (by decide +kernel)
set_option maxRecDepth 100000 in
theorem xw_dMsg_readFrom : Cond.code m_Msg_readFrom.1 m_Msg_readFrom.2.1 m_Msg_readFrom.2.2.1 m_Msg_readFrom.2.2.2.1 ∈ x_W := x_inW (i := 370) rfl rfl
theorem xw_eMsg_readFrom : Cond.instanceMethod m_Msg_readFrom.1 ∈ x_W := x_inW (i := 368) (by decide +kernel) (by decide +kernel)
theorem xw_vMsg_readFrom : Cond.selects m_Msg_readFrom.1.cls m_Msg_readFrom.1 m_Msg_readFrom.1 ∈ x_W := x_inW (i := 369) (by decide +kernel) (by decide +kernel)
set_option maxRecDepth 100000 in
theorem xw_dMsg_readPacket : Cond.code m_Msg_readPacket.1 m_Msg_readPacket.2.1 m_Msg_readPacket.2.2.1 m_Msg_readPacket.2.2.2.1 ∈ x_W := x_inW (i := 397) rfl rfl
theorem xw_eMsg_readPacket : Cond.instanceMethod m_Msg_readPacket.1 ∈ x_W := x_inW (i := 396) (by decide +kernel) (by decide +kernel)
theorem xw_vMsg_readPacket : Cond.selects m_Msg_readPacket.1.cls m_Msg_readPacket.1 m_Msg_readPacket.1 ∈ x_W := x_inP (i := 0) (by decide +kernel) (by decide +kernel)
set_option maxRecDepth 100000 in
theorem xw_dMsg_slotOf : Cond.code m_Msg_slotOf.1 m_Msg_slotOf.2.1 m_Msg_slotOf.2.2.1 m_Msg_slotOf.2.2.2.1 ∈ x_W := x_inW (i := 400) rfl rfl
theorem xw_sMsg_slotOf : Cond.static m_Msg_slotOf.1 ∈ x_W := x_inW (i := 399) (by decide +kernel) (by decide +kernel)
set_option maxRecDepth 100000 in
theorem xw_dMsg_readNumbers : Cond.code m_Msg_readNumbers.1 m_Msg_readNumbers.2.1 m_Msg_readNumbers.2.2.1 m_Msg_readNumbers.2.2.2.1 ∈ x_W := x_inW (i := 404) rfl rfl
theorem xw_eMsg_readNumbers : Cond.instanceMethod m_Msg_readNumbers.1 ∈ x_W := x_inW (i := 403) (by decide +kernel) (by decide +kernel)
theorem xw_vMsg_readNumbers : Cond.selects m_Msg_readNumbers.1.cls m_Msg_readNumbers.1 m_Msg_readNumbers.1 ∈ x_W := x_inP (i := 1) (by decide +kernel) (by decide +kernel)
set_option maxRecDepth 100000 in
theorem xw_dMsg_readMarks : Cond.code m_Msg_readMarks.1 m_Msg_readMarks.2.1 m_Msg_readMarks.2.2.1 m_Msg_readMarks.2.2.2.1 ∈ x_W := x_inW (i := 408) rfl rfl
theorem xw_eMsg_readMarks : Cond.instanceMethod m_Msg_readMarks.1 ∈ x_W := x_inW (i := 407) (by decide +kernel) (by decide +kernel)
theorem xw_vMsg_readMarks : Cond.selects m_Msg_readMarks.1.cls m_Msg_readMarks.1 m_Msg_readMarks.1 ∈ x_W := x_inP (i := 2) (by decide +kernel) (by decide +kernel)
set_option maxRecDepth 100000 in
theorem xw_dMsg_readAuthority : Cond.code m_Msg_readAuthority.1 m_Msg_readAuthority.2.1 m_Msg_readAuthority.2.2.1 m_Msg_readAuthority.2.2.2.1 ∈ x_W := x_inW (i := 423) rfl rfl
theorem xw_eMsg_readAuthority : Cond.instanceMethod m_Msg_readAuthority.1 ∈ x_W := x_inW (i := 422) (by decide +kernel) (by decide +kernel)
theorem xw_vMsg_readAuthority : Cond.selects m_Msg_readAuthority.1.cls m_Msg_readAuthority.1 m_Msg_readAuthority.1 ∈ x_W := x_inP (i := 3) (by decide +kernel) (by decide +kernel)
set_option maxRecDepth 100000 in
theorem xw_dMsg_readSteps : Cond.code m_Msg_readSteps.1 m_Msg_readSteps.2.1 m_Msg_readSteps.2.2.1 m_Msg_readSteps.2.2.2.1 ∈ x_W := x_inW (i := 427) rfl rfl
theorem xw_eMsg_readSteps : Cond.instanceMethod m_Msg_readSteps.1 ∈ x_W := x_inW (i := 426) (by decide +kernel) (by decide +kernel)
theorem xw_vMsg_readSteps : Cond.selects m_Msg_readSteps.1.cls m_Msg_readSteps.1 m_Msg_readSteps.1 ∈ x_W := x_inP (i := 4) (by decide +kernel) (by decide +kernel)
set_option maxRecDepth 100000 in
theorem xw_dMsg_readRestriction : Cond.code m_Msg_readRestriction.1 m_Msg_readRestriction.2.1 m_Msg_readRestriction.2.2.1 m_Msg_readRestriction.2.2.2.1 ∈ x_W := x_inW (i := 448) rfl rfl
theorem xw_eMsg_readRestriction : Cond.instanceMethod m_Msg_readRestriction.1 ∈ x_W := x_inW (i := 447) (by decide +kernel) (by decide +kernel)
theorem xw_vMsg_readRestriction : Cond.selects m_Msg_readRestriction.1.cls m_Msg_readRestriction.1 m_Msg_readRestriction.1 ∈ x_W := x_inP (i := 5) (by decide +kernel) (by decide +kernel)
set_option maxRecDepth 100000 in
theorem xw_dMsg_takePlace : Cond.code m_Msg_takePlace.1 m_Msg_takePlace.2.1 m_Msg_takePlace.2.2.1 m_Msg_takePlace.2.2.2.1 ∈ x_W := x_inW (i := 385) rfl rfl
theorem xw_sMsg_takePlace : Cond.static m_Msg_takePlace.1 ∈ x_W := x_inW (i := 384) (by decide +kernel) (by decide +kernel)
set_option maxRecDepth 100000 in
theorem xw_dMsg_takePlaceBehind : Cond.code m_Msg_takePlaceBehind.1 m_Msg_takePlaceBehind.2.1 m_Msg_takePlaceBehind.2.2.1 m_Msg_takePlaceBehind.2.2.2.1 ∈ x_W := x_inW (i := 415) rfl rfl
theorem xw_sMsg_takePlaceBehind : Cond.static m_Msg_takePlaceBehind.1 ∈ x_W := x_inW (i := 414) (by decide +kernel) (by decide +kernel)
set_option maxRecDepth 100000 in
theorem xw_dMsg_takeLimit : Cond.code m_Msg_takeLimit.1 m_Msg_takeLimit.2.1 m_Msg_takeLimit.2.2.1 m_Msg_takeLimit.2.2.2.1 ∈ x_W := x_inW (i := 434) rfl rfl
theorem xw_sMsg_takeLimit : Cond.static m_Msg_takeLimit.1 ∈ x_W := x_inW (i := 433) (by decide +kernel) (by decide +kernel)
set_option maxRecDepth 100000 in
theorem xw_dNot_init : Cond.code m_Not_init.1 m_Not_init.2.1 m_Not_init.2.2.1 m_Not_init.2.2.2.1 ∈ x_W := x_inW (i := 260) rfl rfl
theorem xw_eNot_init : Cond.instanceMethod m_Not_init.1 ∈ x_W := x_inW (i := 259) (by decide +kernel) (by decide +kernel)
set_option maxRecDepth 100000 in
theorem xw_dNot_add : Cond.code m_Not_add.1 m_Not_add.2.1 m_Not_add.2.2.1 m_Not_add.2.2.2.1 ∈ x_W := x_inW (i := 544) rfl rfl
theorem xw_eNot_add : Cond.instanceMethod m_Not_add.1 ∈ x_W := x_inW (i := 542) (by decide +kernel) (by decide +kernel)
theorem xw_vNot_add : Cond.selects m_Not_add.1.cls m_Not_add.1 m_Not_add.1 ∈ x_W := x_inW (i := 543) (by decide +kernel) (by decide +kernel)
set_option maxRecDepth 100000 in
theorem xw_dNot_get : Cond.code m_Not_get.1 m_Not_get.2.1 m_Not_get.2.2.1 m_Not_get.2.2.2.1 ∈ x_W := x_inW (i := 717) rfl rfl
theorem xw_eNot_get : Cond.instanceMethod m_Not_get.1 ∈ x_W := x_inW (i := 715) (by decide +kernel) (by decide +kernel)
theorem xw_vNot_get : Cond.selects m_Not_get.1.cls m_Not_get.1 m_Not_get.1 ∈ x_W := x_inW (i := 716) (by decide +kernel) (by decide +kernel)
set_option maxRecDepth 100000 in
theorem xw_dRes_init : Cond.code m_Res_init.1 m_Res_init.2.1 m_Res_init.2.2.1 m_Res_init.2.2.2.1 ∈ x_W := x_inW (i := 75) rfl rfl
theorem xw_eRes_init : Cond.instanceMethod m_Res_init.1 ∈ x_W := x_inW (i := 74) (by decide +kernel) (by decide +kernel)
set_option maxRecDepth 100000 in
theorem xw_dRes_hasRoom : Cond.code m_Res_hasRoom.1 m_Res_hasRoom.2.1 m_Res_hasRoom.2.2.1 m_Res_hasRoom.2.2.2.1 ∈ x_W := x_inW (i := 532) rfl rfl
theorem xw_eRes_hasRoom : Cond.instanceMethod m_Res_hasRoom.1 ∈ x_W := x_inW (i := 530) (by decide +kernel) (by decide +kernel)
theorem xw_vRes_hasRoom : Cond.selects m_Res_hasRoom.1.cls m_Res_hasRoom.1 m_Res_hasRoom.1 ∈ x_W := x_inW (i := 531) (by decide +kernel) (by decide +kernel)
set_option maxRecDepth 100000 in
theorem xw_dRes_remove : Cond.code m_Res_remove.1 m_Res_remove.2.1 m_Res_remove.2.2.1 m_Res_remove.2.2.2.1 ∈ x_W := x_inW (i := 570) rfl rfl
theorem xw_eRes_remove : Cond.instanceMethod m_Res_remove.1 ∈ x_W := x_inW (i := 568) (by decide +kernel) (by decide +kernel)
theorem xw_vRes_remove : Cond.selects m_Res_remove.1.cls m_Res_remove.1 m_Res_remove.1 ∈ x_W := x_inW (i := 569) (by decide +kernel) (by decide +kernel)
set_option maxRecDepth 100000 in
theorem xw_dRes_put : Cond.code m_Res_put.1 m_Res_put.2.1 m_Res_put.2.2.1 m_Res_put.2.2.2.1 ∈ x_W := x_inW (i := 578) rfl rfl
theorem xw_eRes_put : Cond.instanceMethod m_Res_put.1 ∈ x_W := x_inW (i := 576) (by decide +kernel) (by decide +kernel)
theorem xw_vRes_put : Cond.selects m_Res_put.1.cls m_Res_put.1 m_Res_put.1 ∈ x_W := x_inW (i := 577) (by decide +kernel) (by decide +kernel)
set_option maxRecDepth 100000 in
theorem xw_dRes_indexOf : Cond.code m_Res_indexOf.1 m_Res_indexOf.2.1 m_Res_indexOf.2.2.1 m_Res_indexOf.2.2.2.1 ∈ x_W := x_inW (i := 536) rfl rfl
theorem xw_eRes_indexOf : Cond.instanceMethod m_Res_indexOf.1 ∈ x_W := x_inW (i := 535) (by decide +kernel) (by decide +kernel)
theorem xw_vRes_indexOf : Cond.selects m_Res_indexOf.1.cls m_Res_indexOf.1 m_Res_indexOf.1 ∈ x_W := x_inP (i := 17) (by decide +kernel) (by decide +kernel)
set_option maxRecDepth 100000 in
theorem xw_dSpn_init : Cond.code m_Spn_init.1 m_Spn_init.2.1 m_Spn_init.2.2.1 m_Spn_init.2.2.2.1 ∈ x_W := x_inW (i := 51) rfl rfl
theorem xw_eSpn_init : Cond.instanceMethod m_Spn_init.1 ∈ x_W := x_inW (i := 50) (by decide +kernel) (by decide +kernel)
set_option maxRecDepth 100000 in
theorem xw_dSpn_isEmpty : Cond.code m_Spn_isEmpty.1 m_Spn_isEmpty.2.1 m_Spn_isEmpty.2.2.1 m_Spn_isEmpty.2.2.2.1 ∈ x_W := x_inW (i := 603) rfl rfl
theorem xw_eSpn_isEmpty : Cond.instanceMethod m_Spn_isEmpty.1 ∈ x_W := x_inW (i := 601) (by decide +kernel) (by decide +kernel)
theorem xw_vSpn_isEmpty : Cond.selects m_Spn_isEmpty.1.cls m_Spn_isEmpty.1 m_Spn_isEmpty.1 ∈ x_W := x_inW (i := 602) (by decide +kernel) (by decide +kernel)
set_option maxRecDepth 100000 in
theorem xw_dSpn_clear : Cond.code m_Spn_clear.1 m_Spn_clear.2.1 m_Spn_clear.2.2.1 m_Spn_clear.2.2.2.1 ∈ x_W := x_inW (i := 431) rfl rfl
theorem xw_eSpn_clear : Cond.instanceMethod m_Spn_clear.1 ∈ x_W := x_inW (i := 429) (by decide +kernel) (by decide +kernel)
theorem xw_vSpn_clear : Cond.selects m_Spn_clear.1.cls m_Spn_clear.1 m_Spn_clear.1 ∈ x_W := x_inW (i := 430) (by decide +kernel) (by decide +kernel)
set_option maxRecDepth 100000 in
theorem xw_dSpn_add : Cond.code m_Spn_add.1 m_Spn_add.2.1 m_Spn_add.2.2.1 m_Spn_add.2.2.2.1 ∈ x_W := x_inW (i := 444) rfl rfl
theorem xw_eSpn_add : Cond.instanceMethod m_Spn_add.1 ∈ x_W := x_inW (i := 442) (by decide +kernel) (by decide +kernel)
theorem xw_vSpn_add : Cond.selects m_Spn_add.1.cls m_Spn_add.1 m_Spn_add.1 ∈ x_W := x_inW (i := 443) (by decide +kernel) (by decide +kernel)
set_option maxRecDepth 100000 in
theorem xw_dSpn_addStep : Cond.code m_Spn_addStep.1 m_Spn_addStep.2.1 m_Spn_addStep.2.2.1 m_Spn_addStep.2.2.2.1 ∈ x_W := x_inW (i := 439) rfl rfl
theorem xw_eSpn_addStep : Cond.instanceMethod m_Spn_addStep.1 ∈ x_W := x_inW (i := 437) (by decide +kernel) (by decide +kernel)
theorem xw_vSpn_addStep : Cond.selects m_Spn_addStep.1.cls m_Spn_addStep.1 m_Spn_addStep.1 ∈ x_W := x_inW (i := 438) (by decide +kernel) (by decide +kernel)
set_option maxRecDepth 100000 in
theorem xw_dSpn_copyFrom : Cond.code m_Spn_copyFrom.1 m_Spn_copyFrom.2.1 m_Spn_copyFrom.2.2.1 m_Spn_copyFrom.2.2.2.1 ∈ x_W := x_inW (i := 584) rfl rfl
theorem xw_eSpn_copyFrom : Cond.instanceMethod m_Spn_copyFrom.1 ∈ x_W := x_inW (i := 582) (by decide +kernel) (by decide +kernel)
theorem xw_vSpn_copyFrom : Cond.selects m_Spn_copyFrom.1.cls m_Spn_copyFrom.1 m_Spn_copyFrom.1 ∈ x_W := x_inW (i := 583) (by decide +kernel) (by decide +kernel)
set_option maxRecDepth 100000 in
theorem xw_dSpn_fillFromLast : Cond.code m_Spn_fillFromLast.1 m_Spn_fillFromLast.2.1 m_Spn_fillFromLast.2.2.1 m_Spn_fillFromLast.2.2.2.1 ∈ x_W := x_inW (i := 574) rfl rfl
theorem xw_eSpn_fillFromLast : Cond.instanceMethod m_Spn_fillFromLast.1 ∈ x_W := x_inW (i := 572) (by decide +kernel) (by decide +kernel)
theorem xw_vSpn_fillFromLast : Cond.selects m_Spn_fillFromLast.1.cls m_Spn_fillFromLast.1 m_Spn_fillFromLast.1 ∈ x_W := x_inW (i := 573) (by decide +kernel) (by decide +kernel)
set_option maxRecDepth 100000 in
theorem xw_dSpn_least : Cond.code m_Spn_least.1 m_Spn_least.2.1 m_Spn_least.2.2.1 m_Spn_least.2.2.2.1 ∈ x_W := x_inW (i := 484) rfl rfl
theorem xw_eSpn_least : Cond.instanceMethod m_Spn_least.1 ∈ x_W := x_inW (i := 482) (by decide +kernel) (by decide +kernel)
theorem xw_vSpn_least : Cond.selects m_Spn_least.1.cls m_Spn_least.1 m_Spn_least.1 ∈ x_W := x_inW (i := 483) (by decide +kernel) (by decide +kernel)
set_option maxRecDepth 100000 in
theorem xw_dSpn_greatest : Cond.code m_Spn_greatest.1 m_Spn_greatest.2.1 m_Spn_greatest.2.2.1 m_Spn_greatest.2.2.2.1 ∈ x_W := x_inW (i := 497) rfl rfl
theorem xw_eSpn_greatest : Cond.instanceMethod m_Spn_greatest.1 ∈ x_W := x_inW (i := 495) (by decide +kernel) (by decide +kernel)
theorem xw_vSpn_greatest : Cond.selects m_Spn_greatest.1.cls m_Spn_greatest.1 m_Spn_greatest.1 ∈ x_W := x_inW (i := 496) (by decide +kernel) (by decide +kernel)
set_option maxRecDepth 100000 in
theorem xw_dTrk_init : Cond.code m_Trk_init.1 m_Trk_init.2.1 m_Trk_init.2.2.1 m_Trk_init.2.2.2.1 ∈ x_W := x_inW (i := 45) rfl rfl
theorem xw_eTrk_init : Cond.instanceMethod m_Trk_init.1 ∈ x_W := x_inW (i := 44) (by decide +kernel) (by decide +kernel)
set_option maxRecDepth 100000 in
theorem xw_dTrk_forget : Cond.code m_Trk_forget.1 m_Trk_forget.2.1 m_Trk_forget.2.2.1 m_Trk_forget.2.2.2.1 ∈ x_W := x_inW (i := 560) rfl rfl
theorem xw_eTrk_forget : Cond.instanceMethod m_Trk_forget.1 ∈ x_W := x_inW (i := 558) (by decide +kernel) (by decide +kernel)
theorem xw_vTrk_forget : Cond.selects m_Trk_forget.1.cls m_Trk_forget.1 m_Trk_forget.1 ∈ x_W := x_inW (i := 559) (by decide +kernel) (by decide +kernel)
set_option maxRecDepth 100000 in
theorem xw_dTrk_leastLimit : Cond.code m_Trk_leastLimit.1 m_Trk_leastLimit.2.1 m_Trk_leastLimit.2.2.1 m_Trk_leastLimit.2.2.2.1 ∈ x_W := x_inW (i := 480) rfl rfl
theorem xw_eTrk_leastLimit : Cond.instanceMethod m_Trk_leastLimit.1 ∈ x_W := x_inW (i := 478) (by decide +kernel) (by decide +kernel)
theorem xw_vTrk_leastLimit : Cond.selects m_Trk_leastLimit.1.cls m_Trk_leastLimit.1 m_Trk_leastLimit.1 ∈ x_W := x_inW (i := 479) (by decide +kernel) (by decide +kernel)
set_option maxRecDepth 100000 in
theorem xw_dTrk_put : Cond.code m_Trk_put.1 m_Trk_put.2.1 m_Trk_put.2.2.1 m_Trk_put.2.2.2.1 ∈ x_W := x_inW (i := 566) rfl rfl
theorem xw_eTrk_put : Cond.instanceMethod m_Trk_put.1 ∈ x_W := x_inW (i := 564) (by decide +kernel) (by decide +kernel)
theorem xw_vTrk_put : Cond.selects m_Trk_put.1.cls m_Trk_put.1 m_Trk_put.1 ∈ x_W := x_inW (i := 565) (by decide +kernel) (by decide +kernel)
set_option maxRecDepth 100000 in
theorem xw_dLaw_cell : Cond.code m_Law_cell.1 m_Law_cell.2.1 m_Law_cell.2.2.1 m_Law_cell.2.2.2.1 ∈ x_W := x_inW (i := 720) rfl rfl
theorem xw_sLaw_cell : Cond.static m_Law_cell.1 ∈ x_W := x_inW (i := 719) (by decide +kernel) (by decide +kernel)
set_option maxRecDepth 100000 in
theorem xw_dMth_max : Cond.code m_Mth_max.1 m_Mth_max.2.1 m_Mth_max.2.2.1 m_Mth_max.2.2.2.1 ∈ x_W := x_inW (i := 280) rfl rfl
theorem xw_sMth_max : Cond.static m_Mth_max.1 ∈ x_W := x_inW (i := 279) (by decide +kernel) (by decide +kernel)
set_option maxRecDepth 100000 in
theorem xw_dMth_min : Cond.code m_Mth_min.1 m_Mth_min.2.1 m_Mth_min.2.2.1 m_Mth_min.2.2.2.1 ∈ x_W := x_inW (i := 277) rfl rfl
theorem xw_sMth_min : Cond.static m_Mth_min.1 ∈ x_W := x_inW (i := 276) (by decide +kernel) (by decide +kernel)
