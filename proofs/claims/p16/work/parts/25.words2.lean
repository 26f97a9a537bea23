theorem ca_eI : Cond.castable eI eI ∈ lw_tbl := by decide +kernel
theorem ca_eS : Cond.castable eS eS ∈ lw_tbl := by decide +kernel
theorem ca_nseC : Cond.castable nseC nseC ∈ lw_tbl := by decide +kernel
theorem ct_X7_29 : Cond.constant RX7 29 1000000 ∈ TT := TT_in 377 (by decide +kernel) (by decide +kernel)
theorem cl_X7_30 : Cond.classLink RX7 30 "java/lang/IllegalArgumentException" ∈ TT := TT_in 378 (by decide +kernel) (by decide +kernel)
theorem init_eI : Cond.initialized "java/lang/IllegalArgumentException" ∈ TT := TT_in 66 (by decide +kernel) (by decide +kernel)
theorem cl_X7_41 : Cond.classLink RX7 41 "java/lang/IllegalStateException" ∈ TT := TT_in 446 (by decide +kernel) (by decide +kernel)
theorem init_eS : Cond.initialized "java/lang/IllegalStateException" ∈ TT := TT_in 67 (by decide +kernel) (by decide +kernel)
theorem co_X1_rename : Cond.code yX1_rename cX1_rename 3 none ∈ TT := TT_in 465 (by decide +kernel) (by decide +kernel)
theorem md_X1_rename : yX1_rename.cls ≠ "java/lang/invoke/MethodHandle" ∧ yX1_rename.cls ≠ "java/lang/invoke/VarHandle" ∧ (parseMethodDescriptor yX1_rename.desc).map (fun d => d.parameters.length) = some 1 := by decide +kernel
theorem ml_X7_46 : Cond.methodLink RX7 46 yX1_rename ∈ TT := TT_in 462 (by decide +kernel) (by decide +kernel)
theorem im_X1_rename : Cond.instanceMethod yX1_rename ∈ TT := TT_in 463 (by decide +kernel) (by decide +kernel)
theorem se_X1_rename : Cond.selects yX1_rename.cls yX1_rename yX1_rename ∈ TT := TT_in 464 (by decide +kernel) (by decide +kernel)
theorem co_X7_noteChange : Cond.code yX7_noteChange cX7_noteChange 3 none ∈ TT := TT_in 469 (by decide +kernel) (by decide +kernel)
theorem md_X7_noteChange : yX7_noteChange.cls ≠ "java/lang/invoke/MethodHandle" ∧ yX7_noteChange.cls ≠ "java/lang/invoke/VarHandle" ∧ (parseMethodDescriptor yX7_noteChange.desc).map (fun d => d.parameters.length) = some 0 := by decide +kernel
theorem ml_X7_49 : Cond.methodLink RX7 49 yX7_noteChange ∈ TT := TT_in 466 (by decide +kernel) (by decide +kernel)
theorem im_X7_noteChange : Cond.instanceMethod yX7_noteChange ∈ TT := TT_in 468 (by decide +kernel) (by decide +kernel)
theorem se_X7_noteChange : Cond.selects yX7_noteChange.cls yX7_noteChange yX7_noteChange ∈ TT := TT_in 1 (by decide +kernel) (by decide +kernel)
theorem co_X7_isWord : Cond.code yX7_isWord cX7_isWord 1 (some .boolean) ∈ TT := TT_in 518 (by decide +kernel) (by decide +kernel)
theorem md_X7_isWord : yX7_isWord.cls ≠ "java/lang/invoke/MethodHandle" ∧ yX7_isWord.cls ≠ "java/lang/invoke/VarHandle" ∧ (parseMethodDescriptor yX7_isWord.desc).map (fun d => d.parameters.length) = some 1 := by decide +kernel
theorem ml_X7_60 : Cond.methodLink RX7 60 yX7_isWord ∈ TT := TT_in 516 (by decide +kernel) (by decide +kernel)
theorem sm_X7_isWord : Cond.static yX7_isWord ∈ TT := TT_in 517 (by decide +kernel) (by decide +kernel)
theorem fl_X7_75 : Cond.fieldLink RX7 75 RX6 (TX6 1).2.1 (TX6 1).2.2.1 ∈ TT := TT_in 107 (by decide +kernel) (by decide +kernel)
theorem fl_X7_80 : Cond.fieldLink RX7 80 RX6 (TX6 2).2.1 (TX6 2).2.2.1 ∈ TT := TT_in 111 (by decide +kernel) (by decide +kernel)
theorem ml_X7_83 : Cond.methodLink RX7 83 yX6_setBits ∈ TT := TT_in 521 (by decide +kernel) (by decide +kernel)
theorem co_X7_isTaken : Cond.code yX7_isTaken cX7_isTaken 2 (some .boolean) ∈ TT := TT_in 546 (by decide +kernel) (by decide +kernel)
theorem md_X7_isTaken : yX7_isTaken.cls ≠ "java/lang/invoke/MethodHandle" ∧ yX7_isTaken.cls ≠ "java/lang/invoke/VarHandle" ∧ (parseMethodDescriptor yX7_isTaken.desc).map (fun d => d.parameters.length) = some 2 := by decide +kernel
theorem ml_X7_94 : Cond.methodLink RX7 94 yX7_isTaken ∈ TT := TT_in 544 (by decide +kernel) (by decide +kernel)
theorem sm_X7_isTaken : Cond.static yX7_isTaken ∈ TT := TT_in 545 (by decide +kernel) (by decide +kernel)
theorem co_X7_takeOut : Cond.code yX7_takeOut cX7_takeOut 3 none ∈ TT := TT_in 551 (by decide +kernel) (by decide +kernel)
theorem md_X7_takeOut : yX7_takeOut.cls ≠ "java/lang/invoke/MethodHandle" ∧ yX7_takeOut.cls ≠ "java/lang/invoke/VarHandle" ∧ (parseMethodDescriptor yX7_takeOut.desc).map (fun d => d.parameters.length) = some 1 := by decide +kernel
theorem ml_X7_100 : Cond.methodLink RX7 100 yX7_takeOut ∈ TT := TT_in 548 (by decide +kernel) (by decide +kernel)
theorem im_X7_takeOut : Cond.instanceMethod yX7_takeOut ∈ TT := TT_in 550 (by decide +kernel) (by decide +kernel)
theorem se_X7_takeOut : Cond.selects yX7_takeOut.cls yX7_takeOut yX7_takeOut ∈ TT := TT_in 4 (by decide +kernel) (by decide +kernel)
theorem co_X7_putIn : Cond.code yX7_putIn cX7_putIn 4 none ∈ TT := TT_in 581 (by decide +kernel) (by decide +kernel)
theorem md_X7_putIn : yX7_putIn.cls ≠ "java/lang/invoke/MethodHandle" ∧ yX7_putIn.cls ≠ "java/lang/invoke/VarHandle" ∧ (parseMethodDescriptor yX7_putIn.desc).map (fun d => d.parameters.length) = some 3 := by decide +kernel
theorem ml_X7_104 : Cond.methodLink RX7 104 yX7_putIn ∈ TT := TT_in 578 (by decide +kernel) (by decide +kernel)
theorem im_X7_putIn : Cond.instanceMethod yX7_putIn ∈ TT := TT_in 580 (by decide +kernel) (by decide +kernel)
theorem se_X7_putIn : Cond.selects yX7_putIn.cls yX7_putIn yX7_putIn ∈ TT := TT_in 6 (by decide +kernel) (by decide +kernel)
theorem co_X7_switchOn : Cond.code yX7_switchOn cX7_switchOn 3 none ∈ TT := TT_in 585 (by decide +kernel) (by decide +kernel)
theorem md_X7_switchOn : yX7_switchOn.cls ≠ "java/lang/invoke/MethodHandle" ∧ yX7_switchOn.cls ≠ "java/lang/invoke/VarHandle" ∧ (parseMethodDescriptor yX7_switchOn.desc).map (fun d => d.parameters.length) = some 1 := by decide +kernel
theorem ml_X7_111 : Cond.methodLink RX7 111 yX7_switchOn ∈ TT := TT_in 582 (by decide +kernel) (by decide +kernel)
theorem im_X7_switchOn : Cond.instanceMethod yX7_switchOn ∈ TT := TT_in 584 (by decide +kernel) (by decide +kernel)
theorem se_X7_switchOn : Cond.selects yX7_switchOn.cls yX7_switchOn yX7_switchOn ∈ TT := TT_in 7 (by decide +kernel) (by decide +kernel)
theorem co_X7_runTick : Cond.code yX7_runTick cX7_runTick 3 none ∈ TT := TT_in 626 (by decide +kernel) (by decide +kernel)
theorem md_X7_runTick : yX7_runTick.cls ≠ "java/lang/invoke/MethodHandle" ∧ yX7_runTick.cls ≠ "java/lang/invoke/VarHandle" ∧ (parseMethodDescriptor yX7_runTick.desc).map (fun d => d.parameters.length) = some 0 := by decide +kernel
theorem ml_X7_147 : Cond.methodLink RX7 147 yX7_runTick ∈ TT := TT_in 623 (by decide +kernel) (by decide +kernel)
theorem im_X7_runTick : Cond.instanceMethod yX7_runTick ∈ TT := TT_in 625 (by decide +kernel) (by decide +kernel)
theorem se_X7_runTick : Cond.selects yX7_runTick.cls yX7_runTick yX7_runTick ∈ TT := TT_in 8 (by decide +kernel) (by decide +kernel)
theorem co_X1_giverOf : Cond.code yX1_giverOf cX1_giverOf 6 (some (.object RX5)) ∈ TT := TT_in 773 (by decide +kernel) (by decide +kernel)
theorem md_X1_giverOf : yX1_giverOf.cls ≠ "java/lang/invoke/MethodHandle" ∧ yX1_giverOf.cls ≠ "java/lang/invoke/VarHandle" ∧ (parseMethodDescriptor yX1_giverOf.desc).map (fun d => d.parameters.length) = some 2 := by decide +kernel
theorem ml_X7_152 : Cond.methodLink RX7 152 yX1_giverOf ∈ TT := TT_in 770 (by decide +kernel) (by decide +kernel)
theorem im_X1_giverOf : Cond.instanceMethod yX1_giverOf ∈ TT := TT_in 771 (by decide +kernel) (by decide +kernel)
theorem se_X1_giverOf : Cond.selects yX1_giverOf.cls yX1_giverOf yX1_giverOf ∈ TT := TT_in 772 (by decide +kernel) (by decide +kernel)
theorem co_X3_isFull : Cond.code yX3_isFull cX3_isFull 1 (some .boolean) ∈ TT := TT_in 781 (by decide +kernel) (by decide +kernel)
theorem md_X3_isFull : yX3_isFull.cls ≠ "java/lang/invoke/MethodHandle" ∧ yX3_isFull.cls ≠ "java/lang/invoke/VarHandle" ∧ (parseMethodDescriptor yX3_isFull.desc).map (fun d => d.parameters.length) = some 0 := by decide +kernel
theorem ml_X7_159 : Cond.methodLink RX7 159 yX3_isFull ∈ TT := TT_in 778 (by decide +kernel) (by decide +kernel)
theorem im_X3_isFull : Cond.instanceMethod yX3_isFull ∈ TT := TT_in 779 (by decide +kernel) (by decide +kernel)
theorem se_X3_isFull : Cond.selects yX3_isFull.cls yX3_isFull yX3_isFull ∈ TT := TT_in 780 (by decide +kernel) (by decide +kernel)
theorem co_X3_addFrame : Cond.code yX3_addFrame cX3_addFrame 3 (some (.object RX2)) ∈ TT := TT_in 785 (by decide +kernel) (by decide +kernel)
theorem md_X3_addFrame : yX3_addFrame.cls ≠ "java/lang/invoke/MethodHandle" ∧ yX3_addFrame.cls ≠ "java/lang/invoke/VarHandle" ∧ (parseMethodDescriptor yX3_addFrame.desc).map (fun d => d.parameters.length) = some 0 := by decide +kernel
theorem ml_X7_162 : Cond.methodLink RX7 162 yX3_addFrame ∈ TT := TT_in 782 (by decide +kernel) (by decide +kernel)
theorem im_X3_addFrame : Cond.instanceMethod yX3_addFrame ∈ TT := TT_in 783 (by decide +kernel) (by decide +kernel)
theorem se_X3_addFrame : Cond.selects yX3_addFrame.cls yX3_addFrame yX3_addFrame ∈ TT := TT_in 784 (by decide +kernel) (by decide +kernel)
theorem fl_X7_166 : Cond.fieldLink RX7 166 RX2 (TX2 0).2.1 (TX2 0).2.2.1 ∈ TT := TT_in 793 (by decide +kernel) (by decide +kernel)
theorem fl_X7_171 : Cond.fieldLink RX7 171 RX2 (TX2 1).2.1 (TX2 1).2.2.1 ∈ TT := TT_in 795 (by decide +kernel) (by decide +kernel)
theorem fl_X7_174 : Cond.fieldLink RX7 174 RX2 (TX2 2).2.1 (TX2 2).2.2.1 ∈ TT := TT_in 797 (by decide +kernel) (by decide +kernel)
theorem fl_X7_180 : Cond.fieldLink RX7 180 RX2 (TX2 3).2.1 (TX2 3).2.2.1 ∈ TT := TT_in 799 (by decide +kernel) (by decide +kernel)
theorem fl_X7_183 : Cond.fieldLink RX7 183 RX1 (TX1 8).2.1 (TX1 8).2.2.1 ∈ TT := TT_in 220 (by decide +kernel) (by decide +kernel)
theorem fl_X7_186 : Cond.fieldLink RX7 186 RX2 (TX2 4).2.1 (TX2 4).2.2.1 ∈ TT := TT_in 801 (by decide +kernel) (by decide +kernel)
theorem fl_X7_187 : Cond.fieldLink RX7 187 RX1 (TX1 7).2.1 (TX1 7).2.2.1 ∈ TT := TT_in 218 (by decide +kernel) (by decide +kernel)
theorem fl_X7_190 : Cond.fieldLink RX7 190 RX2 (TX2 5).2.1 (TX2 5).2.2.1 ∈ TT := TT_in 803 (by decide +kernel) (by decide +kernel)
theorem fl_X7_208 : Cond.fieldLink RX7 208 RX1 (TX1 5).2.1 (TX1 5).2.2.1 ∈ TT := TT_in 215 (by decide +kernel) (by decide +kernel)
theorem cl_X7_211 : Cond.classLink RX7 211 "java/util/NoSuchElementException" ∈ TT := TT_in 829 (by decide +kernel) (by decide +kernel)
theorem init_nseC : Cond.initialized "java/util/NoSuchElementException" ∈ TT := TT_in 70 (by decide +kernel) (by decide +kernel)
theorem fl_X7_216 : Cond.fieldLink RX7 216 RX1 (TX1 6).2.1 (TX1 6).2.2.1 ∈ TT := TT_in 217 (by decide +kernel) (by decide +kernel)
theorem co_M_floorMod : Cond.code yM_floorMod cM_floorMod 3 (some .int) ∈ TT := TT_in 847 (by decide +kernel) (by decide +kernel)
theorem init_M : Cond.initialized "java/lang/Math" ∈ TT := TT_in 68 (by decide +kernel) (by decide +kernel)
theorem md_M_floorMod : yM_floorMod.cls ≠ "java/lang/invoke/MethodHandle" ∧ yM_floorMod.cls ≠ "java/lang/invoke/VarHandle" ∧ (parseMethodDescriptor yM_floorMod.desc).map (fun d => d.parameters.length) = some 2 := by decide +kernel
theorem ml_X7_219 : Cond.methodLink RX7 219 yM_floorMod ∈ TT := TT_in 845 (by decide +kernel) (by decide +kernel)
theorem sm_M_floorMod : Cond.static yM_floorMod ∈ TT := TT_in 846 (by decide +kernel) (by decide +kernel)
theorem fl_X7_225 : Cond.fieldLink RX7 225 RX1 (TX1 4).2.1 (TX1 4).2.2.1 ∈ TT := TT_in 213 (by decide +kernel) (by decide +kernel)
theorem fl_X7_229 : Cond.fieldLink RX7 229 RX6 (TX6 4).2.1 (TX6 4).2.2.1 ∈ TT := TT_in 118 (by decide +kernel) (by decide +kernel)
theorem fl_X7_232 : Cond.fieldLink RX7 232 RX5 (TX5 3).2.1 (TX5 3).2.2.1 ∈ TT := TT_in 142 (by decide +kernel) (by decide +kernel)
theorem fl_X7_235 : Cond.fieldLink RX7 235 RX5 (TX5 4).2.1 (TX5 4).2.2.1 ∈ TT := TT_in 144 (by decide +kernel) (by decide +kernel)
theorem fl_X7_238 : Cond.fieldLink RX7 238 RX5 (TX5 5).2.1 (TX5 5).2.2.1 ∈ TT := TT_in 148 (by decide +kernel) (by decide +kernel)
theorem fl_X7_244 : Cond.fieldLink RX7 244 RX5 (TX5 10).2.1 (TX5 10).2.2.1 ∈ TT := TT_in 155 (by decide +kernel) (by decide +kernel)
theorem fl_X7_245 : Cond.fieldLink RX7 245 RX5 (TX5 11).2.1 (TX5 11).2.2.1 ∈ TT := TT_in 158 (by decide +kernel) (by decide +kernel)
theorem fl_X7_248 : Cond.fieldLink RX7 248 RX6 (TX6 0).2.1 (TX6 0).2.2.1 ∈ TT := TT_in 104 (by decide +kernel) (by decide +kernel)
theorem fl_X7_249 : Cond.fieldLink RX7 249 RX5 (TX5 16).2.1 (TX5 16).2.2.1 ∈ TT := TT_in 163 (by decide +kernel) (by decide +kernel)
theorem fl_X7_252 : Cond.fieldLink RX7 252 RX5 (TX5 17).2.1 (TX5 17).2.2.1 ∈ TT := TT_in 166 (by decide +kernel) (by decide +kernel)
theorem fl_X7_262 : Cond.fieldLink RX7 262 RX3 (TX3 2).2.1 (TX3 2).2.2.1 ∈ TT := TT_in 281 (by decide +kernel) (by decide +kernel)
theorem co_X7_system : Cond.code yX7_system cX7_system 4 (some .int) ∈ TT := TT_in 376 (by decide +kernel) (by decide +kernel)
theorem md_X7_system : yX7_system.cls ≠ "java/lang/invoke/MethodHandle" ∧ yX7_system.cls ≠ "java/lang/invoke/VarHandle" ∧ (parseMethodDescriptor yX7_system.desc).map (fun d => d.parameters.length) = some 2 := by decide +kernel
theorem ml_L_7 : Cond.methodLink RL 7 yX7_system ∈ TT := TT_in 373 (by decide +kernel) (by decide +kernel)
theorem im_X7_system : Cond.instanceMethod yX7_system ∈ TT := TT_in 374 (by decide +kernel) (by decide +kernel)
theorem se_X7_system : Cond.selects yX7_system.cls yX7_system yX7_system ∈ TT := TT_in 375 (by decide +kernel) (by decide +kernel)
theorem cl_L_13 : Cond.classLink RL 13 eI ∈ TT := TT_in 371 (by decide +kernel) (by decide +kernel)
theorem cl_L_15 : Cond.classLink RL 15 eS ∈ TT := TT_in 372 (by decide +kernel) (by decide +kernel)
theorem co_X7_limit : Cond.code yX7_limit cX7_limit 4 (some .int) ∈ TT := TT_in 507 (by decide +kernel) (by decide +kernel)
theorem md_X7_limit : yX7_limit.cls ≠ "java/lang/invoke/MethodHandle" ∧ yX7_limit.cls ≠ "java/lang/invoke/VarHandle" ∧ (parseMethodDescriptor yX7_limit.desc).map (fun d => d.parameters.length) = some 2 := by decide +kernel
theorem ml_L_17 : Cond.methodLink RL 17 yX7_limit ∈ TT := TT_in 504 (by decide +kernel) (by decide +kernel)
theorem im_X7_limit : Cond.instanceMethod yX7_limit ∈ TT := TT_in 505 (by decide +kernel) (by decide +kernel)
theorem se_X7_limit : Cond.selects yX7_limit.cls yX7_limit yX7_limit ∈ TT := TT_in 506 (by decide +kernel) (by decide +kernel)
theorem co_X7_port : Cond.code yX7_port cX7_port 6 none ∈ TT := TT_in 515 (by decide +kernel) (by decide +kernel)
theorem md_X7_port : yX7_port.cls ≠ "java/lang/invoke/MethodHandle" ∧ yX7_port.cls ≠ "java/lang/invoke/VarHandle" ∧ (parseMethodDescriptor yX7_port.desc).map (fun d => d.parameters.length) = some 4 := by decide +kernel
theorem ml_L_20 : Cond.methodLink RL 20 yX7_port ∈ TT := TT_in 512 (by decide +kernel) (by decide +kernel)
theorem im_X7_port : Cond.instanceMethod yX7_port ∈ TT := TT_in 513 (by decide +kernel) (by decide +kernel)
theorem se_X7_port : Cond.selects yX7_port.cls yX7_port yX7_port ∈ TT := TT_in 514 (by decide +kernel) (by decide +kernel)
theorem co_X7_manner : Cond.code yX7_manner cX7_manner 6 none ∈ TT := TT_in 531 (by decide +kernel) (by decide +kernel)
theorem md_X7_manner : yX7_manner.cls ≠ "java/lang/invoke/MethodHandle" ∧ yX7_manner.cls ≠ "java/lang/invoke/VarHandle" ∧ (parseMethodDescriptor yX7_manner.desc).map (fun d => d.parameters.length) = some 4 := by decide +kernel
theorem ml_L_24 : Cond.methodLink RL 24 yX7_manner ∈ TT := TT_in 528 (by decide +kernel) (by decide +kernel)
theorem im_X7_manner : Cond.instanceMethod yX7_manner ∈ TT := TT_in 529 (by decide +kernel) (by decide +kernel)
theorem se_X7_manner : Cond.selects yX7_manner.cls yX7_manner yX7_manner ∈ TT := TT_in 530 (by decide +kernel) (by decide +kernel)
theorem co_X7_plug : Cond.code yX7_plug cX7_plug 5 none ∈ TT := TT_in 539 (by decide +kernel) (by decide +kernel)
theorem md_X7_plug : yX7_plug.cls ≠ "java/lang/invoke/MethodHandle" ∧ yX7_plug.cls ≠ "java/lang/invoke/VarHandle" ∧ (parseMethodDescriptor yX7_plug.desc).map (fun d => d.parameters.length) = some 4 := by decide +kernel
theorem ml_L_28 : Cond.methodLink RL 28 yX7_plug ∈ TT := TT_in 536 (by decide +kernel) (by decide +kernel)
theorem im_X7_plug : Cond.instanceMethod yX7_plug ∈ TT := TT_in 537 (by decide +kernel) (by decide +kernel)
theorem se_X7_plug : Cond.selects yX7_plug.cls yX7_plug yX7_plug ∈ TT := TT_in 538 (by decide +kernel) (by decide +kernel)
theorem co_X7_pull : Cond.code yX7_pull cX7_pull 2 none ∈ TT := TT_in 596 (by decide +kernel) (by decide +kernel)
theorem md_X7_pull : yX7_pull.cls ≠ "java/lang/invoke/MethodHandle" ∧ yX7_pull.cls ≠ "java/lang/invoke/VarHandle" ∧ (parseMethodDescriptor yX7_pull.desc).map (fun d => d.parameters.length) = some 1 := by decide +kernel
theorem ml_L_31 : Cond.methodLink RL 31 yX7_pull ∈ TT := TT_in 593 (by decide +kernel) (by decide +kernel)
theorem im_X7_pull : Cond.instanceMethod yX7_pull ∈ TT := TT_in 594 (by decide +kernel) (by decide +kernel)
theorem se_X7_pull : Cond.selects yX7_pull.cls yX7_pull yX7_pull ∈ TT := TT_in 595 (by decide +kernel) (by decide +kernel)
theorem co_X7_light : Cond.code yX7_light cX7_light 4 none ∈ TT := TT_in 605 (by decide +kernel) (by decide +kernel)
theorem md_X7_light : yX7_light.cls ≠ "java/lang/invoke/MethodHandle" ∧ yX7_light.cls ≠ "java/lang/invoke/VarHandle" ∧ (parseMethodDescriptor yX7_light.desc).map (fun d => d.parameters.length) = some 2 := by decide +kernel
theorem ml_L_35 : Cond.methodLink RL 35 yX7_light ∈ TT := TT_in 602 (by decide +kernel) (by decide +kernel)
theorem im_X7_light : Cond.instanceMethod yX7_light ∈ TT := TT_in 603 (by decide +kernel) (by decide +kernel)
theorem se_X7_light : Cond.selects yX7_light.cls yX7_light yX7_light ∈ TT := TT_in 604 (by decide +kernel) (by decide +kernel)
theorem co_X7_lose : Cond.code yX7_lose cX7_lose 4 none ∈ TT := TT_in 613 (by decide +kernel) (by decide +kernel)
theorem md_X7_lose : yX7_lose.cls ≠ "java/lang/invoke/MethodHandle" ∧ yX7_lose.cls ≠ "java/lang/invoke/VarHandle" ∧ (parseMethodDescriptor yX7_lose.desc).map (fun d => d.parameters.length) = some 3 := by decide +kernel
theorem ml_L_39 : Cond.methodLink RL 39 yX7_lose ∈ TT := TT_in 610 (by decide +kernel) (by decide +kernel)
theorem im_X7_lose : Cond.instanceMethod yX7_lose ∈ TT := TT_in 611 (by decide +kernel) (by decide +kernel)
theorem se_X7_lose : Cond.selects yX7_lose.cls yX7_lose yX7_lose ∈ TT := TT_in 612 (by decide +kernel) (by decide +kernel)
theorem co_X7_tick : Cond.code yX7_tick cX7_tick 4 (some .int) ∈ TT := TT_in 621 (by decide +kernel) (by decide +kernel)
theorem md_X7_tick : yX7_tick.cls ≠ "java/lang/invoke/MethodHandle" ∧ yX7_tick.cls ≠ "java/lang/invoke/VarHandle" ∧ (parseMethodDescriptor yX7_tick.desc).map (fun d => d.parameters.length) = some 1 := by decide +kernel
theorem ml_L_43 : Cond.methodLink RL 43 yX7_tick ∈ TT := TT_in 618 (by decide +kernel) (by decide +kernel)
theorem im_X7_tick : Cond.instanceMethod yX7_tick ∈ TT := TT_in 619 (by decide +kernel) (by decide +kernel)
theorem se_X7_tick : Cond.selects yX7_tick.cls yX7_tick yX7_tick ∈ TT := TT_in 620 (by decide +kernel) (by decide +kernel)
theorem co_X7_give : Cond.code yX7_give cX7_give 9 (some .int) ∈ TT := TT_in 768 (by decide +kernel) (by decide +kernel)
theorem md_X7_give : yX7_give.cls ≠ "java/lang/invoke/MethodHandle" ∧ yX7_give.cls ≠ "java/lang/invoke/VarHandle" ∧ (parseMethodDescriptor yX7_give.desc).map (fun d => d.parameters.length) = some 4 := by decide +kernel
theorem ml_L_47 : Cond.methodLink RL 47 yX7_give ∈ TT := TT_in 765 (by decide +kernel) (by decide +kernel)
theorem im_X7_give : Cond.instanceMethod yX7_give ∈ TT := TT_in 766 (by decide +kernel) (by decide +kernel)
theorem se_X7_give : Cond.selects yX7_give.cls yX7_give yX7_give ∈ TT := TT_in 767 (by decide +kernel) (by decide +kernel)
theorem co_X7_came : Cond.code yX7_came cX7_came 5 (some .int) ∈ TT := TT_in 828 (by decide +kernel) (by decide +kernel)
theorem md_X7_came : yX7_came.cls ≠ "java/lang/invoke/MethodHandle" ∧ yX7_came.cls ≠ "java/lang/invoke/VarHandle" ∧ (parseMethodDescriptor yX7_came.desc).map (fun d => d.parameters.length) = some 3 := by decide +kernel
theorem ml_L_51 : Cond.methodLink RL 51 yX7_came ∈ TT := TT_in 825 (by decide +kernel) (by decide +kernel)
theorem im_X7_came : Cond.instanceMethod yX7_came ∈ TT := TT_in 826 (by decide +kernel) (by decide +kernel)
theorem se_X7_came : Cond.selects yX7_came.cls yX7_came yX7_came ∈ TT := TT_in 827 (by decide +kernel) (by decide +kernel)
theorem cl_L_55 : Cond.classLink RL 55 nseC ∈ TT := TT_in 824 (by decide +kernel) (by decide +kernel)
theorem co_X7_look : Cond.code yX7_look cX7_look 5 (some .int) ∈ TT := TT_in 854 (by decide +kernel) (by decide +kernel)
theorem md_X7_look : yX7_look.cls ≠ "java/lang/invoke/MethodHandle" ∧ yX7_look.cls ≠ "java/lang/invoke/VarHandle" ∧ (parseMethodDescriptor yX7_look.desc).map (fun d => d.parameters.length) = some 3 := by decide +kernel
theorem ml_L_57 : Cond.methodLink RL 57 yX7_look ∈ TT := TT_in 851 (by decide +kernel) (by decide +kernel)
theorem im_X7_look : Cond.instanceMethod yX7_look ∈ TT := TT_in 852 (by decide +kernel) (by decide +kernel)
theorem se_X7_look : Cond.selects yX7_look.cls yX7_look yX7_look ∈ TT := TT_in 853 (by decide +kernel) (by decide +kernel)
theorem co_X7_cable : Cond.code yX7_cable cX7_cable 4 (some .int) ∈ TT := TT_in 861 (by decide +kernel) (by decide +kernel)
theorem md_X7_cable : yX7_cable.cls ≠ "java/lang/invoke/MethodHandle" ∧ yX7_cable.cls ≠ "java/lang/invoke/VarHandle" ∧ (parseMethodDescriptor yX7_cable.desc).map (fun d => d.parameters.length) = some 2 := by decide +kernel
theorem ml_L_60 : Cond.methodLink RL 60 yX7_cable ∈ TT := TT_in 858 (by decide +kernel) (by decide +kernel)
theorem im_X7_cable : Cond.instanceMethod yX7_cable ∈ TT := TT_in 859 (by decide +kernel) (by decide +kernel)
theorem se_X7_cable : Cond.selects yX7_cable.cls yX7_cable yX7_cable ∈ TT := TT_in 860 (by decide +kernel) (by decide +kernel)
theorem cl_L_8 : Cond.classLink RL 8 RX7 ∈ TT := TT_in 71 (by decide +kernel) (by decide +kernel)
theorem inst_X7 : Cond.instantiable RX7 9 ∈ TT := TT_in 72 (by decide +kernel) (by decide +kernel)
theorem co_X7_init : Cond.code yX7_init cX7_init 2 none ∈ TT := TT_in 75 (by decide +kernel) (by decide +kernel)
theorem md_X7_init : yX7_init.cls ≠ "java/lang/invoke/MethodHandle" ∧ yX7_init.cls ≠ "java/lang/invoke/VarHandle" ∧ (parseMethodDescriptor yX7_init.desc).map (fun d => d.parameters.length) = some 0 := by decide +kernel
theorem ml_L_63 : Cond.methodLink RL 63 yX7_init ∈ TT := TT_in 73 (by decide +kernel) (by decide +kernel)
theorem im_X7_init : Cond.instanceMethod yX7_init ∈ TT := TT_in 74 (by decide +kernel) (by decide +kernel)
theorem cl_L_64 : Cond.classLink RL 64 RX8 ∈ TT := TT_in 862 (by decide +kernel) (by decide +kernel)
theorem inst_X8 : Cond.instantiable RX8 51 ∈ TT := TT_in 863 (by decide +kernel) (by decide +kernel)
theorem co_X8_init : Cond.code yX8_init cX8_init 2 none ∈ TT := TT_in 866 (by decide +kernel) (by decide +kernel)
theorem md_X8_init : yX8_init.cls ≠ "java/lang/invoke/MethodHandle" ∧ yX8_init.cls ≠ "java/lang/invoke/VarHandle" ∧ (parseMethodDescriptor yX8_init.desc).map (fun d => d.parameters.length) = some 0 := by decide +kernel
theorem ml_L_66 : Cond.methodLink RL 66 yX8_init ∈ TT := TT_in 864 (by decide +kernel) (by decide +kernel)
theorem im_X8_init : Cond.instanceMethod yX8_init ∈ TT := TT_in 865 (by decide +kernel) (by decide +kernel)
theorem ac_long : Cond.arrayClass .long ∈ TT := TT_in 1240 (by decide +kernel) (by decide +kernel)
theorem co_L_system : Cond.codeWith yL_system cL_system 5 (some .int) [(0, 10, 13, 13), (0, 10, 17, 15)] ∈ TT := TT_in 370 (by decide +kernel) (by decide +kernel)
theorem init_L : Cond.initialized RL ∈ TT := TT_in 54 (by decide +kernel) (by decide +kernel)
theorem md_L_system : yL_system.cls ≠ "java/lang/invoke/MethodHandle" ∧ yL_system.cls ≠ "java/lang/invoke/VarHandle" ∧ (parseMethodDescriptor yL_system.desc).map (fun d => d.parameters.length) = some 4 := by decide +kernel
theorem ml_L_67 : Cond.methodLink RL 67 yL_system ∈ TT := TT_in 368 (by decide +kernel) (by decide +kernel)
theorem sm_L_system : Cond.static yL_system ∈ TT := TT_in 369 (by decide +kernel) (by decide +kernel)
theorem co_X8_system : Cond.code yX8_system cX8_system 4 (some .int) ∈ TT := TT_in 1027 (by decide +kernel) (by decide +kernel)
theorem md_X8_system : yX8_system.cls ≠ "java/lang/invoke/MethodHandle" ∧ yX8_system.cls ≠ "java/lang/invoke/VarHandle" ∧ (parseMethodDescriptor yX8_system.desc).map (fun d => d.parameters.length) = some 2 := by decide +kernel
theorem ml_L_72 : Cond.methodLink RL 72 yX8_system ∈ TT := TT_in 1024 (by decide +kernel) (by decide +kernel)
theorem im_X8_system : Cond.instanceMethod yX8_system ∈ TT := TT_in 1025 (by decide +kernel) (by decide +kernel)
theorem se_X8_system : Cond.selects yX8_system.cls yX8_system yX8_system ∈ TT := TT_in 1026 (by decide +kernel) (by decide +kernel)
theorem co_L_limit : Cond.codeWith yL_limit cL_limit 5 (some .int) [(0, 10, 13, 13)] ∈ TT := TT_in 503 (by decide +kernel) (by decide +kernel)
theorem md_L_limit : yL_limit.cls ≠ "java/lang/invoke/MethodHandle" ∧ yL_limit.cls ≠ "java/lang/invoke/VarHandle" ∧ (parseMethodDescriptor yL_limit.desc).map (fun d => d.parameters.length) = some 4 := by decide +kernel
theorem ml_L_73 : Cond.methodLink RL 73 yL_limit ∈ TT := TT_in 501 (by decide +kernel) (by decide +kernel)
theorem sm_L_limit : Cond.static yL_limit ∈ TT := TT_in 502 (by decide +kernel) (by decide +kernel)
theorem co_X8_limit : Cond.code yX8_limit cX8_limit 4 (some .int) ∈ TT := TT_in 1039 (by decide +kernel) (by decide +kernel)
theorem md_X8_limit : yX8_limit.cls ≠ "java/lang/invoke/MethodHandle" ∧ yX8_limit.cls ≠ "java/lang/invoke/VarHandle" ∧ (parseMethodDescriptor yX8_limit.desc).map (fun d => d.parameters.length) = some 2 := by decide +kernel
theorem ml_L_75 : Cond.methodLink RL 75 yX8_limit ∈ TT := TT_in 1036 (by decide +kernel) (by decide +kernel)
theorem im_X8_limit : Cond.instanceMethod yX8_limit ∈ TT := TT_in 1037 (by decide +kernel) (by decide +kernel)
theorem se_X8_limit : Cond.selects yX8_limit.cls yX8_limit yX8_limit ∈ TT := TT_in 1038 (by decide +kernel) (by decide +kernel)
theorem co_L_port : Cond.codeWith yL_port cL_port 6 (some .int) [(0, 9, 12, 13)] ∈ TT := TT_in 511 (by decide +kernel) (by decide +kernel)
theorem md_L_port : yL_port.cls ≠ "java/lang/invoke/MethodHandle" ∧ yL_port.cls ≠ "java/lang/invoke/VarHandle" ∧ (parseMethodDescriptor yL_port.desc).map (fun d => d.parameters.length) = some 5 := by decide +kernel
theorem ml_L_76 : Cond.methodLink RL 76 yL_port ∈ TT := TT_in 509 (by decide +kernel) (by decide +kernel)
theorem sm_L_port : Cond.static yL_port ∈ TT := TT_in 510 (by decide +kernel) (by decide +kernel)
theorem co_X8_port : Cond.code yX8_port cX8_port 5 none ∈ TT := TT_in 1043 (by decide +kernel) (by decide +kernel)
theorem md_X8_port : yX8_port.cls ≠ "java/lang/invoke/MethodHandle" ∧ yX8_port.cls ≠ "java/lang/invoke/VarHandle" ∧ (parseMethodDescriptor yX8_port.desc).map (fun d => d.parameters.length) = some 4 := by decide +kernel
theorem ml_L_79 : Cond.methodLink RL 79 yX8_port ∈ TT := TT_in 1040 (by decide +kernel) (by decide +kernel)
theorem im_X8_port : Cond.instanceMethod yX8_port ∈ TT := TT_in 1041 (by decide +kernel) (by decide +kernel)
theorem se_X8_port : Cond.selects yX8_port.cls yX8_port yX8_port ∈ TT := TT_in 1042 (by decide +kernel) (by decide +kernel)
theorem co_L_plug : Cond.codeWith yL_plug cL_plug 6 (some .int) [(0, 9, 12, 13), (0, 9, 16, 15)] ∈ TT := TT_in 535 (by decide +kernel) (by decide +kernel)
theorem md_L_plug : yL_plug.cls ≠ "java/lang/invoke/MethodHandle" ∧ yL_plug.cls ≠ "java/lang/invoke/VarHandle" ∧ (parseMethodDescriptor yL_plug.desc).map (fun d => d.parameters.length) = some 5 := by decide +kernel
theorem ml_L_84 : Cond.methodLink RL 84 yL_plug ∈ TT := TT_in 533 (by decide +kernel) (by decide +kernel)
theorem sm_L_plug : Cond.static yL_plug ∈ TT := TT_in 534 (by decide +kernel) (by decide +kernel)
theorem co_X8_plug : Cond.code yX8_plug cX8_plug 5 none ∈ TT := TT_in 1055 (by decide +kernel) (by decide +kernel)
theorem md_X8_plug : yX8_plug.cls ≠ "java/lang/invoke/MethodHandle" ∧ yX8_plug.cls ≠ "java/lang/invoke/VarHandle" ∧ (parseMethodDescriptor yX8_plug.desc).map (fun d => d.parameters.length) = some 4 := by decide +kernel
theorem ml_L_86 : Cond.methodLink RL 86 yX8_plug ∈ TT := TT_in 1052 (by decide +kernel) (by decide +kernel)
theorem im_X8_plug : Cond.instanceMethod yX8_plug ∈ TT := TT_in 1053 (by decide +kernel) (by decide +kernel)
theorem se_X8_plug : Cond.selects yX8_plug.cls yX8_plug yX8_plug ∈ TT := TT_in 1054 (by decide +kernel) (by decide +kernel)
theorem co_L_pull : Cond.codeWith yL_pull cL_pull 3 (some .int) [(0, 5, 8, 13), (0, 5, 11, 15)] ∈ TT := TT_in 592 (by decide +kernel) (by decide +kernel)
theorem md_L_pull : yL_pull.cls ≠ "java/lang/invoke/MethodHandle" ∧ yL_pull.cls ≠ "java/lang/invoke/VarHandle" ∧ (parseMethodDescriptor yL_pull.desc).map (fun d => d.parameters.length) = some 2 := by decide +kernel
theorem ml_L_87 : Cond.methodLink RL 87 yL_pull ∈ TT := TT_in 590 (by decide +kernel) (by decide +kernel)
theorem sm_L_pull : Cond.static yL_pull ∈ TT := TT_in 591 (by decide +kernel) (by decide +kernel)
theorem co_X8_pull : Cond.code yX8_pull cX8_pull 2 none ∈ TT := TT_in 1110 (by decide +kernel) (by decide +kernel)
theorem md_X8_pull : yX8_pull.cls ≠ "java/lang/invoke/MethodHandle" ∧ yX8_pull.cls ≠ "java/lang/invoke/VarHandle" ∧ (parseMethodDescriptor yX8_pull.desc).map (fun d => d.parameters.length) = some 1 := by decide +kernel
theorem ml_L_90 : Cond.methodLink RL 90 yX8_pull ∈ TT := TT_in 1107 (by decide +kernel) (by decide +kernel)
theorem im_X8_pull : Cond.instanceMethod yX8_pull ∈ TT := TT_in 1108 (by decide +kernel) (by decide +kernel)
theorem se_X8_pull : Cond.selects yX8_pull.cls yX8_pull yX8_pull ∈ TT := TT_in 1109 (by decide +kernel) (by decide +kernel)
theorem co_L_lose : Cond.codeWith yL_lose cL_lose 5 (some .int) [(0, 7, 10, 13)] ∈ TT := TT_in 609 (by decide +kernel) (by decide +kernel)
theorem md_L_lose : yL_lose.cls ≠ "java/lang/invoke/MethodHandle" ∧ yL_lose.cls ≠ "java/lang/invoke/VarHandle" ∧ (parseMethodDescriptor yL_lose.desc).map (fun d => d.parameters.length) = some 4 := by decide +kernel
theorem ml_L_95 : Cond.methodLink RL 95 yL_lose ∈ TT := TT_in 607 (by decide +kernel) (by decide +kernel)
theorem sm_L_lose : Cond.static yL_lose ∈ TT := TT_in 608 (by decide +kernel) (by decide +kernel)
theorem co_X8_lose : Cond.code yX8_lose cX8_lose 4 none ∈ TT := TT_in 1118 (by decide +kernel) (by decide +kernel)
theorem md_X8_lose : yX8_lose.cls ≠ "java/lang/invoke/MethodHandle" ∧ yX8_lose.cls ≠ "java/lang/invoke/VarHandle" ∧ (parseMethodDescriptor yX8_lose.desc).map (fun d => d.parameters.length) = some 3 := by decide +kernel
theorem ml_L_98 : Cond.methodLink RL 98 yX8_lose ∈ TT := TT_in 1115 (by decide +kernel) (by decide +kernel)
theorem im_X8_lose : Cond.instanceMethod yX8_lose ∈ TT := TT_in 1116 (by decide +kernel) (by decide +kernel)
theorem se_X8_lose : Cond.selects yX8_lose.cls yX8_lose yX8_lose ∈ TT := TT_in 1117 (by decide +kernel) (by decide +kernel)
theorem co_L_tick : Cond.codeWith yL_tick cL_tick 4 (some .int) [(0, 9, 12, 13)] ∈ TT := TT_in 617 (by decide +kernel) (by decide +kernel)
theorem md_L_tick : yL_tick.cls ≠ "java/lang/invoke/MethodHandle" ∧ yL_tick.cls ≠ "java/lang/invoke/VarHandle" ∧ (parseMethodDescriptor yL_tick.desc).map (fun d => d.parameters.length) = some 3 := by decide +kernel
theorem ml_L_99 : Cond.methodLink RL 99 yL_tick ∈ TT := TT_in 615 (by decide +kernel) (by decide +kernel)
theorem sm_L_tick : Cond.static yL_tick ∈ TT := TT_in 616 (by decide +kernel) (by decide +kernel)
theorem co_X8_tick_ : Cond.code yX8_tick_ cX8_tick_ 4 (some .int) ∈ TT := TT_in 1122 (by decide +kernel) (by decide +kernel)
theorem md_X8_tick_ : yX8_tick_.cls ≠ "java/lang/invoke/MethodHandle" ∧ yX8_tick_.cls ≠ "java/lang/invoke/VarHandle" ∧ (parseMethodDescriptor yX8_tick_.desc).map (fun d => d.parameters.length) = some 1 := by decide +kernel
theorem ml_L_102 : Cond.methodLink RL 102 yX8_tick_ ∈ TT := TT_in 1119 (by decide +kernel) (by decide +kernel)
theorem im_X8_tick_ : Cond.instanceMethod yX8_tick_ ∈ TT := TT_in 1120 (by decide +kernel) (by decide +kernel)
theorem se_X8_tick_ : Cond.selects yX8_tick_.cls yX8_tick_ yX8_tick_ ∈ TT := TT_in 1121 (by decide +kernel) (by decide +kernel)
theorem co_L_give : Cond.codeWith yL_give cL_give 7 (some .int) [(0, 14, 17, 13)] ∈ TT := TT_in 764 (by decide +kernel) (by decide +kernel)
theorem md_L_give : yL_give.cls ≠ "java/lang/invoke/MethodHandle" ∧ yL_give.cls ≠ "java/lang/invoke/VarHandle" ∧ (parseMethodDescriptor yL_give.desc).map (fun d => d.parameters.length) = some 6 := by decide +kernel
theorem ml_L_103 : Cond.methodLink RL 103 yL_give ∈ TT := TT_in 762 (by decide +kernel) (by decide +kernel)
theorem sm_L_give : Cond.static yL_give ∈ TT := TT_in 763 (by decide +kernel) (by decide +kernel)
theorem co_L_came : Cond.codeWith yL_came cL_came 6 (some .int) [(0, 12, 15, 55)] ∈ TT := TT_in 823 (by decide +kernel) (by decide +kernel)
theorem md_L_came : yL_came.cls ≠ "java/lang/invoke/MethodHandle" ∧ yL_came.cls ≠ "java/lang/invoke/VarHandle" ∧ (parseMethodDescriptor yL_came.desc).map (fun d => d.parameters.length) = some 5 := by decide +kernel
theorem ml_L_107 : Cond.methodLink RL 107 yL_came ∈ TT := TT_in 821 (by decide +kernel) (by decide +kernel)
theorem sm_L_came : Cond.static yL_came ∈ TT := TT_in 822 (by decide +kernel) (by decide +kernel)
theorem co_X8_came : Cond.code yX8_came cX8_came 4 (some .int) ∈ TT := TT_in 1223 (by decide +kernel) (by decide +kernel)
theorem md_X8_came : yX8_came.cls ≠ "java/lang/invoke/MethodHandle" ∧ yX8_came.cls ≠ "java/lang/invoke/VarHandle" ∧ (parseMethodDescriptor yX8_came.desc).map (fun d => d.parameters.length) = some 3 := by decide +kernel
theorem ml_L_110 : Cond.methodLink RL 110 yX8_came ∈ TT := TT_in 1220 (by decide +kernel) (by decide +kernel)
theorem im_X8_came : Cond.instanceMethod yX8_came ∈ TT := TT_in 1221 (by decide +kernel) (by decide +kernel)
theorem se_X8_came : Cond.selects yX8_came.cls yX8_came yX8_came ∈ TT := TT_in 1222 (by decide +kernel) (by decide +kernel)
theorem co_L_look : Cond.codeWith yL_look cL_look 6 (some .int) [(0, 12, 15, 55)] ∈ TT := TT_in 850 (by decide +kernel) (by decide +kernel)
theorem md_L_look : yL_look.cls ≠ "java/lang/invoke/MethodHandle" ∧ yL_look.cls ≠ "java/lang/invoke/VarHandle" ∧ (parseMethodDescriptor yL_look.desc).map (fun d => d.parameters.length) = some 5 := by decide +kernel
theorem ml_L_111 : Cond.methodLink RL 111 yL_look ∈ TT := TT_in 848 (by decide +kernel) (by decide +kernel)
theorem sm_L_look : Cond.static yL_look ∈ TT := TT_in 849 (by decide +kernel) (by decide +kernel)
theorem co_X8_look : Cond.code yX8_look cX8_look 5 (some .int) ∈ TT := TT_in 1227 (by decide +kernel) (by decide +kernel)
theorem md_X8_look : yX8_look.cls ≠ "java/lang/invoke/MethodHandle" ∧ yX8_look.cls ≠ "java/lang/invoke/VarHandle" ∧ (parseMethodDescriptor yX8_look.desc).map (fun d => d.parameters.length) = some 3 := by decide +kernel
theorem ml_L_113 : Cond.methodLink RL 113 yX8_look ∈ TT := TT_in 1224 (by decide +kernel) (by decide +kernel)
theorem im_X8_look : Cond.instanceMethod yX8_look ∈ TT := TT_in 1225 (by decide +kernel) (by decide +kernel)
theorem se_X8_look : Cond.selects yX8_look.cls yX8_look yX8_look ∈ TT := TT_in 1226 (by decide +kernel) (by decide +kernel)
theorem co_L_cable : Cond.codeWith yL_cable cL_cable 5 (some .int) [(0, 10, 13, 55)] ∈ TT := TT_in 857 (by decide +kernel) (by decide +kernel)
theorem md_L_cable : yL_cable.cls ≠ "java/lang/invoke/MethodHandle" ∧ yL_cable.cls ≠ "java/lang/invoke/VarHandle" ∧ (parseMethodDescriptor yL_cable.desc).map (fun d => d.parameters.length) = some 4 := by decide +kernel
theorem ml_L_114 : Cond.methodLink RL 114 yL_cable ∈ TT := TT_in 855 (by decide +kernel) (by decide +kernel)
theorem sm_L_cable : Cond.static yL_cable ∈ TT := TT_in 856 (by decide +kernel) (by decide +kernel)
theorem co_X8_cable : Cond.code yX8_cable cX8_cable 3 (some .int) ∈ TT := TT_in 1231 (by decide +kernel) (by decide +kernel)
theorem md_X8_cable : yX8_cable.cls ≠ "java/lang/invoke/MethodHandle" ∧ yX8_cable.cls ≠ "java/lang/invoke/VarHandle" ∧ (parseMethodDescriptor yX8_cable.desc).map (fun d => d.parameters.length) = some 2 := by decide +kernel
theorem ml_L_116 : Cond.methodLink RL 116 yX8_cable ∈ TT := TT_in 1228 (by decide +kernel) (by decide +kernel)
theorem im_X8_cable : Cond.instanceMethod yX8_cable ∈ TT := TT_in 1229 (by decide +kernel) (by decide +kernel)
theorem se_X8_cable : Cond.selects yX8_cable.cls yX8_cable yX8_cable ∈ TT := TT_in 1230 (by decide +kernel) (by decide +kernel)
theorem co_X7_note : Cond.code yX7_note cX7_note 5 (some .int) ∈ TT := TT_in 353 (by decide +kernel) (by decide +kernel)
theorem md_X7_note : yX7_note.cls ≠ "java/lang/invoke/MethodHandle" ∧ yX7_note.cls ≠ "java/lang/invoke/VarHandle" ∧ (parseMethodDescriptor yX7_note.desc).map (fun d => d.parameters.length) = some 3 := by decide +kernel
theorem ml_L_117 : Cond.methodLink RL 117 yX7_note ∈ TT := TT_in 350 (by decide +kernel) (by decide +kernel)
theorem im_X7_note : Cond.instanceMethod yX7_note ∈ TT := TT_in 351 (by decide +kernel) (by decide +kernel)
theorem se_X7_note : Cond.selects yX7_note.cls yX7_note yX7_note ∈ TT := TT_in 352 (by decide +kernel) (by decide +kernel)
theorem co_X8_note : Cond.code yX8_note cX8_note 9 (some .int) ∈ TT := TT_in 1235 (by decide +kernel) (by decide +kernel)
theorem md_X8_note : yX8_note.cls ≠ "java/lang/invoke/MethodHandle" ∧ yX8_note.cls ≠ "java/lang/invoke/VarHandle" ∧ (parseMethodDescriptor yX8_note.desc).map (fun d => d.parameters.length) = some 3 := by decide +kernel
theorem ml_L_120 : Cond.methodLink RL 120 yX8_note ∈ TT := TT_in 1232 (by decide +kernel) (by decide +kernel)
theorem im_X8_note : Cond.instanceMethod yX8_note ∈ TT := TT_in 1233 (by decide +kernel) (by decide +kernel)
theorem se_X8_note : Cond.selects yX8_note.cls yX8_note yX8_note ∈ TT := TT_in 1234 (by decide +kernel) (by decide +kernel)
theorem co_X7_count : Cond.code yX7_count cX7_count 2 (some .int) ∈ TT := TT_in 367 (by decide +kernel) (by decide +kernel)
theorem md_X7_count : yX7_count.cls ≠ "java/lang/invoke/MethodHandle" ∧ yX7_count.cls ≠ "java/lang/invoke/VarHandle" ∧ (parseMethodDescriptor yX7_count.desc).map (fun d => d.parameters.length) = some 1 := by decide +kernel
theorem ml_L_121 : Cond.methodLink RL 121 yX7_count ∈ TT := TT_in 364 (by decide +kernel) (by decide +kernel)
theorem im_X7_count : Cond.instanceMethod yX7_count ∈ TT := TT_in 365 (by decide +kernel) (by decide +kernel)
theorem se_X7_count : Cond.selects yX7_count.cls yX7_count yX7_count ∈ TT := TT_in 366 (by decide +kernel) (by decide +kernel)
theorem co_X8_count : Cond.code yX8_count cX8_count 2 (some .int) ∈ TT := TT_in 1239 (by decide +kernel) (by decide +kernel)
theorem md_X8_count : yX8_count.cls ≠ "java/lang/invoke/MethodHandle" ∧ yX8_count.cls ≠ "java/lang/invoke/VarHandle" ∧ (parseMethodDescriptor yX8_count.desc).map (fun d => d.parameters.length) = some 1 := by decide +kernel
theorem ml_L_124 : Cond.methodLink RL 124 yX8_count ∈ TT := TT_in 1236 (by decide +kernel) (by decide +kernel)
theorem im_X8_count : Cond.instanceMethod yX8_count ∈ TT := TT_in 1237 (by decide +kernel) (by decide +kernel)
theorem se_X8_count : Cond.selects yX8_count.cls yX8_count yX8_count ∈ TT := TT_in 1238 (by decide +kernel) (by decide +kernel)
theorem co_L_light : Cond.codeWith yL_light cL_light 4 (some .int) [(0, 6, 9, 13), (0, 6, 12, 15)] ∈ TT := TT_in 601 (by decide +kernel) (by decide +kernel)
theorem md_L_light : yL_light.cls ≠ "java/lang/invoke/MethodHandle" ∧ yL_light.cls ≠ "java/lang/invoke/VarHandle" ∧ (parseMethodDescriptor yL_light.desc).map (fun d => d.parameters.length) = some 3 := by decide +kernel
theorem ml_L_91 : Cond.methodLink RL 91 yL_light ∈ TT := TT_in 599 (by decide +kernel) (by decide +kernel)
theorem sm_L_light : Cond.static yL_light ∈ TT := TT_in 600 (by decide +kernel) (by decide +kernel)
theorem co_X8_give : Cond.code yX8_give cX8_give 9 (some .int) ∈ TT := TT_in 1215 (by decide +kernel) (by decide +kernel)
theorem md_X8_give : yX8_give.cls ≠ "java/lang/invoke/MethodHandle" ∧ yX8_give.cls ≠ "java/lang/invoke/VarHandle" ∧ (parseMethodDescriptor yX8_give.desc).map (fun d => d.parameters.length) = some 4 := by decide +kernel
theorem ml_L_106 : Cond.methodLink RL 106 yX8_give ∈ TT := TT_in 1212 (by decide +kernel) (by decide +kernel)
theorem im_X8_give : Cond.instanceMethod yX8_give ∈ TT := TT_in 1213 (by decide +kernel) (by decide +kernel)
theorem se_X8_give : Cond.selects yX8_give.cls yX8_give yX8_give ∈ TT := TT_in 1214 (by decide +kernel) (by decide +kernel)
theorem co_L_manner : Cond.codeWith yL_manner cL_manner 6 (some .int) [(0, 9, 12, 13)] ∈ TT := TT_in 527 (by decide +kernel) (by decide +kernel)
theorem md_L_manner : yL_manner.cls ≠ "java/lang/invoke/MethodHandle" ∧ yL_manner.cls ≠ "java/lang/invoke/VarHandle" ∧ (parseMethodDescriptor yL_manner.desc).map (fun d => d.parameters.length) = some 5 := by decide +kernel
theorem ml_L_80 : Cond.methodLink RL 80 yL_manner ∈ TT := TT_in 525 (by decide +kernel) (by decide +kernel)
theorem sm_L_manner : Cond.static yL_manner ∈ TT := TT_in 526 (by decide +kernel) (by decide +kernel)
theorem co_X8_light : Cond.code yX8_light cX8_light 3 none ∈ TT := TT_in 1114 (by decide +kernel) (by decide +kernel)
theorem md_X8_light : yX8_light.cls ≠ "java/lang/invoke/MethodHandle" ∧ yX8_light.cls ≠ "java/lang/invoke/VarHandle" ∧ (parseMethodDescriptor yX8_light.desc).map (fun d => d.parameters.length) = some 2 := by decide +kernel
theorem ml_L_94 : Cond.methodLink RL 94 yX8_light ∈ TT := TT_in 1111 (by decide +kernel) (by decide +kernel)
theorem im_X8_light : Cond.instanceMethod yX8_light ∈ TT := TT_in 1112 (by decide +kernel) (by decide +kernel)
theorem se_X8_light : Cond.selects yX8_light.cls yX8_light yX8_light ∈ TT := TT_in 1113 (by decide +kernel) (by decide +kernel)
theorem co_X8_manner : Cond.code yX8_manner cX8_manner 5 none ∈ TT := TT_in 1051 (by decide +kernel) (by decide +kernel)
theorem md_X8_manner : yX8_manner.cls ≠ "java/lang/invoke/MethodHandle" ∧ yX8_manner.cls ≠ "java/lang/invoke/VarHandle" ∧ (parseMethodDescriptor yX8_manner.desc).map (fun d => d.parameters.length) = some 4 := by decide +kernel
theorem ml_L_83 : Cond.methodLink RL 83 yX8_manner ∈ TT := TT_in 1048 (by decide +kernel) (by decide +kernel)
theorem im_X8_manner : Cond.instanceMethod yX8_manner ∈ TT := TT_in 1049 (by decide +kernel) (by decide +kernel)
theorem se_X8_manner : Cond.selects yX8_manner.cls yX8_manner yX8_manner ∈ TT := TT_in 1050 (by decide +kernel) (by decide +kernel)
theorem pf_X7_54 {T : Ct} {cc : ByteArray} {nL : Nat} {MC MS pc : Nat} {Qf : State → Prop} (C : Cx T cc nL RX7 MC MS) {k : Kt} (d : decode cc pc = .ok (.putfield 54, 3)) (h : Sd T nL Qf MC MS (pc + 3) k) : Sd T nL Qf MC MS pc (tI 1 2 k) := x_tI C (TX := TX1) (N := 9) rfl (by decide) inX1 (by decide) fl_X7_54 rfl rfl tyX1 tyX1_ok nmX1 rfl (by decide +kernel) d h
theorem pf_X7_75 {T : Ct} {cc : ByteArray} {nL : Nat} {MC MS pc : Nat} {Qf : State → Prop} (C : Cx T cc nL RX7 MC MS) {k : Kt} (d : decode cc pc = .ok (.putfield 75, 3)) (h : Sd T nL Qf MC MS (pc + 3) k) : Sd T nL Qf MC MS pc (tI 6 1 k) := x_tI C (TX := TX6) (N := 5) rfl (by decide) inX6 (by decide) fl_X7_75 rfl rfl tyX6 tyX6_ok nmX6 rfl (by decide +kernel) d h
theorem pf_X7_80 {T : Ct} {cc : ByteArray} {nL : Nat} {MC MS pc : Nat} {Qf : State → Prop} (C : Cx T cc nL RX7 MC MS) {k : Kt} (d : decode cc pc = .ok (.putfield 80, 3)) (h : Sd T nL Qf MC MS (pc + 3) k) : Sd T nL Qf MC MS pc (tI 6 2 k) := x_tI C (TX := TX6) (N := 5) rfl (by decide) inX6 (by decide) fl_X7_80 rfl rfl tyX6 tyX6_ok nmX6 rfl (by decide +kernel) d h
theorem pf_X7_108 {T : Ct} {cc : ByteArray} {nL : Nat} {MC MS pc : Nat} {Qf : State → Prop} (C : Cx T cc nL RX7 MC MS) {k : Kt} (d : decode cc pc = .ok (.putfield 108, 3)) (h : Sd T nL Qf MC MS (pc + 3) k) : Sd T nL Qf MC MS pc (tI 0 2 k) := x_tI C (TX := TX0) (N := 5) rfl (by decide) inX0 (by decide) fl_X7_108 rfl rfl tyX0 tyX0_ok nmX0 rfl (by decide +kernel) d h
theorem pf_X7_166 {T : Ct} {cc : ByteArray} {nL : Nat} {MC MS pc : Nat} {Qf : State → Prop} (C : Cx T cc nL RX7 MC MS) {k : Kt} (d : decode cc pc = .ok (.putfield 166, 3)) (h : Sd T nL Qf MC MS (pc + 3) k) : Sd T nL Qf MC MS pc (tI 2 0 k) := x_tI C (TX := TX2) (N := 7) rfl (by decide) inX2 (by decide) fl_X7_166 rfl rfl tyX2 tyX2_ok nmX2 rfl (by decide +kernel) d h
theorem pf_X7_171 {T : Ct} {cc : ByteArray} {nL : Nat} {MC MS pc : Nat} {Qf : State → Prop} (C : Cx T cc nL RX7 MC MS) {k : Kt} (d : decode cc pc = .ok (.putfield 171, 3)) (h : Sd T nL Qf MC MS (pc + 3) k) : Sd T nL Qf MC MS pc (tI 2 1 k) := x_tI C (TX := TX2) (N := 7) rfl (by decide) inX2 (by decide) fl_X7_171 rfl rfl tyX2 tyX2_ok nmX2 rfl (by decide +kernel) d h
theorem pf_X7_174 {T : Ct} {cc : ByteArray} {nL : Nat} {MC MS pc : Nat} {Qf : State → Prop} (C : Cx T cc nL RX7 MC MS) {k : Kt} (d : decode cc pc = .ok (.putfield 174, 3)) (h : Sd T nL Qf MC MS (pc + 3) k) : Sd T nL Qf MC MS pc (tI 2 2 k) := x_tI C (TX := TX2) (N := 7) rfl (by decide) inX2 (by decide) fl_X7_174 rfl rfl tyX2 tyX2_ok nmX2 rfl (by decide +kernel) d h
theorem pf_X7_180 {T : Ct} {cc : ByteArray} {nL : Nat} {MC MS pc : Nat} {Qf : State → Prop} (C : Cx T cc nL RX7 MC MS) {k : Kt} (d : decode cc pc = .ok (.putfield 180, 3)) (h : Sd T nL Qf MC MS (pc + 3) k) : Sd T nL Qf MC MS pc (tI 2 3 k) := x_tI C (TX := TX2) (N := 7) rfl (by decide) inX2 (by decide) fl_X7_180 rfl rfl tyX2 tyX2_ok nmX2 rfl (by decide +kernel) d h
theorem gf_X7_183 {T : Ct} {cc : ByteArray} {nL : Nat} {MC MS pc : Nat} {Qf : State → Prop} (C : Cx T cc nL RX7 MC MS) {k : Kt} (d : decode cc pc = .ok (.getfield 183, 3)) (h : Sd T nL Qf MC MS (pc + 3) k) : Sd T nL Qf MC MS pc (gI 1 8 k) := x_gI C (TX := TX1) (N := 9) rfl (by decide) inX1 (by decide) fl_X7_183 rfl rfl d h
theorem pf_X7_186 {T : Ct} {cc : ByteArray} {nL : Nat} {MC MS pc : Nat} {Qf : State → Prop} (C : Cx T cc nL RX7 MC MS) {k : Kt} (d : decode cc pc = .ok (.putfield 186, 3)) (h : Sd T nL Qf MC MS (pc + 3) k) : Sd T nL Qf MC MS pc (tI 2 4 k) := x_tI C (TX := TX2) (N := 7) rfl (by decide) inX2 (by decide) fl_X7_186 rfl rfl tyX2 tyX2_ok nmX2 rfl (by decide +kernel) d h
theorem gf_X7_187 {T : Ct} {cc : ByteArray} {nL : Nat} {MC MS pc : Nat} {Qf : State → Prop} (C : Cx T cc nL RX7 MC MS) {k : Kt} (d : decode cc pc = .ok (.getfield 187, 3)) (h : Sd T nL Qf MC MS (pc + 3) k) : Sd T nL Qf MC MS pc (gI 1 7 k) := x_gI C (TX := TX1) (N := 9) rfl (by decide) inX1 (by decide) fl_X7_187 rfl rfl d h
theorem pf_X7_187 {T : Ct} {cc : ByteArray} {nL : Nat} {MC MS pc : Nat} {Qf : State → Prop} (C : Cx T cc nL RX7 MC MS) {k : Kt} (d : decode cc pc = .ok (.putfield 187, 3)) (h : Sd T nL Qf MC MS (pc + 3) k) : Sd T nL Qf MC MS pc (tI 1 7 k) := x_tI C (TX := TX1) (N := 9) rfl (by decide) inX1 (by decide) fl_X7_187 rfl rfl tyX1 tyX1_ok nmX1 rfl (by decide +kernel) d h
theorem pf_X7_190 {T : Ct} {cc : ByteArray} {nL : Nat} {MC MS pc : Nat} {Qf : State → Prop} (C : Cx T cc nL RX7 MC MS) {k : Kt} (d : decode cc pc = .ok (.putfield 190, 3)) (h : Sd T nL Qf MC MS (pc + 3) k) : Sd T nL Qf MC MS pc (tI 2 5 k) := x_tI C (TX := TX2) (N := 7) rfl (by decide) inX2 (by decide) fl_X7_190 rfl rfl tyX2 tyX2_ok nmX2 rfl (by decide +kernel) d h
theorem pf_X7_193 {T : Ct} {cc : ByteArray} {nL : Nat} {MC MS pc : Nat} {Qf : State → Prop} (C : Cx T cc nL RX7 MC MS) {k : Kt} (d : decode cc pc = .ok (.putfield 193, 3)) (h : Sd T nL Qf MC MS (pc + 3) k) : Sd T nL Qf MC MS pc (tZ 2 6 k) := x_tZ C (TX := TX2) (N := 7) rfl (by decide) inX2 (by decide) fl_X7_193 rfl rfl tyX2 tyX2_ok nmX2 rfl (by decide +kernel) d h
theorem pf_X7_202 {T : Ct} {cc : ByteArray} {nL : Nat} {MC MS pc : Nat} {Qf : State → Prop} (C : Cx T cc nL RX7 MC MS) {k : Kt} (d : decode cc pc = .ok (.putfield 202, 3)) (h : Sd T nL Qf MC MS (pc + 3) k) : Sd T nL Qf MC MS pc (tI 7 7 k) := x_tI C (TX := TX7) (N := 9) rfl (by decide) inX7 (by decide) fl_X7_202 rfl rfl tyX7 tyX7_ok nmX7 rfl (by decide +kernel) d h
theorem gf_X7_208 {T : Ct} {cc : ByteArray} {nL : Nat} {MC MS pc : Nat} {Qf : State → Prop} (C : Cx T cc nL RX7 MC MS) {k : Kt} (d : decode cc pc = .ok (.getfield 208, 3)) (h : Sd T nL Qf MC MS (pc + 3) k) : Sd T nL Qf MC MS pc (gI 1 5 k) := x_gI C (TX := TX1) (N := 9) rfl (by decide) inX1 (by decide) fl_X7_208 rfl rfl d h
theorem gf_X7_216 {T : Ct} {cc : ByteArray} {nL : Nat} {MC MS pc : Nat} {Qf : State → Prop} (C : Cx T cc nL RX7 MC MS) {k : Kt} (d : decode cc pc = .ok (.getfield 216, 3)) (h : Sd T nL Qf MC MS (pc + 3) k) : Sd T nL Qf MC MS pc (gI 1 6 k) := x_gI C (TX := TX1) (N := 9) rfl (by decide) inX1 (by decide) fl_X7_216 rfl rfl d h
theorem gf_X7_225 {T : Ct} {cc : ByteArray} {nL : Nat} {MC MS pc : Nat} {Qf : State → Prop} (C : Cx T cc nL RX7 MC MS) {k : Kt} (d : decode cc pc = .ok (.getfield 225, 3)) (h : Sd T nL Qf MC MS (pc + 3) k) : Sd T nL Qf MC MS pc (gR 1 4 k) := x_gR C (TX := TX1) (N := 9) rfl (by decide) inX1 (by decide) fl_X7_225 rfl rfl d h
theorem gf_X7_75 {T : Ct} {cc : ByteArray} {nL : Nat} {MC MS pc : Nat} {Qf : State → Prop} (C : Cx T cc nL RX7 MC MS) {k : Kt} (d : decode cc pc = .ok (.getfield 75, 3)) (h : Sd T nL Qf MC MS (pc + 3) k) : Sd T nL Qf MC MS pc (gI 6 1 k) := x_gI C (TX := TX6) (N := 5) rfl (by decide) inX6 (by decide) fl_X7_75 rfl rfl d h
theorem gf_X7_80 {T : Ct} {cc : ByteArray} {nL : Nat} {MC MS pc : Nat} {Qf : State → Prop} (C : Cx T cc nL RX7 MC MS) {k : Kt} (d : decode cc pc = .ok (.getfield 80, 3)) (h : Sd T nL Qf MC MS (pc + 3) k) : Sd T nL Qf MC MS pc (gI 6 2 k) := x_gI C (TX := TX6) (N := 5) rfl (by decide) inX6 (by decide) fl_X7_80 rfl rfl d h
theorem gf_X7_229 {T : Ct} {cc : ByteArray} {nL : Nat} {MC MS pc : Nat} {Qf : State → Prop} (C : Cx T cc nL RX7 MC MS) {k : Kt} (d : decode cc pc = .ok (.getfield 229, 3)) (h : Sd T nL Qf MC MS (pc + 3) k) : Sd T nL Qf MC MS pc (gI 6 4 k) := x_gI C (TX := TX6) (N := 5) rfl (by decide) inX6 (by decide) fl_X7_229 rfl rfl d h
theorem gf_X7_232 {T : Ct} {cc : ByteArray} {nL : Nat} {MC MS pc : Nat} {Qf : State → Prop} (C : Cx T cc nL RX7 MC MS) {k : Kt} (d : decode cc pc = .ok (.getfield 232, 3)) (h : Sd T nL Qf MC MS (pc + 3) k) : Sd T nL Qf MC MS pc (gI 5 3 k) := x_gI C (TX := TX5) (N := 18) rfl (by decide) inX5 (by decide) fl_X7_232 rfl rfl d h
theorem gf_X7_235 {T : Ct} {cc : ByteArray} {nL : Nat} {MC MS pc : Nat} {Qf : State → Prop} (C : Cx T cc nL RX7 MC MS) {k : Kt} (d : decode cc pc = .ok (.getfield 235, 3)) (h : Sd T nL Qf MC MS (pc + 3) k) : Sd T nL Qf MC MS pc (gI 5 4 k) := x_gI C (TX := TX5) (N := 18) rfl (by decide) inX5 (by decide) fl_X7_235 rfl rfl d h
theorem gf_X7_238 {T : Ct} {cc : ByteArray} {nL : Nat} {MC MS pc : Nat} {Qf : State → Prop} (C : Cx T cc nL RX7 MC MS) {k : Kt} (d : decode cc pc = .ok (.getfield 238, 3)) (h : Sd T nL Qf MC MS (pc + 3) k) : Sd T nL Qf MC MS pc (gI 5 5 k) := x_gI C (TX := TX5) (N := 18) rfl (by decide) inX5 (by decide) fl_X7_238 rfl rfl d h
theorem gf_X7_244 {T : Ct} {cc : ByteArray} {nL : Nat} {MC MS pc : Nat} {Qf : State → Prop} (C : Cx T cc nL RX7 MC MS) {k : Kt} (d : decode cc pc = .ok (.getfield 244, 3)) (h : Sd T nL Qf MC MS (pc + 3) k) : Sd T nL Qf MC MS pc (gI 5 10 k) := x_gI C (TX := TX5) (N := 18) rfl (by decide) inX5 (by decide) fl_X7_244 rfl rfl d h
theorem gf_X7_245 {T : Ct} {cc : ByteArray} {nL : Nat} {MC MS pc : Nat} {Qf : State → Prop} (C : Cx T cc nL RX7 MC MS) {k : Kt} (d : decode cc pc = .ok (.getfield 245, 3)) (h : Sd T nL Qf MC MS (pc + 3) k) : Sd T nL Qf MC MS pc (gI 5 11 k) := x_gI C (TX := TX5) (N := 18) rfl (by decide) inX5 (by decide) fl_X7_245 rfl rfl d h
theorem gf_X7_248 {T : Ct} {cc : ByteArray} {nL : Nat} {MC MS pc : Nat} {Qf : State → Prop} (C : Cx T cc nL RX7 MC MS) {k : Kt} (d : decode cc pc = .ok (.getfield 248, 3)) (h : Sd T nL Qf MC MS (pc + 3) k) : Sd T nL Qf MC MS pc (gI 6 0 k) := x_gI C (TX := TX6) (N := 5) rfl (by decide) inX6 (by decide) fl_X7_248 rfl rfl d h
theorem gf_X7_249 {T : Ct} {cc : ByteArray} {nL : Nat} {MC MS pc : Nat} {Qf : State → Prop} (C : Cx T cc nL RX7 MC MS) {k : Kt} (d : decode cc pc = .ok (.getfield 249, 3)) (h : Sd T nL Qf MC MS (pc + 3) k) : Sd T nL Qf MC MS pc (gI 5 16 k) := x_gI C (TX := TX5) (N := 18) rfl (by decide) inX5 (by decide) fl_X7_249 rfl rfl d h
theorem gf_X7_252 {T : Ct} {cc : ByteArray} {nL : Nat} {MC MS pc : Nat} {Qf : State → Prop} (C : Cx T cc nL RX7 MC MS) {k : Kt} (d : decode cc pc = .ok (.getfield 252, 3)) (h : Sd T nL Qf MC MS (pc + 3) k) : Sd T nL Qf MC MS pc (gI 5 17 k) := x_gI C (TX := TX5) (N := 18) rfl (by decide) inX5 (by decide) fl_X7_252 rfl rfl d h
theorem gf_X7_256 {T : Ct} {cc : ByteArray} {nL : Nat} {MC MS pc : Nat} {Qf : State → Prop} (C : Cx T cc nL RX7 MC MS) {k : Kt} (d : decode cc pc = .ok (.getfield 256, 3)) (h : Sd T nL Qf MC MS (pc + 3) k) : Sd T nL Qf MC MS pc (gI 0 4 k) := x_gI C (TX := TX0) (N := 5) rfl (by decide) inX0 (by decide) fl_X7_256 rfl rfl d h
theorem gf_X7_262 {T : Ct} {cc : ByteArray} {nL : Nat} {MC MS pc : Nat} {Qf : State → Prop} (C : Cx T cc nL RX7 MC MS) {k : Kt} (d : decode cc pc = .ok (.getfield 262, 3)) (h : Sd T nL Qf MC MS (pc + 3) k) : Sd T nL Qf MC MS pc (gI 3 2 k) := x_gI C (TX := TX3) (N := 7) rfl (by decide) inX3 (by decide) fl_X7_262 rfl rfl d h
theorem nf_L_8 {T : Ct} {cc : ByteArray} {nL : Nat} {MC MS pc : Nat} {Qf : State → Prop} (C : Cx T cc nL RL MC MS) {k : Kt} (d : decode cc pc = .ok (.new 8, 3)) (h : Sd T nL Qf MC MS (pc + 3) k) : Sd T nL Qf MC MS pc (nO 7 MC MS k) := x_new C (TX := TX7) (N := 9) rfl (by decide) inX7 tyX7 tyX7_ok (by decide +kernel) cl_L_8 inst_X7 init_X7 d h
theorem nf_L_64 {T : Ct} {cc : ByteArray} {nL : Nat} {MC MS pc : Nat} {Qf : State → Prop} (C : Cx T cc nL RL MC MS) {k : Kt} (d : decode cc pc = .ok (.new 64, 3)) (h : Sd T nL Qf MC MS (pc + 3) k) : Sd T nL Qf MC MS pc (nO 8 MC MS k) := x_new C (TX := TX8) (N := 51) rfl (by decide) inX8 tyX8 tyX8_ok (by decide +kernel) cl_L_64 inst_X8 init_X8 d h
