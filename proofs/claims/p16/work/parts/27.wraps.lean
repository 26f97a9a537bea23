theorem dL_system_0 : decode cL_system 0 = .ok (.aload_n 3, 1) := by decide +kernel
theorem dL_system_1 : decode cL_system 1 = .ok (.iconst 0, 1) := by decide +kernel
theorem dL_system_2 : decode cL_system 2 = .ok (.aload_n 0, 1) := by decide +kernel
theorem dL_system_3 : decode cL_system 3 = .ok (.iload_n 1, 1) := by decide +kernel
theorem dL_system_4 : decode cL_system 4 = .ok (.iload_n 2, 1) := by decide +kernel
theorem dL_system_5 : decode cL_system 5 = .ok (.invokevirtual 7, 3) := by decide +kernel
theorem dL_system_8 : decode cL_system 8 = .ok (.i2l, 1) := by decide +kernel
theorem dL_system_9 : decode cL_system 9 = .ok (.lastore, 1) := by decide +kernel
theorem dL_system_10 : decode cL_system 10 = .ok (.goto 11, 3) := by decide +kernel
theorem dL_system_13 : decode cL_system 13 = .ok (.astore 4, 2) := by decide +kernel
theorem dL_system_15 : decode cL_system 15 = .ok (.iconst 1, 1) := by decide +kernel
theorem dL_system_16 : decode cL_system 16 = .ok (.ireturn, 1) := by decide +kernel
theorem dL_system_17 : decode cL_system 17 = .ok (.astore 4, 2) := by decide +kernel
theorem dL_system_19 : decode cL_system 19 = .ok (.iconst 2, 1) := by decide +kernel
theorem dL_system_20 : decode cL_system 20 = .ok (.ireturn, 1) := by decide +kernel
theorem dL_system_21 : decode cL_system 21 = .ok (.iconst 0, 1) := by decide +kernel
theorem dL_system_22 : decode cL_system 22 = .ok (.ireturn, 1) := by decide +kernel
noncomputable def bL_system_0 (Q : Option Value → MM → Prop) (nx : Nat → Kt) : Kt := ldA 3 (cI 0 (ldA 0 (ldI 1 (ldI 2 (cX 2 7 wX7_system 1 6 1 6 (hd2 eI eS (nx 13) (nx 17)) (i2 (sAJ (nx 21))))))))
noncomputable def bL_system_13 (Q : Option Value → MM → Prop) (nx : Nat → Kt) : Kt := stA 4 (cI 1 (rI Q))
noncomputable def bL_system_17 (Q : Option Value → MM → Prop) (nx : Nat → Kt) : Kt := stA 4 (cI 2 (rI Q))
noncomputable def bL_system_21 (Q : Option Value → MM → Prop) (nx : Nat → Kt) : Kt := cI 0 (rI Q)
noncomputable def kL_system (Q : Option Value → MM → Prop) (nx : Nat → Kt) : Nat → Kt := bse [(0, bL_system_0 Q nx), (13, bL_system_13 Q nx), (17, bL_system_17 Q nx), (21, bL_system_21 Q nx)]
abbrev rL_system : Room := { frames := 7, cells := 1, slots := 6, locals := 111 }
noncomputable def wL_system : Mw := mw 5 kL_system
set_option maxRecDepth 20000 in
theorem oL_system_0 {T : Ct} {Q : Option Value → MM → Prop} (C : Cx T cL_system 5 RL 1 6) (CR : CxR T 7 111) (CW : CxW T [(0, 10, 13, 13), (0, 10, 17, 15)]) (hr : T.2.2.2.2.2.2.2.2.1.sig.returnType = (some .int)) (hnm : T.2.2.2.2.2.2.2.2.1.name = "system") {nx : Nat → Kt} (hn : ∀ pc, Sd T 5 (QT T Q 1 6) 1 6 pc (nx pc)) : Sd T 5 (QT T Q 1 6) 1 6 0 (bL_system_0 Q nx) := x_al_n C dL_system_0 rfl (x_ic C dL_system_1 (by decide) (x_al_n C dL_system_2 rfl (x_il_n C dL_system_3 rfl (x_il_n C dL_system_4 rfl (x_cX C CR CW mX7_system ⟨co_X7_system, init_X7, md_X7_system, by decide, by decide⟩ (ci := 7) (TX := TX7) (N := 9) rfl (by decide) ml_L_7 im_X7_system se_X7_system (x_h2 C CW (by decide) (by decide) (by decide) cl_L_13 cl_L_15 ca_eI ca_eS (hn 13) (hn 17)) dL_system_5 (x_i2l C dL_system_8 (x_last C dL_system_9 (x_goto C (hn 21) dL_system_10 (by decide)))))))))
set_option maxRecDepth 20000 in
theorem oL_system_13 {T : Ct} {Q : Option Value → MM → Prop} (C : Cx T cL_system 5 RL 1 6) (CR : CxR T 7 111) (CW : CxW T [(0, 10, 13, 13), (0, 10, 17, 15)]) (hr : T.2.2.2.2.2.2.2.2.1.sig.returnType = (some .int)) (hnm : T.2.2.2.2.2.2.2.2.1.name = "system") {nx : Nat → Kt} (hn : ∀ pc, Sd T 5 (QT T Q 1 6) 1 6 pc (nx pc)) : Sd T 5 (QT T Q 1 6) 1 6 13 (bL_system_13 Q nx) := x_as C dL_system_13 (by decide) (x_ic C dL_system_15 (by decide) (x_rI C hr dL_system_16))
set_option maxRecDepth 20000 in
theorem oL_system_17 {T : Ct} {Q : Option Value → MM → Prop} (C : Cx T cL_system 5 RL 1 6) (CR : CxR T 7 111) (CW : CxW T [(0, 10, 13, 13), (0, 10, 17, 15)]) (hr : T.2.2.2.2.2.2.2.2.1.sig.returnType = (some .int)) (hnm : T.2.2.2.2.2.2.2.2.1.name = "system") {nx : Nat → Kt} (hn : ∀ pc, Sd T 5 (QT T Q 1 6) 1 6 pc (nx pc)) : Sd T 5 (QT T Q 1 6) 1 6 17 (bL_system_17 Q nx) := x_as C dL_system_17 (by decide) (x_ic C dL_system_19 (by decide) (x_rI C hr dL_system_20))
set_option maxRecDepth 20000 in
theorem oL_system_21 {T : Ct} {Q : Option Value → MM → Prop} (C : Cx T cL_system 5 RL 1 6) (CR : CxR T 7 111) (CW : CxW T [(0, 10, 13, 13), (0, 10, 17, 15)]) (hr : T.2.2.2.2.2.2.2.2.1.sig.returnType = (some .int)) (hnm : T.2.2.2.2.2.2.2.2.1.name = "system") {nx : Nat → Kt} (hn : ∀ pc, Sd T 5 (QT T Q 1 6) 1 6 pc (nx pc)) : Sd T 5 (QT T Q 1 6) 1 6 21 (bL_system_21 Q nx) := x_ic C dL_system_21 (by decide) (x_rI C hr dL_system_22)
set_option maxRecDepth 20000 in
theorem mL_system (l : Launch) (hst : l.stackTraces = false) (D : va_G) (cA : Nat → ClassId) (base : Nat) : McW l D cA base yL_system cL_system 5 (some .int) [(0, 10, 13, 13), (0, 10, 17, 15)] rL_system wL_system := mcW_of hst (by decide +kernel) kL_system (fun T Q C CR CW hr hnm nx hn => bse_ok _ (List.forall_mem_cons.mpr ⟨oL_system_0 C CR CW hr hnm hn, List.forall_mem_cons.mpr ⟨oL_system_13 C CR CW hr hnm hn, List.forall_mem_cons.mpr ⟨oL_system_17 C CR CW hr hnm hn, List.forall_mem_cons.mpr ⟨oL_system_21 C CR CW hr hnm hn, fun _ h => nomatch h⟩⟩⟩⟩))
theorem dL_limit_0 : decode cL_limit 0 = .ok (.aload_n 3, 1) := by decide +kernel
theorem dL_limit_1 : decode cL_limit 1 = .ok (.iconst 0, 1) := by decide +kernel
theorem dL_limit_2 : decode cL_limit 2 = .ok (.aload_n 0, 1) := by decide +kernel
theorem dL_limit_3 : decode cL_limit 3 = .ok (.iload_n 1, 1) := by decide +kernel
theorem dL_limit_4 : decode cL_limit 4 = .ok (.iload_n 2, 1) := by decide +kernel
theorem dL_limit_5 : decode cL_limit 5 = .ok (.invokevirtual 17, 3) := by decide +kernel
theorem dL_limit_8 : decode cL_limit 8 = .ok (.i2l, 1) := by decide +kernel
theorem dL_limit_9 : decode cL_limit 9 = .ok (.lastore, 1) := by decide +kernel
theorem dL_limit_10 : decode cL_limit 10 = .ok (.goto 7, 3) := by decide +kernel
theorem dL_limit_13 : decode cL_limit 13 = .ok (.astore 4, 2) := by decide +kernel
theorem dL_limit_15 : decode cL_limit 15 = .ok (.iconst 1, 1) := by decide +kernel
theorem dL_limit_16 : decode cL_limit 16 = .ok (.ireturn, 1) := by decide +kernel
theorem dL_limit_17 : decode cL_limit 17 = .ok (.iconst 0, 1) := by decide +kernel
theorem dL_limit_18 : decode cL_limit 18 = .ok (.ireturn, 1) := by decide +kernel
noncomputable def bL_limit_0 (Q : Option Value → MM → Prop) (nx : Nat → Kt) : Kt := ldA 3 (cI 0 (ldA 0 (ldI 1 (ldI 2 (cX 2 7 wX7_limit 1 6 1 6 (hd1 eI (nx 13)) (i2 (sAJ (nx 17))))))))
noncomputable def bL_limit_13 (Q : Option Value → MM → Prop) (nx : Nat → Kt) : Kt := stA 4 (cI 1 (rI Q))
noncomputable def bL_limit_17 (Q : Option Value → MM → Prop) (nx : Nat → Kt) : Kt := cI 0 (rI Q)
noncomputable def kL_limit (Q : Option Value → MM → Prop) (nx : Nat → Kt) : Nat → Kt := bse [(0, bL_limit_0 Q nx), (13, bL_limit_13 Q nx), (17, bL_limit_17 Q nx)]
abbrev rL_limit : Room := { frames := 7, cells := 1, slots := 6, locals := 111 }
noncomputable def wL_limit : Mw := mw 5 kL_limit
set_option maxRecDepth 20000 in
theorem oL_limit_0 {T : Ct} {Q : Option Value → MM → Prop} (C : Cx T cL_limit 5 RL 1 6) (CR : CxR T 7 111) (CW : CxW T [(0, 10, 13, 13)]) (hr : T.2.2.2.2.2.2.2.2.1.sig.returnType = (some .int)) (hnm : T.2.2.2.2.2.2.2.2.1.name = "limit") {nx : Nat → Kt} (hn : ∀ pc, Sd T 5 (QT T Q 1 6) 1 6 pc (nx pc)) : Sd T 5 (QT T Q 1 6) 1 6 0 (bL_limit_0 Q nx) := x_al_n C dL_limit_0 rfl (x_ic C dL_limit_1 (by decide) (x_al_n C dL_limit_2 rfl (x_il_n C dL_limit_3 rfl (x_il_n C dL_limit_4 rfl (x_cX C CR CW mX7_limit ⟨co_X7_limit, init_X7, md_X7_limit, by decide, by decide⟩ (ci := 7) (TX := TX7) (N := 9) rfl (by decide) ml_L_17 im_X7_limit se_X7_limit (x_h1 C CW (by decide) (by decide) cl_L_13 ca_eI (hn 13)) dL_limit_5 (x_i2l C dL_limit_8 (x_last C dL_limit_9 (x_goto C (hn 17) dL_limit_10 (by decide)))))))))
set_option maxRecDepth 20000 in
theorem oL_limit_13 {T : Ct} {Q : Option Value → MM → Prop} (C : Cx T cL_limit 5 RL 1 6) (CR : CxR T 7 111) (CW : CxW T [(0, 10, 13, 13)]) (hr : T.2.2.2.2.2.2.2.2.1.sig.returnType = (some .int)) (hnm : T.2.2.2.2.2.2.2.2.1.name = "limit") {nx : Nat → Kt} (hn : ∀ pc, Sd T 5 (QT T Q 1 6) 1 6 pc (nx pc)) : Sd T 5 (QT T Q 1 6) 1 6 13 (bL_limit_13 Q nx) := x_as C dL_limit_13 (by decide) (x_ic C dL_limit_15 (by decide) (x_rI C hr dL_limit_16))
set_option maxRecDepth 20000 in
theorem oL_limit_17 {T : Ct} {Q : Option Value → MM → Prop} (C : Cx T cL_limit 5 RL 1 6) (CR : CxR T 7 111) (CW : CxW T [(0, 10, 13, 13)]) (hr : T.2.2.2.2.2.2.2.2.1.sig.returnType = (some .int)) (hnm : T.2.2.2.2.2.2.2.2.1.name = "limit") {nx : Nat → Kt} (hn : ∀ pc, Sd T 5 (QT T Q 1 6) 1 6 pc (nx pc)) : Sd T 5 (QT T Q 1 6) 1 6 17 (bL_limit_17 Q nx) := x_ic C dL_limit_17 (by decide) (x_rI C hr dL_limit_18)
set_option maxRecDepth 20000 in
theorem mL_limit (l : Launch) (hst : l.stackTraces = false) (D : va_G) (cA : Nat → ClassId) (base : Nat) : McW l D cA base yL_limit cL_limit 5 (some .int) [(0, 10, 13, 13)] rL_limit wL_limit := mcW_of hst (by decide +kernel) kL_limit (fun T Q C CR CW hr hnm nx hn => bse_ok _ (List.forall_mem_cons.mpr ⟨oL_limit_0 C CR CW hr hnm hn, List.forall_mem_cons.mpr ⟨oL_limit_13 C CR CW hr hnm hn, List.forall_mem_cons.mpr ⟨oL_limit_17 C CR CW hr hnm hn, fun _ h => nomatch h⟩⟩⟩))
theorem dL_port_0 : decode cL_port 0 = .ok (.aload_n 0, 1) := by decide +kernel
theorem dL_port_1 : decode cL_port 1 = .ok (.iload_n 1, 1) := by decide +kernel
theorem dL_port_2 : decode cL_port 2 = .ok (.iload_n 2, 1) := by decide +kernel
theorem dL_port_3 : decode cL_port 3 = .ok (.iload_n 3, 1) := by decide +kernel
theorem dL_port_4 : decode cL_port 4 = .ok (.iload 4, 2) := by decide +kernel
theorem dL_port_6 : decode cL_port 6 = .ok (.invokevirtual 20, 3) := by decide +kernel
theorem dL_port_9 : decode cL_port 9 = .ok (.goto 7, 3) := by decide +kernel
theorem dL_port_12 : decode cL_port 12 = .ok (.astore 5, 2) := by decide +kernel
theorem dL_port_14 : decode cL_port 14 = .ok (.iconst 1, 1) := by decide +kernel
theorem dL_port_15 : decode cL_port 15 = .ok (.ireturn, 1) := by decide +kernel
theorem dL_port_16 : decode cL_port 16 = .ok (.iconst 0, 1) := by decide +kernel
theorem dL_port_17 : decode cL_port 17 = .ok (.ireturn, 1) := by decide +kernel
noncomputable def bL_port_0 (Q : Option Value → MM → Prop) (nx : Nat → Kt) : Kt := ldA 0 (ldI 1 (ldI 2 (ldI 3 (ldI 4 (cX 4 7 wX7_port 1 6 1 6 (hd1 eI (nx 12)) (nx 16))))))
noncomputable def bL_port_12 (Q : Option Value → MM → Prop) (nx : Nat → Kt) : Kt := stA 5 (cI 1 (rI Q))
noncomputable def bL_port_16 (Q : Option Value → MM → Prop) (nx : Nat → Kt) : Kt := cI 0 (rI Q)
noncomputable def kL_port (Q : Option Value → MM → Prop) (nx : Nat → Kt) : Nat → Kt := bse [(0, bL_port_0 Q nx), (12, bL_port_12 Q nx), (16, bL_port_16 Q nx)]
abbrev rL_port : Room := { frames := 7, cells := 1, slots := 6, locals := 113 }
noncomputable def wL_port : Mw := mw 6 kL_port
set_option maxRecDepth 20000 in
theorem oL_port_0 {T : Ct} {Q : Option Value → MM → Prop} (C : Cx T cL_port 6 RL 1 6) (CR : CxR T 7 113) (CW : CxW T [(0, 9, 12, 13)]) (hr : T.2.2.2.2.2.2.2.2.1.sig.returnType = (some .int)) (hnm : T.2.2.2.2.2.2.2.2.1.name = "port") {nx : Nat → Kt} (hn : ∀ pc, Sd T 6 (QT T Q 1 6) 1 6 pc (nx pc)) : Sd T 6 (QT T Q 1 6) 1 6 0 (bL_port_0 Q nx) := x_al_n C dL_port_0 rfl (x_il_n C dL_port_1 rfl (x_il_n C dL_port_2 rfl (x_il_n C dL_port_3 rfl (x_il C dL_port_4 (x_cX C CR CW mX7_port ⟨co_X7_port, init_X7, md_X7_port, by decide, by decide⟩ (ci := 7) (TX := TX7) (N := 9) rfl (by decide) ml_L_20 im_X7_port se_X7_port (x_h1 C CW (by decide) (by decide) cl_L_13 ca_eI (hn 12)) dL_port_6 (x_goto C (hn 16) dL_port_9 (by decide)))))))
set_option maxRecDepth 20000 in
theorem oL_port_12 {T : Ct} {Q : Option Value → MM → Prop} (C : Cx T cL_port 6 RL 1 6) (CR : CxR T 7 113) (CW : CxW T [(0, 9, 12, 13)]) (hr : T.2.2.2.2.2.2.2.2.1.sig.returnType = (some .int)) (hnm : T.2.2.2.2.2.2.2.2.1.name = "port") {nx : Nat → Kt} (hn : ∀ pc, Sd T 6 (QT T Q 1 6) 1 6 pc (nx pc)) : Sd T 6 (QT T Q 1 6) 1 6 12 (bL_port_12 Q nx) := x_as C dL_port_12 (by decide) (x_ic C dL_port_14 (by decide) (x_rI C hr dL_port_15))
set_option maxRecDepth 20000 in
theorem oL_port_16 {T : Ct} {Q : Option Value → MM → Prop} (C : Cx T cL_port 6 RL 1 6) (CR : CxR T 7 113) (CW : CxW T [(0, 9, 12, 13)]) (hr : T.2.2.2.2.2.2.2.2.1.sig.returnType = (some .int)) (hnm : T.2.2.2.2.2.2.2.2.1.name = "port") {nx : Nat → Kt} (hn : ∀ pc, Sd T 6 (QT T Q 1 6) 1 6 pc (nx pc)) : Sd T 6 (QT T Q 1 6) 1 6 16 (bL_port_16 Q nx) := x_ic C dL_port_16 (by decide) (x_rI C hr dL_port_17)
set_option maxRecDepth 20000 in
theorem mL_port (l : Launch) (hst : l.stackTraces = false) (D : va_G) (cA : Nat → ClassId) (base : Nat) : McW l D cA base yL_port cL_port 6 (some .int) [(0, 9, 12, 13)] rL_port wL_port := mcW_of hst (by decide +kernel) kL_port (fun T Q C CR CW hr hnm nx hn => bse_ok _ (List.forall_mem_cons.mpr ⟨oL_port_0 C CR CW hr hnm hn, List.forall_mem_cons.mpr ⟨oL_port_12 C CR CW hr hnm hn, List.forall_mem_cons.mpr ⟨oL_port_16 C CR CW hr hnm hn, fun _ h => nomatch h⟩⟩⟩))
theorem dL_manner_0 : decode cL_manner 0 = .ok (.aload_n 0, 1) := by decide +kernel
theorem dL_manner_1 : decode cL_manner 1 = .ok (.iload_n 1, 1) := by decide +kernel
theorem dL_manner_2 : decode cL_manner 2 = .ok (.iload_n 2, 1) := by decide +kernel
theorem dL_manner_3 : decode cL_manner 3 = .ok (.iload_n 3, 1) := by decide +kernel
theorem dL_manner_4 : decode cL_manner 4 = .ok (.iload 4, 2) := by decide +kernel
theorem dL_manner_6 : decode cL_manner 6 = .ok (.invokevirtual 24, 3) := by decide +kernel
theorem dL_manner_9 : decode cL_manner 9 = .ok (.goto 7, 3) := by decide +kernel
theorem dL_manner_12 : decode cL_manner 12 = .ok (.astore 5, 2) := by decide +kernel
theorem dL_manner_14 : decode cL_manner 14 = .ok (.iconst 1, 1) := by decide +kernel
theorem dL_manner_15 : decode cL_manner 15 = .ok (.ireturn, 1) := by decide +kernel
theorem dL_manner_16 : decode cL_manner 16 = .ok (.iconst 0, 1) := by decide +kernel
theorem dL_manner_17 : decode cL_manner 17 = .ok (.ireturn, 1) := by decide +kernel
noncomputable def bL_manner_0 (Q : Option Value → MM → Prop) (nx : Nat → Kt) : Kt := ldA 0 (ldI 1 (ldI 2 (ldI 3 (ldI 4 (cX 4 7 wX7_manner 1 6 1 6 (hd1 eI (nx 12)) (nx 16))))))
noncomputable def bL_manner_12 (Q : Option Value → MM → Prop) (nx : Nat → Kt) : Kt := stA 5 (cI 1 (rI Q))
noncomputable def bL_manner_16 (Q : Option Value → MM → Prop) (nx : Nat → Kt) : Kt := cI 0 (rI Q)
noncomputable def kL_manner (Q : Option Value → MM → Prop) (nx : Nat → Kt) : Nat → Kt := bse [(0, bL_manner_0 Q nx), (12, bL_manner_12 Q nx), (16, bL_manner_16 Q nx)]
abbrev rL_manner : Room := { frames := 7, cells := 1, slots := 6, locals := 113 }
noncomputable def wL_manner : Mw := mw 6 kL_manner
set_option maxRecDepth 20000 in
theorem oL_manner_0 {T : Ct} {Q : Option Value → MM → Prop} (C : Cx T cL_manner 6 RL 1 6) (CR : CxR T 7 113) (CW : CxW T [(0, 9, 12, 13)]) (hr : T.2.2.2.2.2.2.2.2.1.sig.returnType = (some .int)) (hnm : T.2.2.2.2.2.2.2.2.1.name = "manner") {nx : Nat → Kt} (hn : ∀ pc, Sd T 6 (QT T Q 1 6) 1 6 pc (nx pc)) : Sd T 6 (QT T Q 1 6) 1 6 0 (bL_manner_0 Q nx) := x_al_n C dL_manner_0 rfl (x_il_n C dL_manner_1 rfl (x_il_n C dL_manner_2 rfl (x_il_n C dL_manner_3 rfl (x_il C dL_manner_4 (x_cX C CR CW mX7_manner ⟨co_X7_manner, init_X7, md_X7_manner, by decide, by decide⟩ (ci := 7) (TX := TX7) (N := 9) rfl (by decide) ml_L_24 im_X7_manner se_X7_manner (x_h1 C CW (by decide) (by decide) cl_L_13 ca_eI (hn 12)) dL_manner_6 (x_goto C (hn 16) dL_manner_9 (by decide)))))))
set_option maxRecDepth 20000 in
theorem oL_manner_12 {T : Ct} {Q : Option Value → MM → Prop} (C : Cx T cL_manner 6 RL 1 6) (CR : CxR T 7 113) (CW : CxW T [(0, 9, 12, 13)]) (hr : T.2.2.2.2.2.2.2.2.1.sig.returnType = (some .int)) (hnm : T.2.2.2.2.2.2.2.2.1.name = "manner") {nx : Nat → Kt} (hn : ∀ pc, Sd T 6 (QT T Q 1 6) 1 6 pc (nx pc)) : Sd T 6 (QT T Q 1 6) 1 6 12 (bL_manner_12 Q nx) := x_as C dL_manner_12 (by decide) (x_ic C dL_manner_14 (by decide) (x_rI C hr dL_manner_15))
set_option maxRecDepth 20000 in
theorem oL_manner_16 {T : Ct} {Q : Option Value → MM → Prop} (C : Cx T cL_manner 6 RL 1 6) (CR : CxR T 7 113) (CW : CxW T [(0, 9, 12, 13)]) (hr : T.2.2.2.2.2.2.2.2.1.sig.returnType = (some .int)) (hnm : T.2.2.2.2.2.2.2.2.1.name = "manner") {nx : Nat → Kt} (hn : ∀ pc, Sd T 6 (QT T Q 1 6) 1 6 pc (nx pc)) : Sd T 6 (QT T Q 1 6) 1 6 16 (bL_manner_16 Q nx) := x_ic C dL_manner_16 (by decide) (x_rI C hr dL_manner_17)
set_option maxRecDepth 20000 in
theorem mL_manner (l : Launch) (hst : l.stackTraces = false) (D : va_G) (cA : Nat → ClassId) (base : Nat) : McW l D cA base yL_manner cL_manner 6 (some .int) [(0, 9, 12, 13)] rL_manner wL_manner := mcW_of hst (by decide +kernel) kL_manner (fun T Q C CR CW hr hnm nx hn => bse_ok _ (List.forall_mem_cons.mpr ⟨oL_manner_0 C CR CW hr hnm hn, List.forall_mem_cons.mpr ⟨oL_manner_12 C CR CW hr hnm hn, List.forall_mem_cons.mpr ⟨oL_manner_16 C CR CW hr hnm hn, fun _ h => nomatch h⟩⟩⟩))
theorem dL_plug_0 : decode cL_plug 0 = .ok (.aload_n 0, 1) := by decide +kernel
theorem dL_plug_1 : decode cL_plug 1 = .ok (.iload_n 1, 1) := by decide +kernel
theorem dL_plug_2 : decode cL_plug 2 = .ok (.iload_n 2, 1) := by decide +kernel
theorem dL_plug_3 : decode cL_plug 3 = .ok (.iload_n 3, 1) := by decide +kernel
theorem dL_plug_4 : decode cL_plug 4 = .ok (.iload 4, 2) := by decide +kernel
theorem dL_plug_6 : decode cL_plug 6 = .ok (.invokevirtual 28, 3) := by decide +kernel
theorem dL_plug_9 : decode cL_plug 9 = .ok (.goto 11, 3) := by decide +kernel
theorem dL_plug_12 : decode cL_plug 12 = .ok (.astore 5, 2) := by decide +kernel
theorem dL_plug_14 : decode cL_plug 14 = .ok (.iconst 1, 1) := by decide +kernel
theorem dL_plug_15 : decode cL_plug 15 = .ok (.ireturn, 1) := by decide +kernel
theorem dL_plug_16 : decode cL_plug 16 = .ok (.astore 5, 2) := by decide +kernel
theorem dL_plug_18 : decode cL_plug 18 = .ok (.iconst 2, 1) := by decide +kernel
theorem dL_plug_19 : decode cL_plug 19 = .ok (.ireturn, 1) := by decide +kernel
theorem dL_plug_20 : decode cL_plug 20 = .ok (.iconst 0, 1) := by decide +kernel
theorem dL_plug_21 : decode cL_plug 21 = .ok (.ireturn, 1) := by decide +kernel
noncomputable def bL_plug_0 (Q : Option Value → MM → Prop) (nx : Nat → Kt) : Kt := ldA 0 (ldI 1 (ldI 2 (ldI 3 (ldI 4 (cX 4 7 wX7_plug 1 6 1 6 (hd2 eI eS (nx 12) (nx 16)) (nx 20))))))
noncomputable def bL_plug_12 (Q : Option Value → MM → Prop) (nx : Nat → Kt) : Kt := stA 5 (cI 1 (rI Q))
noncomputable def bL_plug_16 (Q : Option Value → MM → Prop) (nx : Nat → Kt) : Kt := stA 5 (cI 2 (rI Q))
noncomputable def bL_plug_20 (Q : Option Value → MM → Prop) (nx : Nat → Kt) : Kt := cI 0 (rI Q)
noncomputable def kL_plug (Q : Option Value → MM → Prop) (nx : Nat → Kt) : Nat → Kt := bse [(0, bL_plug_0 Q nx), (12, bL_plug_12 Q nx), (16, bL_plug_16 Q nx), (20, bL_plug_20 Q nx)]
abbrev rL_plug : Room := { frames := 7, cells := 1, slots := 6, locals := 133 }
noncomputable def wL_plug : Mw := mw 6 kL_plug
set_option maxRecDepth 20000 in
theorem oL_plug_0 {T : Ct} {Q : Option Value → MM → Prop} (C : Cx T cL_plug 6 RL 1 6) (CR : CxR T 7 133) (CW : CxW T [(0, 9, 12, 13), (0, 9, 16, 15)]) (hr : T.2.2.2.2.2.2.2.2.1.sig.returnType = (some .int)) (hnm : T.2.2.2.2.2.2.2.2.1.name = "plug") {nx : Nat → Kt} (hn : ∀ pc, Sd T 6 (QT T Q 1 6) 1 6 pc (nx pc)) : Sd T 6 (QT T Q 1 6) 1 6 0 (bL_plug_0 Q nx) := x_al_n C dL_plug_0 rfl (x_il_n C dL_plug_1 rfl (x_il_n C dL_plug_2 rfl (x_il_n C dL_plug_3 rfl (x_il C dL_plug_4 (x_cX C CR CW mX7_plug ⟨co_X7_plug, init_X7, md_X7_plug, by decide, by decide⟩ (ci := 7) (TX := TX7) (N := 9) rfl (by decide) ml_L_28 im_X7_plug se_X7_plug (x_h2 C CW (by decide) (by decide) (by decide) cl_L_13 cl_L_15 ca_eI ca_eS (hn 12) (hn 16)) dL_plug_6 (x_goto C (hn 20) dL_plug_9 (by decide)))))))
set_option maxRecDepth 20000 in
theorem oL_plug_12 {T : Ct} {Q : Option Value → MM → Prop} (C : Cx T cL_plug 6 RL 1 6) (CR : CxR T 7 133) (CW : CxW T [(0, 9, 12, 13), (0, 9, 16, 15)]) (hr : T.2.2.2.2.2.2.2.2.1.sig.returnType = (some .int)) (hnm : T.2.2.2.2.2.2.2.2.1.name = "plug") {nx : Nat → Kt} (hn : ∀ pc, Sd T 6 (QT T Q 1 6) 1 6 pc (nx pc)) : Sd T 6 (QT T Q 1 6) 1 6 12 (bL_plug_12 Q nx) := x_as C dL_plug_12 (by decide) (x_ic C dL_plug_14 (by decide) (x_rI C hr dL_plug_15))
set_option maxRecDepth 20000 in
theorem oL_plug_16 {T : Ct} {Q : Option Value → MM → Prop} (C : Cx T cL_plug 6 RL 1 6) (CR : CxR T 7 133) (CW : CxW T [(0, 9, 12, 13), (0, 9, 16, 15)]) (hr : T.2.2.2.2.2.2.2.2.1.sig.returnType = (some .int)) (hnm : T.2.2.2.2.2.2.2.2.1.name = "plug") {nx : Nat → Kt} (hn : ∀ pc, Sd T 6 (QT T Q 1 6) 1 6 pc (nx pc)) : Sd T 6 (QT T Q 1 6) 1 6 16 (bL_plug_16 Q nx) := x_as C dL_plug_16 (by decide) (x_ic C dL_plug_18 (by decide) (x_rI C hr dL_plug_19))
set_option maxRecDepth 20000 in
theorem oL_plug_20 {T : Ct} {Q : Option Value → MM → Prop} (C : Cx T cL_plug 6 RL 1 6) (CR : CxR T 7 133) (CW : CxW T [(0, 9, 12, 13), (0, 9, 16, 15)]) (hr : T.2.2.2.2.2.2.2.2.1.sig.returnType = (some .int)) (hnm : T.2.2.2.2.2.2.2.2.1.name = "plug") {nx : Nat → Kt} (hn : ∀ pc, Sd T 6 (QT T Q 1 6) 1 6 pc (nx pc)) : Sd T 6 (QT T Q 1 6) 1 6 20 (bL_plug_20 Q nx) := x_ic C dL_plug_20 (by decide) (x_rI C hr dL_plug_21)
set_option maxRecDepth 20000 in
theorem mL_plug (l : Launch) (hst : l.stackTraces = false) (D : va_G) (cA : Nat → ClassId) (base : Nat) : McW l D cA base yL_plug cL_plug 6 (some .int) [(0, 9, 12, 13), (0, 9, 16, 15)] rL_plug wL_plug := mcW_of hst (by decide +kernel) kL_plug (fun T Q C CR CW hr hnm nx hn => bse_ok _ (List.forall_mem_cons.mpr ⟨oL_plug_0 C CR CW hr hnm hn, List.forall_mem_cons.mpr ⟨oL_plug_12 C CR CW hr hnm hn, List.forall_mem_cons.mpr ⟨oL_plug_16 C CR CW hr hnm hn, List.forall_mem_cons.mpr ⟨oL_plug_20 C CR CW hr hnm hn, fun _ h => nomatch h⟩⟩⟩⟩))
theorem dL_pull_0 : decode cL_pull 0 = .ok (.aload_n 0, 1) := by decide +kernel
theorem dL_pull_1 : decode cL_pull 1 = .ok (.iload_n 1, 1) := by decide +kernel
theorem dL_pull_2 : decode cL_pull 2 = .ok (.invokevirtual 31, 3) := by decide +kernel
theorem dL_pull_5 : decode cL_pull 5 = .ok (.goto 9, 3) := by decide +kernel
theorem dL_pull_8 : decode cL_pull 8 = .ok (.astore_n 2, 1) := by decide +kernel
theorem dL_pull_9 : decode cL_pull 9 = .ok (.iconst 1, 1) := by decide +kernel
theorem dL_pull_10 : decode cL_pull 10 = .ok (.ireturn, 1) := by decide +kernel
theorem dL_pull_11 : decode cL_pull 11 = .ok (.astore_n 2, 1) := by decide +kernel
theorem dL_pull_12 : decode cL_pull 12 = .ok (.iconst 2, 1) := by decide +kernel
theorem dL_pull_13 : decode cL_pull 13 = .ok (.ireturn, 1) := by decide +kernel
theorem dL_pull_14 : decode cL_pull 14 = .ok (.iconst 0, 1) := by decide +kernel
theorem dL_pull_15 : decode cL_pull 15 = .ok (.ireturn, 1) := by decide +kernel
noncomputable def bL_pull_0 (Q : Option Value → MM → Prop) (nx : Nat → Kt) : Kt := ldA 0 (ldI 1 (cX 1 7 wX7_pull 1 6 1 6 (hd2 eI eS (nx 8) (nx 11)) (nx 14)))
noncomputable def bL_pull_8 (Q : Option Value → MM → Prop) (nx : Nat → Kt) : Kt := stA 2 (cI 1 (rI Q))
noncomputable def bL_pull_11 (Q : Option Value → MM → Prop) (nx : Nat → Kt) : Kt := stA 2 (cI 2 (rI Q))
noncomputable def bL_pull_14 (Q : Option Value → MM → Prop) (nx : Nat → Kt) : Kt := cI 0 (rI Q)
noncomputable def kL_pull (Q : Option Value → MM → Prop) (nx : Nat → Kt) : Nat → Kt := bse [(0, bL_pull_0 Q nx), (8, bL_pull_8 Q nx), (11, bL_pull_11 Q nx), (14, bL_pull_14 Q nx)]
abbrev rL_pull : Room := { frames := 7, cells := 1, slots := 6, locals := 130 }
noncomputable def wL_pull : Mw := mw 3 kL_pull
set_option maxRecDepth 20000 in
theorem oL_pull_0 {T : Ct} {Q : Option Value → MM → Prop} (C : Cx T cL_pull 3 RL 1 6) (CR : CxR T 7 130) (CW : CxW T [(0, 5, 8, 13), (0, 5, 11, 15)]) (hr : T.2.2.2.2.2.2.2.2.1.sig.returnType = (some .int)) (hnm : T.2.2.2.2.2.2.2.2.1.name = "pull") {nx : Nat → Kt} (hn : ∀ pc, Sd T 3 (QT T Q 1 6) 1 6 pc (nx pc)) : Sd T 3 (QT T Q 1 6) 1 6 0 (bL_pull_0 Q nx) := x_al_n C dL_pull_0 rfl (x_il_n C dL_pull_1 rfl (x_cX C CR CW mX7_pull ⟨co_X7_pull, init_X7, md_X7_pull, by decide, by decide⟩ (ci := 7) (TX := TX7) (N := 9) rfl (by decide) ml_L_31 im_X7_pull se_X7_pull (x_h2 C CW (by decide) (by decide) (by decide) cl_L_13 cl_L_15 ca_eI ca_eS (hn 8) (hn 11)) dL_pull_2 (x_goto C (hn 14) dL_pull_5 (by decide))))
set_option maxRecDepth 20000 in
theorem oL_pull_8 {T : Ct} {Q : Option Value → MM → Prop} (C : Cx T cL_pull 3 RL 1 6) (CR : CxR T 7 130) (CW : CxW T [(0, 5, 8, 13), (0, 5, 11, 15)]) (hr : T.2.2.2.2.2.2.2.2.1.sig.returnType = (some .int)) (hnm : T.2.2.2.2.2.2.2.2.1.name = "pull") {nx : Nat → Kt} (hn : ∀ pc, Sd T 3 (QT T Q 1 6) 1 6 pc (nx pc)) : Sd T 3 (QT T Q 1 6) 1 6 8 (bL_pull_8 Q nx) := x_as_n C dL_pull_8 rfl (by decide) (x_ic C dL_pull_9 (by decide) (x_rI C hr dL_pull_10))
set_option maxRecDepth 20000 in
theorem oL_pull_11 {T : Ct} {Q : Option Value → MM → Prop} (C : Cx T cL_pull 3 RL 1 6) (CR : CxR T 7 130) (CW : CxW T [(0, 5, 8, 13), (0, 5, 11, 15)]) (hr : T.2.2.2.2.2.2.2.2.1.sig.returnType = (some .int)) (hnm : T.2.2.2.2.2.2.2.2.1.name = "pull") {nx : Nat → Kt} (hn : ∀ pc, Sd T 3 (QT T Q 1 6) 1 6 pc (nx pc)) : Sd T 3 (QT T Q 1 6) 1 6 11 (bL_pull_11 Q nx) := x_as_n C dL_pull_11 rfl (by decide) (x_ic C dL_pull_12 (by decide) (x_rI C hr dL_pull_13))
set_option maxRecDepth 20000 in
theorem oL_pull_14 {T : Ct} {Q : Option Value → MM → Prop} (C : Cx T cL_pull 3 RL 1 6) (CR : CxR T 7 130) (CW : CxW T [(0, 5, 8, 13), (0, 5, 11, 15)]) (hr : T.2.2.2.2.2.2.2.2.1.sig.returnType = (some .int)) (hnm : T.2.2.2.2.2.2.2.2.1.name = "pull") {nx : Nat → Kt} (hn : ∀ pc, Sd T 3 (QT T Q 1 6) 1 6 pc (nx pc)) : Sd T 3 (QT T Q 1 6) 1 6 14 (bL_pull_14 Q nx) := x_ic C dL_pull_14 (by decide) (x_rI C hr dL_pull_15)
set_option maxRecDepth 20000 in
theorem mL_pull (l : Launch) (hst : l.stackTraces = false) (D : va_G) (cA : Nat → ClassId) (base : Nat) : McW l D cA base yL_pull cL_pull 3 (some .int) [(0, 5, 8, 13), (0, 5, 11, 15)] rL_pull wL_pull := mcW_of hst (by decide +kernel) kL_pull (fun T Q C CR CW hr hnm nx hn => bse_ok _ (List.forall_mem_cons.mpr ⟨oL_pull_0 C CR CW hr hnm hn, List.forall_mem_cons.mpr ⟨oL_pull_8 C CR CW hr hnm hn, List.forall_mem_cons.mpr ⟨oL_pull_11 C CR CW hr hnm hn, List.forall_mem_cons.mpr ⟨oL_pull_14 C CR CW hr hnm hn, fun _ h => nomatch h⟩⟩⟩⟩))
theorem dL_light_0 : decode cL_light 0 = .ok (.aload_n 0, 1) := by decide +kernel
theorem dL_light_1 : decode cL_light 1 = .ok (.iload_n 1, 1) := by decide +kernel
theorem dL_light_2 : decode cL_light 2 = .ok (.iload_n 2, 1) := by decide +kernel
theorem dL_light_3 : decode cL_light 3 = .ok (.invokevirtual 35, 3) := by decide +kernel
theorem dL_light_6 : decode cL_light 6 = .ok (.goto 9, 3) := by decide +kernel
theorem dL_light_9 : decode cL_light 9 = .ok (.astore_n 3, 1) := by decide +kernel
theorem dL_light_10 : decode cL_light 10 = .ok (.iconst 1, 1) := by decide +kernel
theorem dL_light_11 : decode cL_light 11 = .ok (.ireturn, 1) := by decide +kernel
theorem dL_light_12 : decode cL_light 12 = .ok (.astore_n 3, 1) := by decide +kernel
theorem dL_light_13 : decode cL_light 13 = .ok (.iconst 2, 1) := by decide +kernel
theorem dL_light_14 : decode cL_light 14 = .ok (.ireturn, 1) := by decide +kernel
theorem dL_light_15 : decode cL_light 15 = .ok (.iconst 0, 1) := by decide +kernel
theorem dL_light_16 : decode cL_light 16 = .ok (.ireturn, 1) := by decide +kernel
noncomputable def bL_light_0 (Q : Option Value → MM → Prop) (nx : Nat → Kt) : Kt := ldA 0 (ldI 1 (ldI 2 (cX 2 7 wX7_light 1 6 1 6 (hd2 eI eS (nx 9) (nx 12)) (nx 15))))
noncomputable def bL_light_9 (Q : Option Value → MM → Prop) (nx : Nat → Kt) : Kt := stA 3 (cI 1 (rI Q))
noncomputable def bL_light_12 (Q : Option Value → MM → Prop) (nx : Nat → Kt) : Kt := stA 3 (cI 2 (rI Q))
noncomputable def bL_light_15 (Q : Option Value → MM → Prop) (nx : Nat → Kt) : Kt := cI 0 (rI Q)
noncomputable def kL_light (Q : Option Value → MM → Prop) (nx : Nat → Kt) : Nat → Kt := bse [(0, bL_light_0 Q nx), (9, bL_light_9 Q nx), (12, bL_light_12 Q nx), (15, bL_light_15 Q nx)]
abbrev rL_light : Room := { frames := 7, cells := 1, slots := 6, locals := 111 }
noncomputable def wL_light : Mw := mw 4 kL_light
set_option maxRecDepth 20000 in
theorem oL_light_0 {T : Ct} {Q : Option Value → MM → Prop} (C : Cx T cL_light 4 RL 1 6) (CR : CxR T 7 111) (CW : CxW T [(0, 6, 9, 13), (0, 6, 12, 15)]) (hr : T.2.2.2.2.2.2.2.2.1.sig.returnType = (some .int)) (hnm : T.2.2.2.2.2.2.2.2.1.name = "light") {nx : Nat → Kt} (hn : ∀ pc, Sd T 4 (QT T Q 1 6) 1 6 pc (nx pc)) : Sd T 4 (QT T Q 1 6) 1 6 0 (bL_light_0 Q nx) := x_al_n C dL_light_0 rfl (x_il_n C dL_light_1 rfl (x_il_n C dL_light_2 rfl (x_cX C CR CW mX7_light ⟨co_X7_light, init_X7, md_X7_light, by decide, by decide⟩ (ci := 7) (TX := TX7) (N := 9) rfl (by decide) ml_L_35 im_X7_light se_X7_light (x_h2 C CW (by decide) (by decide) (by decide) cl_L_13 cl_L_15 ca_eI ca_eS (hn 9) (hn 12)) dL_light_3 (x_goto C (hn 15) dL_light_6 (by decide)))))
set_option maxRecDepth 20000 in
theorem oL_light_9 {T : Ct} {Q : Option Value → MM → Prop} (C : Cx T cL_light 4 RL 1 6) (CR : CxR T 7 111) (CW : CxW T [(0, 6, 9, 13), (0, 6, 12, 15)]) (hr : T.2.2.2.2.2.2.2.2.1.sig.returnType = (some .int)) (hnm : T.2.2.2.2.2.2.2.2.1.name = "light") {nx : Nat → Kt} (hn : ∀ pc, Sd T 4 (QT T Q 1 6) 1 6 pc (nx pc)) : Sd T 4 (QT T Q 1 6) 1 6 9 (bL_light_9 Q nx) := x_as_n C dL_light_9 rfl (by decide) (x_ic C dL_light_10 (by decide) (x_rI C hr dL_light_11))
set_option maxRecDepth 20000 in
theorem oL_light_12 {T : Ct} {Q : Option Value → MM → Prop} (C : Cx T cL_light 4 RL 1 6) (CR : CxR T 7 111) (CW : CxW T [(0, 6, 9, 13), (0, 6, 12, 15)]) (hr : T.2.2.2.2.2.2.2.2.1.sig.returnType = (some .int)) (hnm : T.2.2.2.2.2.2.2.2.1.name = "light") {nx : Nat → Kt} (hn : ∀ pc, Sd T 4 (QT T Q 1 6) 1 6 pc (nx pc)) : Sd T 4 (QT T Q 1 6) 1 6 12 (bL_light_12 Q nx) := x_as_n C dL_light_12 rfl (by decide) (x_ic C dL_light_13 (by decide) (x_rI C hr dL_light_14))
set_option maxRecDepth 20000 in
theorem oL_light_15 {T : Ct} {Q : Option Value → MM → Prop} (C : Cx T cL_light 4 RL 1 6) (CR : CxR T 7 111) (CW : CxW T [(0, 6, 9, 13), (0, 6, 12, 15)]) (hr : T.2.2.2.2.2.2.2.2.1.sig.returnType = (some .int)) (hnm : T.2.2.2.2.2.2.2.2.1.name = "light") {nx : Nat → Kt} (hn : ∀ pc, Sd T 4 (QT T Q 1 6) 1 6 pc (nx pc)) : Sd T 4 (QT T Q 1 6) 1 6 15 (bL_light_15 Q nx) := x_ic C dL_light_15 (by decide) (x_rI C hr dL_light_16)
set_option maxRecDepth 20000 in
theorem mL_light (l : Launch) (hst : l.stackTraces = false) (D : va_G) (cA : Nat → ClassId) (base : Nat) : McW l D cA base yL_light cL_light 4 (some .int) [(0, 6, 9, 13), (0, 6, 12, 15)] rL_light wL_light := mcW_of hst (by decide +kernel) kL_light (fun T Q C CR CW hr hnm nx hn => bse_ok _ (List.forall_mem_cons.mpr ⟨oL_light_0 C CR CW hr hnm hn, List.forall_mem_cons.mpr ⟨oL_light_9 C CR CW hr hnm hn, List.forall_mem_cons.mpr ⟨oL_light_12 C CR CW hr hnm hn, List.forall_mem_cons.mpr ⟨oL_light_15 C CR CW hr hnm hn, fun _ h => nomatch h⟩⟩⟩⟩))
theorem dL_lose_0 : decode cL_lose 0 = .ok (.aload_n 0, 1) := by decide +kernel
theorem dL_lose_1 : decode cL_lose 1 = .ok (.iload_n 1, 1) := by decide +kernel
theorem dL_lose_2 : decode cL_lose 2 = .ok (.iload_n 2, 1) := by decide +kernel
theorem dL_lose_3 : decode cL_lose 3 = .ok (.iload_n 3, 1) := by decide +kernel
theorem dL_lose_4 : decode cL_lose 4 = .ok (.invokevirtual 39, 3) := by decide +kernel
theorem dL_lose_7 : decode cL_lose 7 = .ok (.goto 7, 3) := by decide +kernel
theorem dL_lose_10 : decode cL_lose 10 = .ok (.astore 4, 2) := by decide +kernel
theorem dL_lose_12 : decode cL_lose 12 = .ok (.iconst 1, 1) := by decide +kernel
theorem dL_lose_13 : decode cL_lose 13 = .ok (.ireturn, 1) := by decide +kernel
theorem dL_lose_14 : decode cL_lose 14 = .ok (.iconst 0, 1) := by decide +kernel
theorem dL_lose_15 : decode cL_lose 15 = .ok (.ireturn, 1) := by decide +kernel
noncomputable def bL_lose_0 (Q : Option Value → MM → Prop) (nx : Nat → Kt) : Kt := ldA 0 (ldI 1 (ldI 2 (ldI 3 (cX 3 7 wX7_lose 1 6 1 6 (hd1 eI (nx 10)) (nx 14)))))
noncomputable def bL_lose_10 (Q : Option Value → MM → Prop) (nx : Nat → Kt) : Kt := stA 4 (cI 1 (rI Q))
noncomputable def bL_lose_14 (Q : Option Value → MM → Prop) (nx : Nat → Kt) : Kt := cI 0 (rI Q)
noncomputable def kL_lose (Q : Option Value → MM → Prop) (nx : Nat → Kt) : Nat → Kt := bse [(0, bL_lose_0 Q nx), (10, bL_lose_10 Q nx), (14, bL_lose_14 Q nx)]
abbrev rL_lose : Room := { frames := 7, cells := 1, slots := 6, locals := 111 }
noncomputable def wL_lose : Mw := mw 5 kL_lose
set_option maxRecDepth 20000 in
theorem oL_lose_0 {T : Ct} {Q : Option Value → MM → Prop} (C : Cx T cL_lose 5 RL 1 6) (CR : CxR T 7 111) (CW : CxW T [(0, 7, 10, 13)]) (hr : T.2.2.2.2.2.2.2.2.1.sig.returnType = (some .int)) (hnm : T.2.2.2.2.2.2.2.2.1.name = "lose") {nx : Nat → Kt} (hn : ∀ pc, Sd T 5 (QT T Q 1 6) 1 6 pc (nx pc)) : Sd T 5 (QT T Q 1 6) 1 6 0 (bL_lose_0 Q nx) := x_al_n C dL_lose_0 rfl (x_il_n C dL_lose_1 rfl (x_il_n C dL_lose_2 rfl (x_il_n C dL_lose_3 rfl (x_cX C CR CW mX7_lose ⟨co_X7_lose, init_X7, md_X7_lose, by decide, by decide⟩ (ci := 7) (TX := TX7) (N := 9) rfl (by decide) ml_L_39 im_X7_lose se_X7_lose (x_h1 C CW (by decide) (by decide) cl_L_13 ca_eI (hn 10)) dL_lose_4 (x_goto C (hn 14) dL_lose_7 (by decide))))))
set_option maxRecDepth 20000 in
theorem oL_lose_10 {T : Ct} {Q : Option Value → MM → Prop} (C : Cx T cL_lose 5 RL 1 6) (CR : CxR T 7 111) (CW : CxW T [(0, 7, 10, 13)]) (hr : T.2.2.2.2.2.2.2.2.1.sig.returnType = (some .int)) (hnm : T.2.2.2.2.2.2.2.2.1.name = "lose") {nx : Nat → Kt} (hn : ∀ pc, Sd T 5 (QT T Q 1 6) 1 6 pc (nx pc)) : Sd T 5 (QT T Q 1 6) 1 6 10 (bL_lose_10 Q nx) := x_as C dL_lose_10 (by decide) (x_ic C dL_lose_12 (by decide) (x_rI C hr dL_lose_13))
set_option maxRecDepth 20000 in
theorem oL_lose_14 {T : Ct} {Q : Option Value → MM → Prop} (C : Cx T cL_lose 5 RL 1 6) (CR : CxR T 7 111) (CW : CxW T [(0, 7, 10, 13)]) (hr : T.2.2.2.2.2.2.2.2.1.sig.returnType = (some .int)) (hnm : T.2.2.2.2.2.2.2.2.1.name = "lose") {nx : Nat → Kt} (hn : ∀ pc, Sd T 5 (QT T Q 1 6) 1 6 pc (nx pc)) : Sd T 5 (QT T Q 1 6) 1 6 14 (bL_lose_14 Q nx) := x_ic C dL_lose_14 (by decide) (x_rI C hr dL_lose_15)
set_option maxRecDepth 20000 in
theorem mL_lose (l : Launch) (hst : l.stackTraces = false) (D : va_G) (cA : Nat → ClassId) (base : Nat) : McW l D cA base yL_lose cL_lose 5 (some .int) [(0, 7, 10, 13)] rL_lose wL_lose := mcW_of hst (by decide +kernel) kL_lose (fun T Q C CR CW hr hnm nx hn => bse_ok _ (List.forall_mem_cons.mpr ⟨oL_lose_0 C CR CW hr hnm hn, List.forall_mem_cons.mpr ⟨oL_lose_10 C CR CW hr hnm hn, List.forall_mem_cons.mpr ⟨oL_lose_14 C CR CW hr hnm hn, fun _ h => nomatch h⟩⟩⟩))
theorem dL_tick_0 : decode cL_tick 0 = .ok (.aload_n 2, 1) := by decide +kernel
theorem dL_tick_1 : decode cL_tick 1 = .ok (.iconst 0, 1) := by decide +kernel
theorem dL_tick_2 : decode cL_tick 2 = .ok (.aload_n 0, 1) := by decide +kernel
theorem dL_tick_3 : decode cL_tick 3 = .ok (.iload_n 1, 1) := by decide +kernel
theorem dL_tick_4 : decode cL_tick 4 = .ok (.invokevirtual 43, 3) := by decide +kernel
theorem dL_tick_7 : decode cL_tick 7 = .ok (.i2l, 1) := by decide +kernel
theorem dL_tick_8 : decode cL_tick 8 = .ok (.lastore, 1) := by decide +kernel
theorem dL_tick_9 : decode cL_tick 9 = .ok (.goto 6, 3) := by decide +kernel
theorem dL_tick_12 : decode cL_tick 12 = .ok (.astore_n 3, 1) := by decide +kernel
theorem dL_tick_13 : decode cL_tick 13 = .ok (.iconst 1, 1) := by decide +kernel
theorem dL_tick_14 : decode cL_tick 14 = .ok (.ireturn, 1) := by decide +kernel
theorem dL_tick_15 : decode cL_tick 15 = .ok (.iconst 0, 1) := by decide +kernel
theorem dL_tick_16 : decode cL_tick 16 = .ok (.ireturn, 1) := by decide +kernel
noncomputable def bL_tick_0 (Q : Option Value → MM → Prop) (nx : Nat → Kt) : Kt := ldA 2 (cI 0 (ldA 0 (ldI 1 (cX 1 7 wX7_tick 1 6 1 6 (hd1 eI (nx 12)) (i2 (sAJ (nx 15)))))))
noncomputable def bL_tick_12 (Q : Option Value → MM → Prop) (nx : Nat → Kt) : Kt := stA 3 (cI 1 (rI Q))
noncomputable def bL_tick_15 (Q : Option Value → MM → Prop) (nx : Nat → Kt) : Kt := cI 0 (rI Q)
noncomputable def kL_tick (Q : Option Value → MM → Prop) (nx : Nat → Kt) : Nat → Kt := bse [(0, bL_tick_0 Q nx), (12, bL_tick_12 Q nx), (15, bL_tick_15 Q nx)]
abbrev rL_tick : Room := { frames := 7, cells := 1, slots := 6, locals := 162 }
noncomputable def wL_tick : Mw := mw 4 kL_tick
set_option maxRecDepth 20000 in
theorem oL_tick_0 {T : Ct} {Q : Option Value → MM → Prop} (C : Cx T cL_tick 4 RL 1 6) (CR : CxR T 7 162) (CW : CxW T [(0, 9, 12, 13)]) (hr : T.2.2.2.2.2.2.2.2.1.sig.returnType = (some .int)) (hnm : T.2.2.2.2.2.2.2.2.1.name = "tick") {nx : Nat → Kt} (hn : ∀ pc, Sd T 4 (QT T Q 1 6) 1 6 pc (nx pc)) : Sd T 4 (QT T Q 1 6) 1 6 0 (bL_tick_0 Q nx) := x_al_n C dL_tick_0 rfl (x_ic C dL_tick_1 (by decide) (x_al_n C dL_tick_2 rfl (x_il_n C dL_tick_3 rfl (x_cX C CR CW mX7_tick ⟨co_X7_tick, init_X7, md_X7_tick, by decide, by decide⟩ (ci := 7) (TX := TX7) (N := 9) rfl (by decide) ml_L_43 im_X7_tick se_X7_tick (x_h1 C CW (by decide) (by decide) cl_L_13 ca_eI (hn 12)) dL_tick_4 (x_i2l C dL_tick_7 (x_last C dL_tick_8 (x_goto C (hn 15) dL_tick_9 (by decide))))))))
set_option maxRecDepth 20000 in
theorem oL_tick_12 {T : Ct} {Q : Option Value → MM → Prop} (C : Cx T cL_tick 4 RL 1 6) (CR : CxR T 7 162) (CW : CxW T [(0, 9, 12, 13)]) (hr : T.2.2.2.2.2.2.2.2.1.sig.returnType = (some .int)) (hnm : T.2.2.2.2.2.2.2.2.1.name = "tick") {nx : Nat → Kt} (hn : ∀ pc, Sd T 4 (QT T Q 1 6) 1 6 pc (nx pc)) : Sd T 4 (QT T Q 1 6) 1 6 12 (bL_tick_12 Q nx) := x_as_n C dL_tick_12 rfl (by decide) (x_ic C dL_tick_13 (by decide) (x_rI C hr dL_tick_14))
set_option maxRecDepth 20000 in
theorem oL_tick_15 {T : Ct} {Q : Option Value → MM → Prop} (C : Cx T cL_tick 4 RL 1 6) (CR : CxR T 7 162) (CW : CxW T [(0, 9, 12, 13)]) (hr : T.2.2.2.2.2.2.2.2.1.sig.returnType = (some .int)) (hnm : T.2.2.2.2.2.2.2.2.1.name = "tick") {nx : Nat → Kt} (hn : ∀ pc, Sd T 4 (QT T Q 1 6) 1 6 pc (nx pc)) : Sd T 4 (QT T Q 1 6) 1 6 15 (bL_tick_15 Q nx) := x_ic C dL_tick_15 (by decide) (x_rI C hr dL_tick_16)
set_option maxRecDepth 20000 in
theorem mL_tick (l : Launch) (hst : l.stackTraces = false) (D : va_G) (cA : Nat → ClassId) (base : Nat) : McW l D cA base yL_tick cL_tick 4 (some .int) [(0, 9, 12, 13)] rL_tick wL_tick := mcW_of hst (by decide +kernel) kL_tick (fun T Q C CR CW hr hnm nx hn => bse_ok _ (List.forall_mem_cons.mpr ⟨oL_tick_0 C CR CW hr hnm hn, List.forall_mem_cons.mpr ⟨oL_tick_12 C CR CW hr hnm hn, List.forall_mem_cons.mpr ⟨oL_tick_15 C CR CW hr hnm hn, fun _ h => nomatch h⟩⟩⟩))
theorem dL_give_0 : decode cL_give 0 = .ok (.aload 5, 2) := by decide +kernel
theorem dL_give_2 : decode cL_give 2 = .ok (.iconst 0, 1) := by decide +kernel
theorem dL_give_3 : decode cL_give 3 = .ok (.aload_n 0, 1) := by decide +kernel
theorem dL_give_4 : decode cL_give 4 = .ok (.iload_n 1, 1) := by decide +kernel
theorem dL_give_5 : decode cL_give 5 = .ok (.iload_n 2, 1) := by decide +kernel
theorem dL_give_6 : decode cL_give 6 = .ok (.iload_n 3, 1) := by decide +kernel
theorem dL_give_7 : decode cL_give 7 = .ok (.iload 4, 2) := by decide +kernel
theorem dL_give_9 : decode cL_give 9 = .ok (.invokevirtual 47, 3) := by decide +kernel
theorem dL_give_12 : decode cL_give 12 = .ok (.i2l, 1) := by decide +kernel
theorem dL_give_13 : decode cL_give 13 = .ok (.lastore, 1) := by decide +kernel
theorem dL_give_14 : decode cL_give 14 = .ok (.goto 7, 3) := by decide +kernel
theorem dL_give_17 : decode cL_give 17 = .ok (.astore 6, 2) := by decide +kernel
theorem dL_give_19 : decode cL_give 19 = .ok (.iconst 1, 1) := by decide +kernel
theorem dL_give_20 : decode cL_give 20 = .ok (.ireturn, 1) := by decide +kernel
theorem dL_give_21 : decode cL_give 21 = .ok (.iconst 0, 1) := by decide +kernel
theorem dL_give_22 : decode cL_give 22 = .ok (.ireturn, 1) := by decide +kernel
noncomputable def bL_give_0 (Q : Option Value → MM → Prop) (nx : Nat → Kt) : Kt := ldA 5 (cI 0 (ldA 0 (ldI 1 (ldI 2 (ldI 3 (ldI 4 (cX 4 7 wX7_give 2 13 2 13 (hd1 eI (nx 17)) (i2 (sAJ (nx 21))))))))))
noncomputable def bL_give_17 (Q : Option Value → MM → Prop) (nx : Nat → Kt) : Kt := stA 6 (cI 1 (rI Q))
noncomputable def bL_give_21 (Q : Option Value → MM → Prop) (nx : Nat → Kt) : Kt := cI 0 (rI Q)
noncomputable def kL_give (Q : Option Value → MM → Prop) (nx : Nat → Kt) : Nat → Kt := bse [(0, bL_give_0 Q nx), (17, bL_give_17 Q nx), (21, bL_give_21 Q nx)]
abbrev rL_give : Room := { frames := 7, cells := 2, slots := 13, locals := 110 }
noncomputable def wL_give : Mw := mw 7 kL_give
set_option maxRecDepth 20000 in
theorem oL_give_0 {T : Ct} {Q : Option Value → MM → Prop} (C : Cx T cL_give 7 RL 2 13) (CR : CxR T 7 110) (CW : CxW T [(0, 14, 17, 13)]) (hr : T.2.2.2.2.2.2.2.2.1.sig.returnType = (some .int)) (hnm : T.2.2.2.2.2.2.2.2.1.name = "give") {nx : Nat → Kt} (hn : ∀ pc, Sd T 7 (QT T Q 2 13) 2 13 pc (nx pc)) : Sd T 7 (QT T Q 2 13) 2 13 0 (bL_give_0 Q nx) := x_al C dL_give_0 (x_ic C dL_give_2 (by decide) (x_al_n C dL_give_3 rfl (x_il_n C dL_give_4 rfl (x_il_n C dL_give_5 rfl (x_il_n C dL_give_6 rfl (x_il C dL_give_7 (x_cX C CR CW mX7_give ⟨co_X7_give, init_X7, md_X7_give, by decide, by decide⟩ (ci := 7) (TX := TX7) (N := 9) rfl (by decide) ml_L_47 im_X7_give se_X7_give (x_h1 C CW (by decide) (by decide) cl_L_13 ca_eI (hn 17)) dL_give_9 (x_i2l C dL_give_12 (x_last C dL_give_13 (x_goto C (hn 21) dL_give_14 (by decide)))))))))))
set_option maxRecDepth 20000 in
theorem oL_give_17 {T : Ct} {Q : Option Value → MM → Prop} (C : Cx T cL_give 7 RL 2 13) (CR : CxR T 7 110) (CW : CxW T [(0, 14, 17, 13)]) (hr : T.2.2.2.2.2.2.2.2.1.sig.returnType = (some .int)) (hnm : T.2.2.2.2.2.2.2.2.1.name = "give") {nx : Nat → Kt} (hn : ∀ pc, Sd T 7 (QT T Q 2 13) 2 13 pc (nx pc)) : Sd T 7 (QT T Q 2 13) 2 13 17 (bL_give_17 Q nx) := x_as C dL_give_17 (by decide) (x_ic C dL_give_19 (by decide) (x_rI C hr dL_give_20))
set_option maxRecDepth 20000 in
theorem oL_give_21 {T : Ct} {Q : Option Value → MM → Prop} (C : Cx T cL_give 7 RL 2 13) (CR : CxR T 7 110) (CW : CxW T [(0, 14, 17, 13)]) (hr : T.2.2.2.2.2.2.2.2.1.sig.returnType = (some .int)) (hnm : T.2.2.2.2.2.2.2.2.1.name = "give") {nx : Nat → Kt} (hn : ∀ pc, Sd T 7 (QT T Q 2 13) 2 13 pc (nx pc)) : Sd T 7 (QT T Q 2 13) 2 13 21 (bL_give_21 Q nx) := x_ic C dL_give_21 (by decide) (x_rI C hr dL_give_22)
set_option maxRecDepth 20000 in
theorem mL_give (l : Launch) (hst : l.stackTraces = false) (D : va_G) (cA : Nat → ClassId) (base : Nat) : McW l D cA base yL_give cL_give 7 (some .int) [(0, 14, 17, 13)] rL_give wL_give := mcW_of hst (by decide +kernel) kL_give (fun T Q C CR CW hr hnm nx hn => bse_ok _ (List.forall_mem_cons.mpr ⟨oL_give_0 C CR CW hr hnm hn, List.forall_mem_cons.mpr ⟨oL_give_17 C CR CW hr hnm hn, List.forall_mem_cons.mpr ⟨oL_give_21 C CR CW hr hnm hn, fun _ h => nomatch h⟩⟩⟩))
theorem dL_came_0 : decode cL_came 0 = .ok (.aload 4, 2) := by decide +kernel
theorem dL_came_2 : decode cL_came 2 = .ok (.iconst 0, 1) := by decide +kernel
theorem dL_came_3 : decode cL_came 3 = .ok (.aload_n 0, 1) := by decide +kernel
theorem dL_came_4 : decode cL_came 4 = .ok (.iload_n 1, 1) := by decide +kernel
theorem dL_came_5 : decode cL_came 5 = .ok (.iload_n 2, 1) := by decide +kernel
theorem dL_came_6 : decode cL_came 6 = .ok (.iload_n 3, 1) := by decide +kernel
theorem dL_came_7 : decode cL_came 7 = .ok (.invokevirtual 51, 3) := by decide +kernel
theorem dL_came_10 : decode cL_came 10 = .ok (.i2l, 1) := by decide +kernel
theorem dL_came_11 : decode cL_came 11 = .ok (.lastore, 1) := by decide +kernel
theorem dL_came_12 : decode cL_came 12 = .ok (.goto 7, 3) := by decide +kernel
theorem dL_came_15 : decode cL_came 15 = .ok (.astore 5, 2) := by decide +kernel
theorem dL_came_17 : decode cL_came 17 = .ok (.iconst 1, 1) := by decide +kernel
theorem dL_came_18 : decode cL_came 18 = .ok (.ireturn, 1) := by decide +kernel
theorem dL_came_19 : decode cL_came 19 = .ok (.iconst 0, 1) := by decide +kernel
theorem dL_came_20 : decode cL_came 20 = .ok (.ireturn, 1) := by decide +kernel
noncomputable def bL_came_0 (Q : Option Value → MM → Prop) (nx : Nat → Kt) : Kt := ldA 4 (cI 0 (ldA 0 (ldI 1 (ldI 2 (ldI 3 (cX 3 7 wX7_came 1 6 1 6 (hd1 nseC (nx 15)) (i2 (sAJ (nx 19)))))))))
noncomputable def bL_came_15 (Q : Option Value → MM → Prop) (nx : Nat → Kt) : Kt := stA 5 (cI 1 (rI Q))
noncomputable def bL_came_19 (Q : Option Value → MM → Prop) (nx : Nat → Kt) : Kt := cI 0 (rI Q)
noncomputable def kL_came (Q : Option Value → MM → Prop) (nx : Nat → Kt) : Nat → Kt := bse [(0, bL_came_0 Q nx), (15, bL_came_15 Q nx), (19, bL_came_19 Q nx)]
abbrev rL_came : Room := { frames := 7, cells := 1, slots := 6, locals := 106 }
noncomputable def wL_came : Mw := mw 6 kL_came
set_option maxRecDepth 20000 in
theorem oL_came_0 {T : Ct} {Q : Option Value → MM → Prop} (C : Cx T cL_came 6 RL 1 6) (CR : CxR T 7 106) (CW : CxW T [(0, 12, 15, 55)]) (hr : T.2.2.2.2.2.2.2.2.1.sig.returnType = (some .int)) (hnm : T.2.2.2.2.2.2.2.2.1.name = "came") {nx : Nat → Kt} (hn : ∀ pc, Sd T 6 (QT T Q 1 6) 1 6 pc (nx pc)) : Sd T 6 (QT T Q 1 6) 1 6 0 (bL_came_0 Q nx) := x_al C dL_came_0 (x_ic C dL_came_2 (by decide) (x_al_n C dL_came_3 rfl (x_il_n C dL_came_4 rfl (x_il_n C dL_came_5 rfl (x_il_n C dL_came_6 rfl (x_cX C CR CW mX7_came ⟨co_X7_came, init_X7, md_X7_came, by decide, by decide⟩ (ci := 7) (TX := TX7) (N := 9) rfl (by decide) ml_L_51 im_X7_came se_X7_came (x_h1 C CW (by decide) (by decide) cl_L_55 ca_nseC (hn 15)) dL_came_7 (x_i2l C dL_came_10 (x_last C dL_came_11 (x_goto C (hn 19) dL_came_12 (by decide))))))))))
set_option maxRecDepth 20000 in
theorem oL_came_15 {T : Ct} {Q : Option Value → MM → Prop} (C : Cx T cL_came 6 RL 1 6) (CR : CxR T 7 106) (CW : CxW T [(0, 12, 15, 55)]) (hr : T.2.2.2.2.2.2.2.2.1.sig.returnType = (some .int)) (hnm : T.2.2.2.2.2.2.2.2.1.name = "came") {nx : Nat → Kt} (hn : ∀ pc, Sd T 6 (QT T Q 1 6) 1 6 pc (nx pc)) : Sd T 6 (QT T Q 1 6) 1 6 15 (bL_came_15 Q nx) := x_as C dL_came_15 (by decide) (x_ic C dL_came_17 (by decide) (x_rI C hr dL_came_18))
set_option maxRecDepth 20000 in
theorem oL_came_19 {T : Ct} {Q : Option Value → MM → Prop} (C : Cx T cL_came 6 RL 1 6) (CR : CxR T 7 106) (CW : CxW T [(0, 12, 15, 55)]) (hr : T.2.2.2.2.2.2.2.2.1.sig.returnType = (some .int)) (hnm : T.2.2.2.2.2.2.2.2.1.name = "came") {nx : Nat → Kt} (hn : ∀ pc, Sd T 6 (QT T Q 1 6) 1 6 pc (nx pc)) : Sd T 6 (QT T Q 1 6) 1 6 19 (bL_came_19 Q nx) := x_ic C dL_came_19 (by decide) (x_rI C hr dL_came_20)
set_option maxRecDepth 20000 in
theorem mL_came (l : Launch) (hst : l.stackTraces = false) (D : va_G) (cA : Nat → ClassId) (base : Nat) : McW l D cA base yL_came cL_came 6 (some .int) [(0, 12, 15, 55)] rL_came wL_came := mcW_of hst (by decide +kernel) kL_came (fun T Q C CR CW hr hnm nx hn => bse_ok _ (List.forall_mem_cons.mpr ⟨oL_came_0 C CR CW hr hnm hn, List.forall_mem_cons.mpr ⟨oL_came_15 C CR CW hr hnm hn, List.forall_mem_cons.mpr ⟨oL_came_19 C CR CW hr hnm hn, fun _ h => nomatch h⟩⟩⟩))
theorem dL_look_0 : decode cL_look 0 = .ok (.aload 4, 2) := by decide +kernel
theorem dL_look_2 : decode cL_look 2 = .ok (.iconst 0, 1) := by decide +kernel
theorem dL_look_3 : decode cL_look 3 = .ok (.aload_n 0, 1) := by decide +kernel
theorem dL_look_4 : decode cL_look 4 = .ok (.iload_n 1, 1) := by decide +kernel
theorem dL_look_5 : decode cL_look 5 = .ok (.iload_n 2, 1) := by decide +kernel
theorem dL_look_6 : decode cL_look 6 = .ok (.iload_n 3, 1) := by decide +kernel
theorem dL_look_7 : decode cL_look 7 = .ok (.invokevirtual 57, 3) := by decide +kernel
theorem dL_look_10 : decode cL_look 10 = .ok (.i2l, 1) := by decide +kernel
theorem dL_look_11 : decode cL_look 11 = .ok (.lastore, 1) := by decide +kernel
theorem dL_look_12 : decode cL_look 12 = .ok (.goto 7, 3) := by decide +kernel
theorem dL_look_15 : decode cL_look 15 = .ok (.astore 5, 2) := by decide +kernel
theorem dL_look_17 : decode cL_look 17 = .ok (.iconst 1, 1) := by decide +kernel
theorem dL_look_18 : decode cL_look 18 = .ok (.ireturn, 1) := by decide +kernel
theorem dL_look_19 : decode cL_look 19 = .ok (.iconst 0, 1) := by decide +kernel
theorem dL_look_20 : decode cL_look 20 = .ok (.ireturn, 1) := by decide +kernel
noncomputable def bL_look_0 (Q : Option Value → MM → Prop) (nx : Nat → Kt) : Kt := ldA 4 (cI 0 (ldA 0 (ldI 1 (ldI 2 (ldI 3 (cX 3 7 wX7_look 1 6 1 6 (hd1 nseC (nx 15)) (i2 (sAJ (nx 19)))))))))
noncomputable def bL_look_15 (Q : Option Value → MM → Prop) (nx : Nat → Kt) : Kt := stA 5 (cI 1 (rI Q))
noncomputable def bL_look_19 (Q : Option Value → MM → Prop) (nx : Nat → Kt) : Kt := cI 0 (rI Q)
noncomputable def kL_look (Q : Option Value → MM → Prop) (nx : Nat → Kt) : Nat → Kt := bse [(0, bL_look_0 Q nx), (15, bL_look_15 Q nx), (19, bL_look_19 Q nx)]
abbrev rL_look : Room := { frames := 7, cells := 1, slots := 6, locals := 106 }
noncomputable def wL_look : Mw := mw 6 kL_look
set_option maxRecDepth 20000 in
theorem oL_look_0 {T : Ct} {Q : Option Value → MM → Prop} (C : Cx T cL_look 6 RL 1 6) (CR : CxR T 7 106) (CW : CxW T [(0, 12, 15, 55)]) (hr : T.2.2.2.2.2.2.2.2.1.sig.returnType = (some .int)) (hnm : T.2.2.2.2.2.2.2.2.1.name = "look") {nx : Nat → Kt} (hn : ∀ pc, Sd T 6 (QT T Q 1 6) 1 6 pc (nx pc)) : Sd T 6 (QT T Q 1 6) 1 6 0 (bL_look_0 Q nx) := x_al C dL_look_0 (x_ic C dL_look_2 (by decide) (x_al_n C dL_look_3 rfl (x_il_n C dL_look_4 rfl (x_il_n C dL_look_5 rfl (x_il_n C dL_look_6 rfl (x_cX C CR CW mX7_look ⟨co_X7_look, init_X7, md_X7_look, by decide, by decide⟩ (ci := 7) (TX := TX7) (N := 9) rfl (by decide) ml_L_57 im_X7_look se_X7_look (x_h1 C CW (by decide) (by decide) cl_L_55 ca_nseC (hn 15)) dL_look_7 (x_i2l C dL_look_10 (x_last C dL_look_11 (x_goto C (hn 19) dL_look_12 (by decide))))))))))
set_option maxRecDepth 20000 in
theorem oL_look_15 {T : Ct} {Q : Option Value → MM → Prop} (C : Cx T cL_look 6 RL 1 6) (CR : CxR T 7 106) (CW : CxW T [(0, 12, 15, 55)]) (hr : T.2.2.2.2.2.2.2.2.1.sig.returnType = (some .int)) (hnm : T.2.2.2.2.2.2.2.2.1.name = "look") {nx : Nat → Kt} (hn : ∀ pc, Sd T 6 (QT T Q 1 6) 1 6 pc (nx pc)) : Sd T 6 (QT T Q 1 6) 1 6 15 (bL_look_15 Q nx) := x_as C dL_look_15 (by decide) (x_ic C dL_look_17 (by decide) (x_rI C hr dL_look_18))
set_option maxRecDepth 20000 in
theorem oL_look_19 {T : Ct} {Q : Option Value → MM → Prop} (C : Cx T cL_look 6 RL 1 6) (CR : CxR T 7 106) (CW : CxW T [(0, 12, 15, 55)]) (hr : T.2.2.2.2.2.2.2.2.1.sig.returnType = (some .int)) (hnm : T.2.2.2.2.2.2.2.2.1.name = "look") {nx : Nat → Kt} (hn : ∀ pc, Sd T 6 (QT T Q 1 6) 1 6 pc (nx pc)) : Sd T 6 (QT T Q 1 6) 1 6 19 (bL_look_19 Q nx) := x_ic C dL_look_19 (by decide) (x_rI C hr dL_look_20)
set_option maxRecDepth 20000 in
theorem mL_look (l : Launch) (hst : l.stackTraces = false) (D : va_G) (cA : Nat → ClassId) (base : Nat) : McW l D cA base yL_look cL_look 6 (some .int) [(0, 12, 15, 55)] rL_look wL_look := mcW_of hst (by decide +kernel) kL_look (fun T Q C CR CW hr hnm nx hn => bse_ok _ (List.forall_mem_cons.mpr ⟨oL_look_0 C CR CW hr hnm hn, List.forall_mem_cons.mpr ⟨oL_look_15 C CR CW hr hnm hn, List.forall_mem_cons.mpr ⟨oL_look_19 C CR CW hr hnm hn, fun _ h => nomatch h⟩⟩⟩))
theorem dL_cable_0 : decode cL_cable 0 = .ok (.aload_n 3, 1) := by decide +kernel
theorem dL_cable_1 : decode cL_cable 1 = .ok (.iconst 0, 1) := by decide +kernel
theorem dL_cable_2 : decode cL_cable 2 = .ok (.aload_n 0, 1) := by decide +kernel
theorem dL_cable_3 : decode cL_cable 3 = .ok (.iload_n 1, 1) := by decide +kernel
theorem dL_cable_4 : decode cL_cable 4 = .ok (.iload_n 2, 1) := by decide +kernel
theorem dL_cable_5 : decode cL_cable 5 = .ok (.invokevirtual 60, 3) := by decide +kernel
theorem dL_cable_8 : decode cL_cable 8 = .ok (.i2l, 1) := by decide +kernel
theorem dL_cable_9 : decode cL_cable 9 = .ok (.lastore, 1) := by decide +kernel
theorem dL_cable_10 : decode cL_cable 10 = .ok (.goto 7, 3) := by decide +kernel
theorem dL_cable_13 : decode cL_cable 13 = .ok (.astore 4, 2) := by decide +kernel
theorem dL_cable_15 : decode cL_cable 15 = .ok (.iconst 1, 1) := by decide +kernel
theorem dL_cable_16 : decode cL_cable 16 = .ok (.ireturn, 1) := by decide +kernel
theorem dL_cable_17 : decode cL_cable 17 = .ok (.iconst 0, 1) := by decide +kernel
theorem dL_cable_18 : decode cL_cable 18 = .ok (.ireturn, 1) := by decide +kernel
noncomputable def bL_cable_0 (Q : Option Value → MM → Prop) (nx : Nat → Kt) : Kt := ldA 3 (cI 0 (ldA 0 (ldI 1 (ldI 2 (cX 2 7 wX7_cable 1 6 1 6 (hd1 nseC (nx 13)) (i2 (sAJ (nx 17))))))))
noncomputable def bL_cable_13 (Q : Option Value → MM → Prop) (nx : Nat → Kt) : Kt := stA 4 (cI 1 (rI Q))
noncomputable def bL_cable_17 (Q : Option Value → MM → Prop) (nx : Nat → Kt) : Kt := cI 0 (rI Q)
noncomputable def kL_cable (Q : Option Value → MM → Prop) (nx : Nat → Kt) : Nat → Kt := bse [(0, bL_cable_0 Q nx), (13, bL_cable_13 Q nx), (17, bL_cable_17 Q nx)]
abbrev rL_cable : Room := { frames := 7, cells := 1, slots := 6, locals := 105 }
noncomputable def wL_cable : Mw := mw 5 kL_cable
set_option maxRecDepth 20000 in
theorem oL_cable_0 {T : Ct} {Q : Option Value → MM → Prop} (C : Cx T cL_cable 5 RL 1 6) (CR : CxR T 7 105) (CW : CxW T [(0, 10, 13, 55)]) (hr : T.2.2.2.2.2.2.2.2.1.sig.returnType = (some .int)) (hnm : T.2.2.2.2.2.2.2.2.1.name = "cable") {nx : Nat → Kt} (hn : ∀ pc, Sd T 5 (QT T Q 1 6) 1 6 pc (nx pc)) : Sd T 5 (QT T Q 1 6) 1 6 0 (bL_cable_0 Q nx) := x_al_n C dL_cable_0 rfl (x_ic C dL_cable_1 (by decide) (x_al_n C dL_cable_2 rfl (x_il_n C dL_cable_3 rfl (x_il_n C dL_cable_4 rfl (x_cX C CR CW mX7_cable ⟨co_X7_cable, init_X7, md_X7_cable, by decide, by decide⟩ (ci := 7) (TX := TX7) (N := 9) rfl (by decide) ml_L_60 im_X7_cable se_X7_cable (x_h1 C CW (by decide) (by decide) cl_L_55 ca_nseC (hn 13)) dL_cable_5 (x_i2l C dL_cable_8 (x_last C dL_cable_9 (x_goto C (hn 17) dL_cable_10 (by decide)))))))))
set_option maxRecDepth 20000 in
theorem oL_cable_13 {T : Ct} {Q : Option Value → MM → Prop} (C : Cx T cL_cable 5 RL 1 6) (CR : CxR T 7 105) (CW : CxW T [(0, 10, 13, 55)]) (hr : T.2.2.2.2.2.2.2.2.1.sig.returnType = (some .int)) (hnm : T.2.2.2.2.2.2.2.2.1.name = "cable") {nx : Nat → Kt} (hn : ∀ pc, Sd T 5 (QT T Q 1 6) 1 6 pc (nx pc)) : Sd T 5 (QT T Q 1 6) 1 6 13 (bL_cable_13 Q nx) := x_as C dL_cable_13 (by decide) (x_ic C dL_cable_15 (by decide) (x_rI C hr dL_cable_16))
set_option maxRecDepth 20000 in
theorem oL_cable_17 {T : Ct} {Q : Option Value → MM → Prop} (C : Cx T cL_cable 5 RL 1 6) (CR : CxR T 7 105) (CW : CxW T [(0, 10, 13, 55)]) (hr : T.2.2.2.2.2.2.2.2.1.sig.returnType = (some .int)) (hnm : T.2.2.2.2.2.2.2.2.1.name = "cable") {nx : Nat → Kt} (hn : ∀ pc, Sd T 5 (QT T Q 1 6) 1 6 pc (nx pc)) : Sd T 5 (QT T Q 1 6) 1 6 17 (bL_cable_17 Q nx) := x_ic C dL_cable_17 (by decide) (x_rI C hr dL_cable_18)
set_option maxRecDepth 20000 in
theorem mL_cable (l : Launch) (hst : l.stackTraces = false) (D : va_G) (cA : Nat → ClassId) (base : Nat) : McW l D cA base yL_cable cL_cable 5 (some .int) [(0, 10, 13, 55)] rL_cable wL_cable := mcW_of hst (by decide +kernel) kL_cable (fun T Q C CR CW hr hnm nx hn => bse_ok _ (List.forall_mem_cons.mpr ⟨oL_cable_0 C CR CW hr hnm hn, List.forall_mem_cons.mpr ⟨oL_cable_13 C CR CW hr hnm hn, List.forall_mem_cons.mpr ⟨oL_cable_17 C CR CW hr hnm hn, fun _ h => nomatch h⟩⟩⟩))
