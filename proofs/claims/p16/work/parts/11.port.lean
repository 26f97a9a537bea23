theorem dX5_init_0 : decode cX5_init 0 = .ok (.aload_n 0, 1) := by decide +kernel
theorem dX5_init_1 : decode cX5_init 1 = .ok (.invokespecial 3, 3) := by decide +kernel
theorem dX5_init_4 : decode cX5_init 4 = .ok (.aload_n 0, 1) := by decide +kernel
theorem dX5_init_5 : decode cX5_init 5 = .ok (.new 9, 3) := by decide +kernel
theorem dX5_init_8 : decode cX5_init 8 = .ok (.dup, 1) := by decide +kernel
theorem dX5_init_9 : decode cX5_init 9 = .ok (.invokespecial 11, 3) := by decide +kernel
theorem dX5_init_12 : decode cX5_init 12 = .ok (.putfield 12, 3) := by decide +kernel
theorem dX5_init_15 : decode cX5_init 15 = .ok (.aload_n 0, 1) := by decide +kernel
theorem dX5_init_16 : decode cX5_init 16 = .ok (.new 9, 3) := by decide +kernel
theorem dX5_init_19 : decode cX5_init 19 = .ok (.dup, 1) := by decide +kernel
theorem dX5_init_20 : decode cX5_init 20 = .ok (.invokespecial 11, 3) := by decide +kernel
theorem dX5_init_23 : decode cX5_init 23 = .ok (.putfield 18, 3) := by decide +kernel
theorem dX5_init_26 : decode cX5_init 26 = .ok (.aload_n 0, 1) := by decide +kernel
theorem dX5_init_27 : decode cX5_init 27 = .ok (.iconst (-1), 1) := by decide +kernel
theorem dX5_init_28 : decode cX5_init 28 = .ok (.putfield 21, 3) := by decide +kernel
theorem dX5_init_31 : decode cX5_init 31 = .ok (.aload_n 0, 1) := by decide +kernel
theorem dX5_init_32 : decode cX5_init 32 = .ok (.iconst (-1), 1) := by decide +kernel
theorem dX5_init_33 : decode cX5_init 33 = .ok (.putfield 25, 3) := by decide +kernel
theorem dX5_init_36 : decode cX5_init 36 = .ok (.aload_n 0, 1) := by decide +kernel
theorem dX5_init_37 : decode cX5_init 37 = .ok (.new 9, 3) := by decide +kernel
theorem dX5_init_40 : decode cX5_init 40 = .ok (.dup, 1) := by decide +kernel
theorem dX5_init_41 : decode cX5_init 41 = .ok (.invokespecial 11, 3) := by decide +kernel
theorem dX5_init_44 : decode cX5_init 44 = .ok (.putfield 28, 3) := by decide +kernel
theorem dX5_init_47 : decode cX5_init 47 = .ok (.aload_n 0, 1) := by decide +kernel
theorem dX5_init_48 : decode cX5_init 48 = .ok (.iconst (-1), 1) := by decide +kernel
theorem dX5_init_49 : decode cX5_init 49 = .ok (.putfield 31, 3) := by decide +kernel
theorem dX5_init_52 : decode cX5_init 52 = .ok (.return_, 1) := by decide +kernel
noncomputable def bX5_init_0 (Q : Option Value → MM → Prop) (nx : Nat → Kt) : Kt := ldA 0 (oI (ldA 0 (nO 6 3 15 (du (cC 0 wX6_init 0 0 3 15 (tF 5 0 (ldA 0 (nO 6 3 15 (du (cC 0 wX6_init 0 0 3 15 (tF 5 1 (ldA 0 (cI (-1) (tI 5 2 (ldA 0 (cI (-1) (tI 5 10 (ldA 0 (nO 6 3 15 (du (cC 0 wX6_init 0 0 3 15 (tF 5 14 (ldA 0 (cI (-1) (tI 5 15 (rV Q))))))))))))))))))))))))))
noncomputable def kX5_init (Q : Option Value → MM → Prop) (nx : Nat → Kt) : Nat → Kt := bse [(0, bX5_init_0 Q nx)]
abbrev rX5_init : Room := { frames := 2, cells := 3, slots := 15, locals := 40 }
noncomputable def wX5_init : Mw := mw 1 kX5_init
set_option maxRecDepth 20000 in
theorem oX5_init_0 {T : Ct} {Q : Option Value → MM → Prop} (C : Cx T cX5_init 1 RX5 3 15) (CR : CxR T 2 40) (hr : T.2.2.2.2.2.2.2.2.1.sig.returnType = none) (hnm : T.2.2.2.2.2.2.2.2.1.name = "<init>") {nx : Nat → Kt} (hn : ∀ pc, Sd T 1 (QT T Q 3 15) 3 15 pc (nx pc)) : Sd T 1 (QT T Q 3 15) 3 15 0 (bX5_init_0 Q nx) := x_al_n C dX5_init_0 rfl (x_oI C CR (by decide) (by decide) ml_X5_3 im_obj co_obj dX5_init_1 (x_al_n C dX5_init_4 rfl (nf_X5_9 C dX5_init_5 (x_dup C dX5_init_8 (x_cN C CR mX6_init ⟨co_X6_init, init_X6, md_X6_init, by decide, by decide⟩ (by decide +kernel) im_X6_init rfl dX5_init_9 (pf_X5_12 C hnm dX5_init_12 (x_al_n C dX5_init_15 rfl (nf_X5_9 C dX5_init_16 (x_dup C dX5_init_19 (x_cN C CR mX6_init ⟨co_X6_init, init_X6, md_X6_init, by decide, by decide⟩ (by decide +kernel) im_X6_init rfl dX5_init_20 (pf_X5_18 C hnm dX5_init_23 (x_al_n C dX5_init_26 rfl (x_ic C dX5_init_27 (by decide) (pf_X5_21 C dX5_init_28 (x_al_n C dX5_init_31 rfl (x_ic C dX5_init_32 (by decide) (pf_X5_25 C dX5_init_33 (x_al_n C dX5_init_36 rfl (nf_X5_9 C dX5_init_37 (x_dup C dX5_init_40 (x_cN C CR mX6_init ⟨co_X6_init, init_X6, md_X6_init, by decide, by decide⟩ (by decide +kernel) im_X6_init rfl dX5_init_41 (pf_X5_28 C hnm dX5_init_44 (x_al_n C dX5_init_47 rfl (x_ic C dX5_init_48 (by decide) (pf_X5_31 C dX5_init_49 (x_rV C hr dX5_init_52))))))))))))))))))))))))))
set_option maxRecDepth 20000 in
theorem mX5_init (l : Launch) (D : va_G) (cA : Nat → ClassId) (base : Nat) : Mc l D cA base yX5_init cX5_init 1 none rX5_init wX5_init := mc_of (by decide +kernel) kX5_init (fun T Q C CR hr hnm nx hn => bse_ok _ (List.forall_mem_cons.mpr ⟨oX5_init_0 C CR hr hnm hn, fun _ h => nomatch h⟩))
theorem dX5_isLit_0 : decode cX5_isLit 0 = .ok (.aload_n 0, 1) := by decide +kernel
theorem dX5_isLit_1 : decode cX5_isLit 1 = .ok (.getfield 34, 3) := by decide +kernel
theorem dX5_isLit_4 : decode cX5_isLit 4 = .ok (.ifCond .eq 7, 3) := by decide +kernel
theorem dX5_isLit_7 : decode cX5_isLit 7 = .ok (.iconst 1, 1) := by decide +kernel
theorem dX5_isLit_8 : decode cX5_isLit 8 = .ok (.goto 4, 3) := by decide +kernel
theorem dX5_isLit_11 : decode cX5_isLit 11 = .ok (.iconst 0, 1) := by decide +kernel
theorem dX5_isLit_12 : decode cX5_isLit 12 = .ok (.ireturn, 1) := by decide +kernel
noncomputable def bX5_isLit_0 (Q : Option Value → MM → Prop) (nx : Nat → Kt) : Kt := ldA 0 (gI 5 3 (ifz (fun x => x = 0) (nx 11) (cI 1 (nx 12))))
noncomputable def bX5_isLit_11 (Q : Option Value → MM → Prop) (nx : Nat → Kt) : Kt := cI 0 (nx 12)
noncomputable def bX5_isLit_12 (Q : Option Value → MM → Prop) (nx : Nat → Kt) : Kt := rZ Q
noncomputable def kX5_isLit (Q : Option Value → MM → Prop) (nx : Nat → Kt) : Nat → Kt := bse [(0, bX5_isLit_0 Q nx), (11, bX5_isLit_11 Q nx), (12, bX5_isLit_12 Q nx)]
abbrev rX5_isLit : Room := { frames := 0, cells := 0, slots := 0, locals := 0 }
noncomputable def wX5_isLit : Mw := mw 1 kX5_isLit
set_option maxRecDepth 20000 in
theorem oX5_isLit_0 {T : Ct} {Q : Option Value → MM → Prop} (C : Cx T cX5_isLit 1 RX5 0 0) (CR : CxR T 0 0) (hr : T.2.2.2.2.2.2.2.2.1.sig.returnType = (some .boolean)) (hnm : T.2.2.2.2.2.2.2.2.1.name = "isLit") {nx : Nat → Kt} (hn : ∀ pc, Sd T 1 (QT T Q 0 0) 0 0 pc (nx pc)) : Sd T 1 (QT T Q 0 0) 0 0 0 (bX5_isLit_0 Q nx) := x_al_n C dX5_isLit_0 rfl (gf_X5_34 C dX5_isLit_1 (x_if_eq C (hn 11) dX5_isLit_4 (by decide) (x_ic C dX5_isLit_7 (by decide) (x_goto C (hn 12) dX5_isLit_8 (by decide)))))
set_option maxRecDepth 20000 in
theorem oX5_isLit_11 {T : Ct} {Q : Option Value → MM → Prop} (C : Cx T cX5_isLit 1 RX5 0 0) (CR : CxR T 0 0) (hr : T.2.2.2.2.2.2.2.2.1.sig.returnType = (some .boolean)) (hnm : T.2.2.2.2.2.2.2.2.1.name = "isLit") {nx : Nat → Kt} (hn : ∀ pc, Sd T 1 (QT T Q 0 0) 0 0 pc (nx pc)) : Sd T 1 (QT T Q 0 0) 0 0 11 (bX5_isLit_11 Q nx) := x_ic C dX5_isLit_11 (by decide) (hn 12)
set_option maxRecDepth 20000 in
theorem oX5_isLit_12 {T : Ct} {Q : Option Value → MM → Prop} (C : Cx T cX5_isLit 1 RX5 0 0) (CR : CxR T 0 0) (hr : T.2.2.2.2.2.2.2.2.1.sig.returnType = (some .boolean)) (hnm : T.2.2.2.2.2.2.2.2.1.name = "isLit") {nx : Nat → Kt} (hn : ∀ pc, Sd T 1 (QT T Q 0 0) 0 0 pc (nx pc)) : Sd T 1 (QT T Q 0 0) 0 0 12 (bX5_isLit_12 Q nx) := x_rZ C hr dX5_isLit_12
set_option maxRecDepth 20000 in
theorem mX5_isLit (l : Launch) (D : va_G) (cA : Nat → ClassId) (base : Nat) : Mc l D cA base yX5_isLit cX5_isLit 1 (some .boolean) rX5_isLit wX5_isLit := mc_of (by decide +kernel) kX5_isLit (fun T Q C CR hr hnm nx hn => bse_ok _ (List.forall_mem_cons.mpr ⟨oX5_isLit_0 C CR hr hnm hn, List.forall_mem_cons.mpr ⟨oX5_isLit_11 C CR hr hnm hn, List.forall_mem_cons.mpr ⟨oX5_isLit_12 C CR hr hnm hn, fun _ h => nomatch h⟩⟩⟩))
theorem dX5_setStage_0 : decode cX5_setStage 0 = .ok (.aload_n 0, 1) := by decide +kernel
theorem dX5_setStage_1 : decode cX5_setStage 1 = .ok (.iload_n 1, 1) := by decide +kernel
theorem dX5_setStage_2 : decode cX5_setStage 2 = .ok (.putfield 37, 3) := by decide +kernel
theorem dX5_setStage_5 : decode cX5_setStage 5 = .ok (.aload_n 0, 1) := by decide +kernel
theorem dX5_setStage_6 : decode cX5_setStage 6 = .ok (.getfield 12, 3) := by decide +kernel
theorem dX5_setStage_9 : decode cX5_setStage 9 = .ok (.bipush 8, 2) := by decide +kernel
theorem dX5_setStage_11 : decode cX5_setStage 11 = .ok (.iload_n 1, 1) := by decide +kernel
theorem dX5_setStage_12 : decode cX5_setStage 12 = .ok (.iconst 2, 1) := by decide +kernel
theorem dX5_setStage_13 : decode cX5_setStage 13 = .ok (.if_icmp .lt 7, 3) := by decide +kernel
theorem dX5_setStage_16 : decode cX5_setStage 16 = .ok (.iconst 1, 1) := by decide +kernel
theorem dX5_setStage_17 : decode cX5_setStage 17 = .ok (.goto 4, 3) := by decide +kernel
theorem dX5_setStage_20 : decode cX5_setStage 20 = .ok (.iconst 0, 1) := by decide +kernel
theorem dX5_setStage_21 : decode cX5_setStage 21 = .ok (.invokevirtual 40, 3) := by decide +kernel
theorem dX5_setStage_24 : decode cX5_setStage 24 = .ok (.aload_n 0, 1) := by decide +kernel
theorem dX5_setStage_25 : decode cX5_setStage 25 = .ok (.getfield 12, 3) := by decide +kernel
theorem dX5_setStage_28 : decode cX5_setStage 28 = .ok (.bipush 16, 2) := by decide +kernel
theorem dX5_setStage_30 : decode cX5_setStage 30 = .ok (.iload_n 1, 1) := by decide +kernel
theorem dX5_setStage_31 : decode cX5_setStage 31 = .ok (.iconst 3, 1) := by decide +kernel
theorem dX5_setStage_32 : decode cX5_setStage 32 = .ok (.if_icmp .lt 7, 3) := by decide +kernel
theorem dX5_setStage_35 : decode cX5_setStage 35 = .ok (.iconst 1, 1) := by decide +kernel
theorem dX5_setStage_36 : decode cX5_setStage 36 = .ok (.goto 4, 3) := by decide +kernel
theorem dX5_setStage_39 : decode cX5_setStage 39 = .ok (.iconst 0, 1) := by decide +kernel
theorem dX5_setStage_40 : decode cX5_setStage 40 = .ok (.invokevirtual 40, 3) := by decide +kernel
theorem dX5_setStage_43 : decode cX5_setStage 43 = .ok (.aload_n 0, 1) := by decide +kernel
theorem dX5_setStage_44 : decode cX5_setStage 44 = .ok (.getfield 12, 3) := by decide +kernel
theorem dX5_setStage_47 : decode cX5_setStage 47 = .ok (.bipush 32, 2) := by decide +kernel
theorem dX5_setStage_49 : decode cX5_setStage 49 = .ok (.iload_n 1, 1) := by decide +kernel
theorem dX5_setStage_50 : decode cX5_setStage 50 = .ok (.iconst 4, 1) := by decide +kernel
theorem dX5_setStage_51 : decode cX5_setStage 51 = .ok (.if_icmp .lt 7, 3) := by decide +kernel
theorem dX5_setStage_54 : decode cX5_setStage 54 = .ok (.iconst 1, 1) := by decide +kernel
theorem dX5_setStage_55 : decode cX5_setStage 55 = .ok (.goto 4, 3) := by decide +kernel
theorem dX5_setStage_58 : decode cX5_setStage 58 = .ok (.iconst 0, 1) := by decide +kernel
theorem dX5_setStage_59 : decode cX5_setStage 59 = .ok (.invokevirtual 40, 3) := by decide +kernel
theorem dX5_setStage_62 : decode cX5_setStage 62 = .ok (.return_, 1) := by decide +kernel
noncomputable def bX5_setStage_0 (Q : Option Value → MM → Prop) (nx : Nat → Kt) : Kt := ldA 0 (ldI 1 (tI 5 5 (ldA 0 (gR 5 0 (cI 8 (ldI 1 (cI 2 (ifc (fun x y => x < y) (nx 20) (cI 1 (nx 21))))))))))
noncomputable def bX5_setStage_20 (Q : Option Value → MM → Prop) (nx : Nat → Kt) : Kt := cI 0 (nx 21)
noncomputable def bX5_setStage_21 (Q : Option Value → MM → Prop) (nx : Nat → Kt) : Kt := cV 2 6 wX6_setBits 0 0 0 0 (ldA 0 (gR 5 0 (cI 16 (ldI 1 (cI 3 (ifc (fun x y => x < y) (nx 39) (cI 1 (nx 40))))))))
noncomputable def bX5_setStage_39 (Q : Option Value → MM → Prop) (nx : Nat → Kt) : Kt := cI 0 (nx 40)
noncomputable def bX5_setStage_40 (Q : Option Value → MM → Prop) (nx : Nat → Kt) : Kt := cV 2 6 wX6_setBits 0 0 0 0 (ldA 0 (gR 5 0 (cI 32 (ldI 1 (cI 4 (ifc (fun x y => x < y) (nx 58) (cI 1 (nx 59))))))))
noncomputable def bX5_setStage_58 (Q : Option Value → MM → Prop) (nx : Nat → Kt) : Kt := cI 0 (nx 59)
noncomputable def bX5_setStage_59 (Q : Option Value → MM → Prop) (nx : Nat → Kt) : Kt := cV 2 6 wX6_setBits 0 0 0 0 (rV Q)
noncomputable def kX5_setStage (Q : Option Value → MM → Prop) (nx : Nat → Kt) : Nat → Kt := bse [(0, bX5_setStage_0 Q nx), (20, bX5_setStage_20 Q nx), (21, bX5_setStage_21 Q nx), (39, bX5_setStage_39 Q nx), (40, bX5_setStage_40 Q nx), (58, bX5_setStage_58 Q nx), (59, bX5_setStage_59 Q nx)]
abbrev rX5_setStage : Room := { frames := 1, cells := 0, slots := 0, locals := 22 }
noncomputable def wX5_setStage : Mw := mw 2 kX5_setStage
set_option maxRecDepth 20000 in
theorem oX5_setStage_0 {T : Ct} {Q : Option Value → MM → Prop} (C : Cx T cX5_setStage 2 RX5 0 0) (CR : CxR T 1 22) (hr : T.2.2.2.2.2.2.2.2.1.sig.returnType = none) (hnm : T.2.2.2.2.2.2.2.2.1.name = "setStage") {nx : Nat → Kt} (hn : ∀ pc, Sd T 2 (QT T Q 0 0) 0 0 pc (nx pc)) : Sd T 2 (QT T Q 0 0) 0 0 0 (bX5_setStage_0 Q nx) := x_al_n C dX5_setStage_0 rfl (x_il_n C dX5_setStage_1 rfl (pf_X5_37 C dX5_setStage_2 (x_al_n C dX5_setStage_5 rfl (gf_X5_12 C dX5_setStage_6 (x_bp C dX5_setStage_9 (by decide) (x_il_n C dX5_setStage_11 rfl (x_ic C dX5_setStage_12 (by decide) (x_ic_lt C (hn 20) dX5_setStage_13 (by decide) (x_ic C dX5_setStage_16 (by decide) (x_goto C (hn 21) dX5_setStage_17 (by decide)))))))))))
set_option maxRecDepth 20000 in
theorem oX5_setStage_20 {T : Ct} {Q : Option Value → MM → Prop} (C : Cx T cX5_setStage 2 RX5 0 0) (CR : CxR T 1 22) (hr : T.2.2.2.2.2.2.2.2.1.sig.returnType = none) (hnm : T.2.2.2.2.2.2.2.2.1.name = "setStage") {nx : Nat → Kt} (hn : ∀ pc, Sd T 2 (QT T Q 0 0) 0 0 pc (nx pc)) : Sd T 2 (QT T Q 0 0) 0 0 20 (bX5_setStage_20 Q nx) := x_ic C dX5_setStage_20 (by decide) (hn 21)
set_option maxRecDepth 20000 in
theorem oX5_setStage_21 {T : Ct} {Q : Option Value → MM → Prop} (C : Cx T cX5_setStage 2 RX5 0 0) (CR : CxR T 1 22) (hr : T.2.2.2.2.2.2.2.2.1.sig.returnType = none) (hnm : T.2.2.2.2.2.2.2.2.1.name = "setStage") {nx : Nat → Kt} (hn : ∀ pc, Sd T 2 (QT T Q 0 0) 0 0 pc (nx pc)) : Sd T 2 (QT T Q 0 0) 0 0 21 (bX5_setStage_21 Q nx) := x_cV C CR mX6_setBits ⟨co_X6_setBits, init_X6, md_X6_setBits, by decide, by decide⟩ (ci := 6) (TX := TX6) (N := 5) rfl (by decide) ml_X5_40 im_X6_setBits se_X6_setBits dX5_setStage_21 (x_al_n C dX5_setStage_24 rfl (gf_X5_12 C dX5_setStage_25 (x_bp C dX5_setStage_28 (by decide) (x_il_n C dX5_setStage_30 rfl (x_ic C dX5_setStage_31 (by decide) (x_ic_lt C (hn 39) dX5_setStage_32 (by decide) (x_ic C dX5_setStage_35 (by decide) (x_goto C (hn 40) dX5_setStage_36 (by decide)))))))))
set_option maxRecDepth 20000 in
theorem oX5_setStage_39 {T : Ct} {Q : Option Value → MM → Prop} (C : Cx T cX5_setStage 2 RX5 0 0) (CR : CxR T 1 22) (hr : T.2.2.2.2.2.2.2.2.1.sig.returnType = none) (hnm : T.2.2.2.2.2.2.2.2.1.name = "setStage") {nx : Nat → Kt} (hn : ∀ pc, Sd T 2 (QT T Q 0 0) 0 0 pc (nx pc)) : Sd T 2 (QT T Q 0 0) 0 0 39 (bX5_setStage_39 Q nx) := x_ic C dX5_setStage_39 (by decide) (hn 40)
set_option maxRecDepth 20000 in
theorem oX5_setStage_40 {T : Ct} {Q : Option Value → MM → Prop} (C : Cx T cX5_setStage 2 RX5 0 0) (CR : CxR T 1 22) (hr : T.2.2.2.2.2.2.2.2.1.sig.returnType = none) (hnm : T.2.2.2.2.2.2.2.2.1.name = "setStage") {nx : Nat → Kt} (hn : ∀ pc, Sd T 2 (QT T Q 0 0) 0 0 pc (nx pc)) : Sd T 2 (QT T Q 0 0) 0 0 40 (bX5_setStage_40 Q nx) := x_cV C CR mX6_setBits ⟨co_X6_setBits, init_X6, md_X6_setBits, by decide, by decide⟩ (ci := 6) (TX := TX6) (N := 5) rfl (by decide) ml_X5_40 im_X6_setBits se_X6_setBits dX5_setStage_40 (x_al_n C dX5_setStage_43 rfl (gf_X5_12 C dX5_setStage_44 (x_bp C dX5_setStage_47 (by decide) (x_il_n C dX5_setStage_49 rfl (x_ic C dX5_setStage_50 (by decide) (x_ic_lt C (hn 58) dX5_setStage_51 (by decide) (x_ic C dX5_setStage_54 (by decide) (x_goto C (hn 59) dX5_setStage_55 (by decide)))))))))
set_option maxRecDepth 20000 in
theorem oX5_setStage_58 {T : Ct} {Q : Option Value → MM → Prop} (C : Cx T cX5_setStage 2 RX5 0 0) (CR : CxR T 1 22) (hr : T.2.2.2.2.2.2.2.2.1.sig.returnType = none) (hnm : T.2.2.2.2.2.2.2.2.1.name = "setStage") {nx : Nat → Kt} (hn : ∀ pc, Sd T 2 (QT T Q 0 0) 0 0 pc (nx pc)) : Sd T 2 (QT T Q 0 0) 0 0 58 (bX5_setStage_58 Q nx) := x_ic C dX5_setStage_58 (by decide) (hn 59)
set_option maxRecDepth 20000 in
theorem oX5_setStage_59 {T : Ct} {Q : Option Value → MM → Prop} (C : Cx T cX5_setStage 2 RX5 0 0) (CR : CxR T 1 22) (hr : T.2.2.2.2.2.2.2.2.1.sig.returnType = none) (hnm : T.2.2.2.2.2.2.2.2.1.name = "setStage") {nx : Nat → Kt} (hn : ∀ pc, Sd T 2 (QT T Q 0 0) 0 0 pc (nx pc)) : Sd T 2 (QT T Q 0 0) 0 0 59 (bX5_setStage_59 Q nx) := x_cV C CR mX6_setBits ⟨co_X6_setBits, init_X6, md_X6_setBits, by decide, by decide⟩ (ci := 6) (TX := TX6) (N := 5) rfl (by decide) ml_X5_40 im_X6_setBits se_X6_setBits dX5_setStage_59 (x_rV C hr dX5_setStage_62)
set_option maxRecDepth 20000 in
theorem mX5_setStage (l : Launch) (D : va_G) (cA : Nat → ClassId) (base : Nat) : Mc l D cA base yX5_setStage cX5_setStage 2 none rX5_setStage wX5_setStage := mc_of (by decide +kernel) kX5_setStage (fun T Q C CR hr hnm nx hn => bse_ok _ (List.forall_mem_cons.mpr ⟨oX5_setStage_0 C CR hr hnm hn, List.forall_mem_cons.mpr ⟨oX5_setStage_20 C CR hr hnm hn, List.forall_mem_cons.mpr ⟨oX5_setStage_21 C CR hr hnm hn, List.forall_mem_cons.mpr ⟨oX5_setStage_39 C CR hr hnm hn, List.forall_mem_cons.mpr ⟨oX5_setStage_40 C CR hr hnm hn, List.forall_mem_cons.mpr ⟨oX5_setStage_58 C CR hr hnm hn, List.forall_mem_cons.mpr ⟨oX5_setStage_59 C CR hr hnm hn, fun _ h => nomatch h⟩⟩⟩⟩⟩⟩⟩))
theorem dX5_becomeLit_0 : decode cX5_becomeLit 0 = .ok (.aload_n 0, 1) := by decide +kernel
theorem dX5_becomeLit_1 : decode cX5_becomeLit 1 = .ok (.iconst 1, 1) := by decide +kernel
theorem dX5_becomeLit_2 : decode cX5_becomeLit 2 = .ok (.putfield 34, 3) := by decide +kernel
theorem dX5_becomeLit_5 : decode cX5_becomeLit 5 = .ok (.aload_n 0, 1) := by decide +kernel
theorem dX5_becomeLit_6 : decode cX5_becomeLit 6 = .ok (.iconst 3, 1) := by decide +kernel
theorem dX5_becomeLit_7 : decode cX5_becomeLit 7 = .ok (.putfield 44, 3) := by decide +kernel
theorem dX5_becomeLit_10 : decode cX5_becomeLit 10 = .ok (.aload_n 0, 1) := by decide +kernel
theorem dX5_becomeLit_11 : decode cX5_becomeLit 11 = .ok (.getfield 18, 3) := by decide +kernel
theorem dX5_becomeLit_14 : decode cX5_becomeLit 14 = .ok (.bipush 56, 2) := by decide +kernel
theorem dX5_becomeLit_16 : decode cX5_becomeLit 16 = .ok (.iconst 0, 1) := by decide +kernel
theorem dX5_becomeLit_17 : decode cX5_becomeLit 17 = .ok (.invokevirtual 40, 3) := by decide +kernel
theorem dX5_becomeLit_20 : decode cX5_becomeLit 20 = .ok (.aload_n 0, 1) := by decide +kernel
theorem dX5_becomeLit_21 : decode cX5_becomeLit 21 = .ok (.iconst (-1), 1) := by decide +kernel
theorem dX5_becomeLit_22 : decode cX5_becomeLit 22 = .ok (.putfield 31, 3) := by decide +kernel
theorem dX5_becomeLit_25 : decode cX5_becomeLit 25 = .ok (.return_, 1) := by decide +kernel
noncomputable def bX5_becomeLit_0 (Q : Option Value → MM → Prop) (nx : Nat → Kt) : Kt := ldA 0 (cI 1 (tI 5 3 (ldA 0 (cI 3 (tI 5 4 (ldA 0 (gR 5 1 (cI 56 (cI 0 (cV 2 6 wX6_setBits 0 0 0 0 (ldA 0 (cI (-1) (tI 5 15 (rV Q))))))))))))))
noncomputable def kX5_becomeLit (Q : Option Value → MM → Prop) (nx : Nat → Kt) : Nat → Kt := bse [(0, bX5_becomeLit_0 Q nx)]
abbrev rX5_becomeLit : Room := { frames := 1, cells := 0, slots := 0, locals := 22 }
noncomputable def wX5_becomeLit : Mw := mw 1 kX5_becomeLit
set_option maxRecDepth 20000 in
theorem oX5_becomeLit_0 {T : Ct} {Q : Option Value → MM → Prop} (C : Cx T cX5_becomeLit 1 RX5 0 0) (CR : CxR T 1 22) (hr : T.2.2.2.2.2.2.2.2.1.sig.returnType = none) (hnm : T.2.2.2.2.2.2.2.2.1.name = "becomeLit") {nx : Nat → Kt} (hn : ∀ pc, Sd T 1 (QT T Q 0 0) 0 0 pc (nx pc)) : Sd T 1 (QT T Q 0 0) 0 0 0 (bX5_becomeLit_0 Q nx) := x_al_n C dX5_becomeLit_0 rfl (x_ic C dX5_becomeLit_1 (by decide) (pf_X5_34 C dX5_becomeLit_2 (x_al_n C dX5_becomeLit_5 rfl (x_ic C dX5_becomeLit_6 (by decide) (pf_X5_44 C dX5_becomeLit_7 (x_al_n C dX5_becomeLit_10 rfl (gf_X5_18 C dX5_becomeLit_11 (x_bp C dX5_becomeLit_14 (by decide) (x_ic C dX5_becomeLit_16 (by decide) (x_cV C CR mX6_setBits ⟨co_X6_setBits, init_X6, md_X6_setBits, by decide, by decide⟩ (ci := 6) (TX := TX6) (N := 5) rfl (by decide) ml_X5_40 im_X6_setBits se_X6_setBits dX5_becomeLit_17 (x_al_n C dX5_becomeLit_20 rfl (x_ic C dX5_becomeLit_21 (by decide) (pf_X5_31 C dX5_becomeLit_22 (x_rV C hr dX5_becomeLit_25))))))))))))))
set_option maxRecDepth 20000 in
theorem mX5_becomeLit (l : Launch) (D : va_G) (cA : Nat → ClassId) (base : Nat) : Mc l D cA base yX5_becomeLit cX5_becomeLit 1 none rX5_becomeLit wX5_becomeLit := mc_of (by decide +kernel) kX5_becomeLit (fun T Q C CR hr hnm nx hn => bse_ok _ (List.forall_mem_cons.mpr ⟨oX5_becomeLit_0 C CR hr hnm hn, fun _ h => nomatch h⟩))
theorem dX5_becomeDark_0 : decode cX5_becomeDark 0 = .ok (.aload_n 0, 1) := by decide +kernel
theorem dX5_becomeDark_1 : decode cX5_becomeDark 1 = .ok (.iconst 0, 1) := by decide +kernel
theorem dX5_becomeDark_2 : decode cX5_becomeDark 2 = .ok (.putfield 34, 3) := by decide +kernel
theorem dX5_becomeDark_5 : decode cX5_becomeDark 5 = .ok (.aload_n 0, 1) := by decide +kernel
theorem dX5_becomeDark_6 : decode cX5_becomeDark 6 = .ok (.iconst 0, 1) := by decide +kernel
theorem dX5_becomeDark_7 : decode cX5_becomeDark 7 = .ok (.putfield 44, 3) := by decide +kernel
theorem dX5_becomeDark_10 : decode cX5_becomeDark 10 = .ok (.aload_n 0, 1) := by decide +kernel
theorem dX5_becomeDark_11 : decode cX5_becomeDark 11 = .ok (.getfield 18, 3) := by decide +kernel
theorem dX5_becomeDark_14 : decode cX5_becomeDark 14 = .ok (.invokevirtual 47, 3) := by decide +kernel
theorem dX5_becomeDark_17 : decode cX5_becomeDark 17 = .ok (.return_, 1) := by decide +kernel
noncomputable def bX5_becomeDark_0 (Q : Option Value → MM → Prop) (nx : Nat → Kt) : Kt := ldA 0 (cI 0 (tI 5 3 (ldA 0 (cI 0 (tI 5 4 (ldA 0 (gR 5 1 (cV 0 6 wX6_clear 0 0 0 0 (rV Q)))))))))
noncomputable def kX5_becomeDark (Q : Option Value → MM → Prop) (nx : Nat → Kt) : Nat → Kt := bse [(0, bX5_becomeDark_0 Q nx)]
abbrev rX5_becomeDark : Room := { frames := 1, cells := 0, slots := 0, locals := 20 }
noncomputable def wX5_becomeDark : Mw := mw 1 kX5_becomeDark
set_option maxRecDepth 20000 in
theorem oX5_becomeDark_0 {T : Ct} {Q : Option Value → MM → Prop} (C : Cx T cX5_becomeDark 1 RX5 0 0) (CR : CxR T 1 20) (hr : T.2.2.2.2.2.2.2.2.1.sig.returnType = none) (hnm : T.2.2.2.2.2.2.2.2.1.name = "becomeDark") {nx : Nat → Kt} (hn : ∀ pc, Sd T 1 (QT T Q 0 0) 0 0 pc (nx pc)) : Sd T 1 (QT T Q 0 0) 0 0 0 (bX5_becomeDark_0 Q nx) := x_al_n C dX5_becomeDark_0 rfl (x_ic C dX5_becomeDark_1 (by decide) (pf_X5_34 C dX5_becomeDark_2 (x_al_n C dX5_becomeDark_5 rfl (x_ic C dX5_becomeDark_6 (by decide) (pf_X5_44 C dX5_becomeDark_7 (x_al_n C dX5_becomeDark_10 rfl (gf_X5_18 C dX5_becomeDark_11 (x_cV C CR mX6_clear ⟨co_X6_clear, init_X6, md_X6_clear, by decide, by decide⟩ (ci := 6) (TX := TX6) (N := 5) rfl (by decide) ml_X5_47 im_X6_clear se_X6_clear dX5_becomeDark_14 (x_rV C hr dX5_becomeDark_17)))))))))
set_option maxRecDepth 20000 in
theorem mX5_becomeDark (l : Launch) (D : va_G) (cA : Nat → ClassId) (base : Nat) : Mc l D cA base yX5_becomeDark cX5_becomeDark 1 none rX5_becomeDark wX5_becomeDark := mc_of (by decide +kernel) kX5_becomeDark (fun T Q C CR hr hnm nx hn => bse_ok _ (List.forall_mem_cons.mpr ⟨oX5_becomeDark_0 C CR hr hnm hn, fun _ h => nomatch h⟩))
theorem dX5_hear_0 : decode cX5_hear 0 = .ok (.aload_n 0, 1) := by decide +kernel
theorem dX5_hear_1 : decode cX5_hear 1 = .ok (.getfield 18, 3) := by decide +kernel
theorem dX5_hear_4 : decode cX5_hear 4 = .ok (.aload_n 1, 1) := by decide +kernel
theorem dX5_hear_5 : decode cX5_hear 5 = .ok (.getfield 50, 3) := by decide +kernel
theorem dX5_hear_8 : decode cX5_hear 8 = .ok (.invokevirtual 53, 3) := by decide +kernel
theorem dX5_hear_11 : decode cX5_hear 11 = .ok (.aload_n 1, 1) := by decide +kernel
theorem dX5_hear_12 : decode cX5_hear 12 = .ok (.getfield 57, 3) := by decide +kernel
theorem dX5_hear_15 : decode cX5_hear 15 = .ok (.aload_n 0, 1) := by decide +kernel
theorem dX5_hear_16 : decode cX5_hear 16 = .ok (.getfield 12, 3) := by decide +kernel
theorem dX5_hear_19 : decode cX5_hear 19 = .ok (.invokevirtual 58, 3) := by decide +kernel
theorem dX5_hear_22 : decode cX5_hear 22 = .ok (.ifCond .eq 26, 3) := by decide +kernel
theorem dX5_hear_25 : decode cX5_hear 25 = .ok (.aload_n 1, 1) := by decide +kernel
theorem dX5_hear_26 : decode cX5_hear 26 = .ok (.getfield 57, 3) := by decide +kernel
theorem dX5_hear_29 : decode cX5_hear 29 = .ok (.iconst 4, 1) := by decide +kernel
theorem dX5_hear_30 : decode cX5_hear 30 = .ok (.invokevirtual 62, 3) := by decide +kernel
theorem dX5_hear_33 : decode cX5_hear 33 = .ok (.aload_n 0, 1) := by decide +kernel
theorem dX5_hear_34 : decode cX5_hear 34 = .ok (.getfield 12, 3) := by decide +kernel
theorem dX5_hear_37 : decode cX5_hear 37 = .ok (.iconst 4, 1) := by decide +kernel
theorem dX5_hear_38 : decode cX5_hear 38 = .ok (.invokevirtual 62, 3) := by decide +kernel
theorem dX5_hear_41 : decode cX5_hear 41 = .ok (.if_icmp .ne 7, 3) := by decide +kernel
theorem dX5_hear_44 : decode cX5_hear 44 = .ok (.iconst 1, 1) := by decide +kernel
theorem dX5_hear_45 : decode cX5_hear 45 = .ok (.goto 4, 3) := by decide +kernel
theorem dX5_hear_48 : decode cX5_hear 48 = .ok (.iconst 0, 1) := by decide +kernel
theorem dX5_hear_49 : decode cX5_hear 49 = .ok (.istore_n 2, 1) := by decide +kernel
theorem dX5_hear_50 : decode cX5_hear 50 = .ok (.iload_n 2, 1) := by decide +kernel
theorem dX5_hear_51 : decode cX5_hear 51 = .ok (.ifCond .ne 13, 3) := by decide +kernel
theorem dX5_hear_54 : decode cX5_hear 54 = .ok (.aload_n 0, 1) := by decide +kernel
theorem dX5_hear_55 : decode cX5_hear 55 = .ok (.getfield 18, 3) := by decide +kernel
theorem dX5_hear_58 : decode cX5_hear 58 = .ok (.bipush 8, 2) := by decide +kernel
theorem dX5_hear_60 : decode cX5_hear 60 = .ok (.iconst 0, 1) := by decide +kernel
theorem dX5_hear_61 : decode cX5_hear 61 = .ok (.invokevirtual 40, 3) := by decide +kernel
theorem dX5_hear_64 : decode cX5_hear 64 = .ok (.aload_n 0, 1) := by decide +kernel
theorem dX5_hear_65 : decode cX5_hear 65 = .ok (.iconst 2, 1) := by decide +kernel
theorem dX5_hear_66 : decode cX5_hear 66 = .ok (.putfield 34, 3) := by decide +kernel
theorem dX5_hear_69 : decode cX5_hear 69 = .ok (.aload_n 0, 1) := by decide +kernel
theorem dX5_hear_70 : decode cX5_hear 70 = .ok (.aload_n 0, 1) := by decide +kernel
theorem dX5_hear_71 : decode cX5_hear 71 = .ok (.getfield 12, 3) := by decide +kernel
theorem dX5_hear_74 : decode cX5_hear 74 = .ok (.iconst 2, 1) := by decide +kernel
theorem dX5_hear_75 : decode cX5_hear 75 = .ok (.invokevirtual 62, 3) := by decide +kernel
theorem dX5_hear_78 : decode cX5_hear 78 = .ok (.ifCond .eq 7, 3) := by decide +kernel
theorem dX5_hear_81 : decode cX5_hear 81 = .ok (.iconst 3, 1) := by decide +kernel
theorem dX5_hear_82 : decode cX5_hear 82 = .ok (.goto 5, 3) := by decide +kernel
theorem dX5_hear_85 : decode cX5_hear 85 = .ok (.bipush 90, 2) := by decide +kernel
theorem dX5_hear_87 : decode cX5_hear 87 = .ok (.putfield 44, 3) := by decide +kernel
theorem dX5_hear_90 : decode cX5_hear 90 = .ok (.aload_n 1, 1) := by decide +kernel
theorem dX5_hear_91 : decode cX5_hear 91 = .ok (.getfield 57, 3) := by decide +kernel
theorem dX5_hear_94 : decode cX5_hear 94 = .ok (.aload_n 0, 1) := by decide +kernel
theorem dX5_hear_95 : decode cX5_hear 95 = .ok (.getfield 12, 3) := by decide +kernel
theorem dX5_hear_98 : decode cX5_hear 98 = .ok (.invokevirtual 66, 3) := by decide +kernel
theorem dX5_hear_101 : decode cX5_hear 101 = .ok (.ifCond .ne 8, 3) := by decide +kernel
theorem dX5_hear_104 : decode cX5_hear 104 = .ok (.aload_n 0, 1) := by decide +kernel
theorem dX5_hear_105 : decode cX5_hear 105 = .ok (.iconst 1, 1) := by decide +kernel
theorem dX5_hear_106 : decode cX5_hear 106 = .ok (.putfield 69, 3) := by decide +kernel
theorem dX5_hear_109 : decode cX5_hear 109 = .ok (.aload_n 0, 1) := by decide +kernel
theorem dX5_hear_110 : decode cX5_hear 110 = .ok (.iconst 1, 1) := by decide +kernel
theorem dX5_hear_111 : decode cX5_hear 111 = .ok (.putfield 73, 3) := by decide +kernel
theorem dX5_hear_114 : decode cX5_hear 114 = .ok (.aload_n 0, 1) := by decide +kernel
theorem dX5_hear_115 : decode cX5_hear 115 = .ok (.dup, 1) := by decide +kernel
theorem dX5_hear_116 : decode cX5_hear 116 = .ok (.getfield 76, 3) := by decide +kernel
theorem dX5_hear_119 : decode cX5_hear 119 = .ok (.iconst 1, 1) := by decide +kernel
theorem dX5_hear_120 : decode cX5_hear 120 = .ok (.iadd, 1) := by decide +kernel
theorem dX5_hear_121 : decode cX5_hear 121 = .ok (.putfield 76, 3) := by decide +kernel
theorem dX5_hear_124 : decode cX5_hear 124 = .ok (.return_, 1) := by decide +kernel
noncomputable def bX5_hear_0 (Q : Option Value → MM → Prop) (nx : Nat → Kt) : Kt := ldA 0 (gR 5 1 (ldA 1 (gR 4 0 (cV 1 6 wX6_copyFrom 0 0 0 0 (ldA 1 (gR 4 1 (ldA 0 (gR 5 0 (cV 1 6 wX6_namesSame 0 0 0 0 (ifz (fun x => x = 0) (nx 48) (ldA 1 (gR 4 1 (cI 4 (cV 1 6 wX6_has 0 0 0 0 (ldA 0 (gR 5 0 (cI 4 (cV 1 6 wX6_has 0 0 0 0 (ifc (fun x y => x = y) (cI 1 (nx 49)) (nx 48))))))))))))))))))))
noncomputable def bX5_hear_48 (Q : Option Value → MM → Prop) (nx : Nat → Kt) : Kt := cI 0 (nx 49)
noncomputable def bX5_hear_49 (Q : Option Value → MM → Prop) (nx : Nat → Kt) : Kt := stI 2 (ldI 2 (ifz (fun x => x = 0) (ldA 0 (gR 5 1 (cI 8 (cI 0 (cV 2 6 wX6_setBits 0 0 0 0 (nx 64)))))) (nx 64)))
noncomputable def bX5_hear_64 (Q : Option Value → MM → Prop) (nx : Nat → Kt) : Kt := ldA 0 (cI 2 (tI 5 3 (ldA 0 (ldA 0 (gR 5 0 (cI 2 (cV 1 6 wX6_has 0 0 0 0 (ifz (fun x => x = 0) (nx 85) (cI 3 (nx 87))))))))))
noncomputable def bX5_hear_85 (Q : Option Value → MM → Prop) (nx : Nat → Kt) : Kt := cI 90 (nx 87)
noncomputable def bX5_hear_87 (Q : Option Value → MM → Prop) (nx : Nat → Kt) : Kt := tI 5 4 (ldA 1 (gR 4 1 (ldA 0 (gR 5 0 (cV 1 6 wX6_isSame 0 0 0 0 (ifz (fun x => x = 0) (ldA 0 (cI 1 (tZ 5 13 (nx 109)))) (nx 109)))))))
noncomputable def bX5_hear_109 (Q : Option Value → MM → Prop) (nx : Nat → Kt) : Kt := ldA 0 (cI 1 (tZ 5 12 (ldA 0 (du (gI 5 17 (cI 1 (bop (fun x y => x + y) (tI 5 17 (rV Q)))))))))
noncomputable def kX5_hear (Q : Option Value → MM → Prop) (nx : Nat → Kt) : Nat → Kt := bse [(0, bX5_hear_0 Q nx), (48, bX5_hear_48 Q nx), (49, bX5_hear_49 Q nx), (64, bX5_hear_64 Q nx), (85, bX5_hear_85 Q nx), (87, bX5_hear_87 Q nx), (109, bX5_hear_109 Q nx)]
abbrev rX5_hear : Room := { frames := 2, cells := 0, slots := 0, locals := 42 }
noncomputable def wX5_hear : Mw := mw 3 kX5_hear
set_option maxRecDepth 20000 in
theorem oX5_hear_0 {T : Ct} {Q : Option Value → MM → Prop} (C : Cx T cX5_hear 3 RX5 0 0) (CR : CxR T 2 42) (hr : T.2.2.2.2.2.2.2.2.1.sig.returnType = none) (hnm : T.2.2.2.2.2.2.2.2.1.name = "hear") {nx : Nat → Kt} (hn : ∀ pc, Sd T 3 (QT T Q 0 0) 0 0 pc (nx pc)) : Sd T 3 (QT T Q 0 0) 0 0 0 (bX5_hear_0 Q nx) := x_al_n C dX5_hear_0 rfl (gf_X5_18 C dX5_hear_1 (x_al_n C dX5_hear_4 rfl (gf_X5_50 C dX5_hear_5 (x_cV C CR mX6_copyFrom ⟨co_X6_copyFrom, init_X6, md_X6_copyFrom, by decide, by decide⟩ (ci := 6) (TX := TX6) (N := 5) rfl (by decide) ml_X5_53 im_X6_copyFrom se_X6_copyFrom dX5_hear_8 (x_al_n C dX5_hear_11 rfl (gf_X5_57 C dX5_hear_12 (x_al_n C dX5_hear_15 rfl (gf_X5_12 C dX5_hear_16 (x_cV C CR mX6_namesSame ⟨co_X6_namesSame, init_X6, md_X6_namesSame, by decide, by decide⟩ (ci := 6) (TX := TX6) (N := 5) rfl (by decide) ml_X5_58 im_X6_namesSame se_X6_namesSame dX5_hear_19 (x_if_eq C (hn 48) dX5_hear_22 (by decide) (x_al_n C dX5_hear_25 rfl (gf_X5_57 C dX5_hear_26 (x_ic C dX5_hear_29 (by decide) (x_cV C CR mX6_has ⟨co_X6_has, init_X6, md_X6_has, by decide, by decide⟩ (ci := 6) (TX := TX6) (N := 5) rfl (by decide) ml_X5_62 im_X6_has se_X6_has dX5_hear_30 (x_al_n C dX5_hear_33 rfl (gf_X5_12 C dX5_hear_34 (x_ic C dX5_hear_37 (by decide) (x_cV C CR mX6_has ⟨co_X6_has, init_X6, md_X6_has, by decide, by decide⟩ (ci := 6) (TX := TX6) (N := 5) rfl (by decide) ml_X5_62 im_X6_has se_X6_has dX5_hear_38 (x_ic_ne C (hn 48) dX5_hear_41 (by decide) (x_ic C dX5_hear_44 (by decide) (x_goto C (hn 49) dX5_hear_45 (by decide))))))))))))))))))))))
set_option maxRecDepth 20000 in
theorem oX5_hear_48 {T : Ct} {Q : Option Value → MM → Prop} (C : Cx T cX5_hear 3 RX5 0 0) (CR : CxR T 2 42) (hr : T.2.2.2.2.2.2.2.2.1.sig.returnType = none) (hnm : T.2.2.2.2.2.2.2.2.1.name = "hear") {nx : Nat → Kt} (hn : ∀ pc, Sd T 3 (QT T Q 0 0) 0 0 pc (nx pc)) : Sd T 3 (QT T Q 0 0) 0 0 48 (bX5_hear_48 Q nx) := x_ic C dX5_hear_48 (by decide) (hn 49)
set_option maxRecDepth 20000 in
theorem oX5_hear_49 {T : Ct} {Q : Option Value → MM → Prop} (C : Cx T cX5_hear 3 RX5 0 0) (CR : CxR T 2 42) (hr : T.2.2.2.2.2.2.2.2.1.sig.returnType = none) (hnm : T.2.2.2.2.2.2.2.2.1.name = "hear") {nx : Nat → Kt} (hn : ∀ pc, Sd T 3 (QT T Q 0 0) 0 0 pc (nx pc)) : Sd T 3 (QT T Q 0 0) 0 0 49 (bX5_hear_49 Q nx) := x_is_n C dX5_hear_49 rfl (by decide) (x_il_n C dX5_hear_50 rfl (x_if_ne C (hn 64) dX5_hear_51 (by decide) (x_al_n C dX5_hear_54 rfl (gf_X5_18 C dX5_hear_55 (x_bp C dX5_hear_58 (by decide) (x_ic C dX5_hear_60 (by decide) (x_cV C CR mX6_setBits ⟨co_X6_setBits, init_X6, md_X6_setBits, by decide, by decide⟩ (ci := 6) (TX := TX6) (N := 5) rfl (by decide) ml_X5_40 im_X6_setBits se_X6_setBits dX5_hear_61 (hn 64))))))))
set_option maxRecDepth 20000 in
theorem oX5_hear_64 {T : Ct} {Q : Option Value → MM → Prop} (C : Cx T cX5_hear 3 RX5 0 0) (CR : CxR T 2 42) (hr : T.2.2.2.2.2.2.2.2.1.sig.returnType = none) (hnm : T.2.2.2.2.2.2.2.2.1.name = "hear") {nx : Nat → Kt} (hn : ∀ pc, Sd T 3 (QT T Q 0 0) 0 0 pc (nx pc)) : Sd T 3 (QT T Q 0 0) 0 0 64 (bX5_hear_64 Q nx) := x_al_n C dX5_hear_64 rfl (x_ic C dX5_hear_65 (by decide) (pf_X5_34 C dX5_hear_66 (x_al_n C dX5_hear_69 rfl (x_al_n C dX5_hear_70 rfl (gf_X5_12 C dX5_hear_71 (x_ic C dX5_hear_74 (by decide) (x_cV C CR mX6_has ⟨co_X6_has, init_X6, md_X6_has, by decide, by decide⟩ (ci := 6) (TX := TX6) (N := 5) rfl (by decide) ml_X5_62 im_X6_has se_X6_has dX5_hear_75 (x_if_eq C (hn 85) dX5_hear_78 (by decide) (x_ic C dX5_hear_81 (by decide) (x_goto C (hn 87) dX5_hear_82 (by decide)))))))))))
set_option maxRecDepth 20000 in
theorem oX5_hear_85 {T : Ct} {Q : Option Value → MM → Prop} (C : Cx T cX5_hear 3 RX5 0 0) (CR : CxR T 2 42) (hr : T.2.2.2.2.2.2.2.2.1.sig.returnType = none) (hnm : T.2.2.2.2.2.2.2.2.1.name = "hear") {nx : Nat → Kt} (hn : ∀ pc, Sd T 3 (QT T Q 0 0) 0 0 pc (nx pc)) : Sd T 3 (QT T Q 0 0) 0 0 85 (bX5_hear_85 Q nx) := x_bp C dX5_hear_85 (by decide) (hn 87)
set_option maxRecDepth 20000 in
theorem oX5_hear_87 {T : Ct} {Q : Option Value → MM → Prop} (C : Cx T cX5_hear 3 RX5 0 0) (CR : CxR T 2 42) (hr : T.2.2.2.2.2.2.2.2.1.sig.returnType = none) (hnm : T.2.2.2.2.2.2.2.2.1.name = "hear") {nx : Nat → Kt} (hn : ∀ pc, Sd T 3 (QT T Q 0 0) 0 0 pc (nx pc)) : Sd T 3 (QT T Q 0 0) 0 0 87 (bX5_hear_87 Q nx) := pf_X5_44 C dX5_hear_87 (x_al_n C dX5_hear_90 rfl (gf_X5_57 C dX5_hear_91 (x_al_n C dX5_hear_94 rfl (gf_X5_12 C dX5_hear_95 (x_cV C CR mX6_isSame ⟨co_X6_isSame, init_X6, md_X6_isSame, by decide, by decide⟩ (ci := 6) (TX := TX6) (N := 5) rfl (by decide) ml_X5_66 im_X6_isSame se_X6_isSame dX5_hear_98 (x_if_ne C (hn 109) dX5_hear_101 (by decide) (x_al_n C dX5_hear_104 rfl (x_ic C dX5_hear_105 (by decide) (pf_X5_69 C dX5_hear_106 (hn 109))))))))))
set_option maxRecDepth 20000 in
theorem oX5_hear_109 {T : Ct} {Q : Option Value → MM → Prop} (C : Cx T cX5_hear 3 RX5 0 0) (CR : CxR T 2 42) (hr : T.2.2.2.2.2.2.2.2.1.sig.returnType = none) (hnm : T.2.2.2.2.2.2.2.2.1.name = "hear") {nx : Nat → Kt} (hn : ∀ pc, Sd T 3 (QT T Q 0 0) 0 0 pc (nx pc)) : Sd T 3 (QT T Q 0 0) 0 0 109 (bX5_hear_109 Q nx) := x_al_n C dX5_hear_109 rfl (x_ic C dX5_hear_110 (by decide) (pf_X5_73 C dX5_hear_111 (x_al_n C dX5_hear_114 rfl (x_dup C dX5_hear_115 (gf_X5_76 C dX5_hear_116 (x_ic C dX5_hear_119 (by decide) (x_iadd C dX5_hear_120 (pf_X5_76 C dX5_hear_121 (x_rV C hr dX5_hear_124)))))))))
set_option maxRecDepth 20000 in
theorem mX5_hear (l : Launch) (D : va_G) (cA : Nat → ClassId) (base : Nat) : Mc l D cA base yX5_hear cX5_hear 3 none rX5_hear wX5_hear := mc_of (by decide +kernel) kX5_hear (fun T Q C CR hr hnm nx hn => bse_ok _ (List.forall_mem_cons.mpr ⟨oX5_hear_0 C CR hr hnm hn, List.forall_mem_cons.mpr ⟨oX5_hear_48 C CR hr hnm hn, List.forall_mem_cons.mpr ⟨oX5_hear_49 C CR hr hnm hn, List.forall_mem_cons.mpr ⟨oX5_hear_64 C CR hr hnm hn, List.forall_mem_cons.mpr ⟨oX5_hear_85 C CR hr hnm hn, List.forall_mem_cons.mpr ⟨oX5_hear_87 C CR hr hnm hn, List.forall_mem_cons.mpr ⟨oX5_hear_109 C CR hr hnm hn, fun _ h => nomatch h⟩⟩⟩⟩⟩⟩⟩))
theorem dX5_age_0 : decode cX5_age 0 = .ok (.aload_n 0, 1) := by decide +kernel
theorem dX5_age_1 : decode cX5_age 1 = .ok (.getfield 73, 3) := by decide +kernel
theorem dX5_age_4 : decode cX5_age 4 = .ok (.istore_n 1, 1) := by decide +kernel
theorem dX5_age_5 : decode cX5_age 5 = .ok (.aload_n 0, 1) := by decide +kernel
theorem dX5_age_6 : decode cX5_age 6 = .ok (.iconst 0, 1) := by decide +kernel
theorem dX5_age_7 : decode cX5_age 7 = .ok (.putfield 73, 3) := by decide +kernel
theorem dX5_age_10 : decode cX5_age 10 = .ok (.iload_n 1, 1) := by decide +kernel
theorem dX5_age_11 : decode cX5_age 11 = .ok (.ifCond .ne 19, 3) := by decide +kernel
theorem dX5_age_14 : decode cX5_age 14 = .ok (.aload_n 0, 1) := by decide +kernel
theorem dX5_age_15 : decode cX5_age 15 = .ok (.getfield 34, 3) := by decide +kernel
theorem dX5_age_18 : decode cX5_age 18 = .ok (.iconst 1, 1) := by decide +kernel
theorem dX5_age_19 : decode cX5_age 19 = .ok (.if_icmp .eq 12, 3) := by decide +kernel
theorem dX5_age_22 : decode cX5_age 22 = .ok (.aload_n 0, 1) := by decide +kernel
theorem dX5_age_23 : decode cX5_age 23 = .ok (.getfield 34, 3) := by decide +kernel
theorem dX5_age_26 : decode cX5_age 26 = .ok (.iconst 2, 1) := by decide +kernel
theorem dX5_age_27 : decode cX5_age 27 = .ok (.if_icmp .eq 4, 3) := by decide +kernel
theorem dX5_age_30 : decode cX5_age 30 = .ok (.return_, 1) := by decide +kernel
theorem dX5_age_31 : decode cX5_age 31 = .ok (.aload_n 0, 1) := by decide +kernel
theorem dX5_age_32 : decode cX5_age 32 = .ok (.dup, 1) := by decide +kernel
theorem dX5_age_33 : decode cX5_age 33 = .ok (.getfield 44, 3) := by decide +kernel
theorem dX5_age_36 : decode cX5_age 36 = .ok (.iconst 1, 1) := by decide +kernel
theorem dX5_age_37 : decode cX5_age 37 = .ok (.isub, 1) := by decide +kernel
theorem dX5_age_38 : decode cX5_age 38 = .ok (.putfield 44, 3) := by decide +kernel
theorem dX5_age_41 : decode cX5_age 41 = .ok (.aload_n 0, 1) := by decide +kernel
theorem dX5_age_42 : decode cX5_age 42 = .ok (.getfield 44, 3) := by decide +kernel
theorem dX5_age_45 : decode cX5_age 45 = .ok (.ifCond .le 4, 3) := by decide +kernel
theorem dX5_age_48 : decode cX5_age 48 = .ok (.return_, 1) := by decide +kernel
theorem dX5_age_49 : decode cX5_age 49 = .ok (.aload_n 0, 1) := by decide +kernel
theorem dX5_age_50 : decode cX5_age 50 = .ok (.getfield 34, 3) := by decide +kernel
theorem dX5_age_53 : decode cX5_age 53 = .ok (.iconst 2, 1) := by decide +kernel
theorem dX5_age_54 : decode cX5_age 54 = .ok (.if_icmp .ne 26, 3) := by decide +kernel
theorem dX5_age_57 : decode cX5_age 57 = .ok (.aload_n 0, 1) := by decide +kernel
theorem dX5_age_58 : decode cX5_age 58 = .ok (.iconst 1, 1) := by decide +kernel
theorem dX5_age_59 : decode cX5_age 59 = .ok (.putfield 34, 3) := by decide +kernel
theorem dX5_age_62 : decode cX5_age 62 = .ok (.aload_n 0, 1) := by decide +kernel
theorem dX5_age_63 : decode cX5_age 63 = .ok (.iconst 3, 1) := by decide +kernel
theorem dX5_age_64 : decode cX5_age 64 = .ok (.putfield 44, 3) := by decide +kernel
theorem dX5_age_67 : decode cX5_age 67 = .ok (.aload_n 0, 1) := by decide +kernel
theorem dX5_age_68 : decode cX5_age 68 = .ok (.getfield 18, 3) := by decide +kernel
theorem dX5_age_71 : decode cX5_age 71 = .ok (.bipush 56, 2) := by decide +kernel
theorem dX5_age_73 : decode cX5_age 73 = .ok (.iconst 0, 1) := by decide +kernel
theorem dX5_age_74 : decode cX5_age 74 = .ok (.invokevirtual 40, 3) := by decide +kernel
theorem dX5_age_77 : decode cX5_age 77 = .ok (.goto 15, 3) := by decide +kernel
theorem dX5_age_80 : decode cX5_age 80 = .ok (.aload_n 0, 1) := by decide +kernel
theorem dX5_age_81 : decode cX5_age 81 = .ok (.iconst 3, 1) := by decide +kernel
theorem dX5_age_82 : decode cX5_age 82 = .ok (.putfield 34, 3) := by decide +kernel
theorem dX5_age_85 : decode cX5_age 85 = .ok (.aload_n 0, 1) := by decide +kernel
theorem dX5_age_86 : decode cX5_age 86 = .ok (.getfield 18, 3) := by decide +kernel
theorem dX5_age_89 : decode cX5_age 89 = .ok (.invokevirtual 47, 3) := by decide +kernel
theorem dX5_age_92 : decode cX5_age 92 = .ok (.return_, 1) := by decide +kernel
noncomputable def bX5_age_0 (Q : Option Value → MM → Prop) (nx : Nat → Kt) : Kt := ldA 0 (gI 5 12 (stI 1 (ldA 0 (cI 0 (tZ 5 12 (ldI 1 (ifz (fun x => x = 0) (ldA 0 (gI 5 3 (cI 1 (ifc (fun x y => x = y) (nx 31) (ldA 0 (gI 5 3 (cI 2 (ifc (fun x y => x = y) (nx 31) (nx 30))))))))) (nx 30))))))))
noncomputable def bX5_age_30 (Q : Option Value → MM → Prop) (nx : Nat → Kt) : Kt := rV Q
noncomputable def bX5_age_31 (Q : Option Value → MM → Prop) (nx : Nat → Kt) : Kt := ldA 0 (du (gI 5 4 (cI 1 (bop (fun x y => x - y) (tI 5 4 (ldA 0 (gI 5 4 (ifz (fun x => x ≤ 0) (nx 49) (rV Q)))))))))
noncomputable def bX5_age_49 (Q : Option Value → MM → Prop) (nx : Nat → Kt) : Kt := ldA 0 (gI 5 3 (cI 2 (ifc (fun x y => x = y) (ldA 0 (cI 1 (tI 5 3 (ldA 0 (cI 3 (tI 5 4 (ldA 0 (gR 5 1 (cI 56 (cI 0 (cV 2 6 wX6_setBits 0 0 0 0 (nx 92)))))))))))) (nx 80))))
noncomputable def bX5_age_80 (Q : Option Value → MM → Prop) (nx : Nat → Kt) : Kt := ldA 0 (cI 3 (tI 5 3 (ldA 0 (gR 5 1 (cV 0 6 wX6_clear 0 0 0 0 (nx 92))))))
noncomputable def bX5_age_92 (Q : Option Value → MM → Prop) (nx : Nat → Kt) : Kt := rV Q
noncomputable def kX5_age (Q : Option Value → MM → Prop) (nx : Nat → Kt) : Nat → Kt := bse [(0, bX5_age_0 Q nx), (30, bX5_age_30 Q nx), (31, bX5_age_31 Q nx), (49, bX5_age_49 Q nx), (80, bX5_age_80 Q nx), (92, bX5_age_92 Q nx)]
abbrev rX5_age : Room := { frames := 1, cells := 0, slots := 0, locals := 22 }
noncomputable def wX5_age : Mw := mw 2 kX5_age
set_option maxRecDepth 20000 in
theorem oX5_age_0 {T : Ct} {Q : Option Value → MM → Prop} (C : Cx T cX5_age 2 RX5 0 0) (CR : CxR T 1 22) (hr : T.2.2.2.2.2.2.2.2.1.sig.returnType = none) (hnm : T.2.2.2.2.2.2.2.2.1.name = "age") {nx : Nat → Kt} (hn : ∀ pc, Sd T 2 (QT T Q 0 0) 0 0 pc (nx pc)) : Sd T 2 (QT T Q 0 0) 0 0 0 (bX5_age_0 Q nx) := x_al_n C dX5_age_0 rfl (gf_X5_73 C dX5_age_1 (x_is_n C dX5_age_4 rfl (by decide) (x_al_n C dX5_age_5 rfl (x_ic C dX5_age_6 (by decide) (pf_X5_73 C dX5_age_7 (x_il_n C dX5_age_10 rfl (x_if_ne C (hn 30) dX5_age_11 (by decide) (x_al_n C dX5_age_14 rfl (gf_X5_34 C dX5_age_15 (x_ic C dX5_age_18 (by decide) (x_ic_eq C (hn 31) dX5_age_19 (by decide) (x_al_n C dX5_age_22 rfl (gf_X5_34 C dX5_age_23 (x_ic C dX5_age_26 (by decide) (x_ic_eq C (hn 31) dX5_age_27 (by decide) (hn 30))))))))))))))))
set_option maxRecDepth 20000 in
theorem oX5_age_30 {T : Ct} {Q : Option Value → MM → Prop} (C : Cx T cX5_age 2 RX5 0 0) (CR : CxR T 1 22) (hr : T.2.2.2.2.2.2.2.2.1.sig.returnType = none) (hnm : T.2.2.2.2.2.2.2.2.1.name = "age") {nx : Nat → Kt} (hn : ∀ pc, Sd T 2 (QT T Q 0 0) 0 0 pc (nx pc)) : Sd T 2 (QT T Q 0 0) 0 0 30 (bX5_age_30 Q nx) := x_rV C hr dX5_age_30
set_option maxRecDepth 20000 in
theorem oX5_age_31 {T : Ct} {Q : Option Value → MM → Prop} (C : Cx T cX5_age 2 RX5 0 0) (CR : CxR T 1 22) (hr : T.2.2.2.2.2.2.2.2.1.sig.returnType = none) (hnm : T.2.2.2.2.2.2.2.2.1.name = "age") {nx : Nat → Kt} (hn : ∀ pc, Sd T 2 (QT T Q 0 0) 0 0 pc (nx pc)) : Sd T 2 (QT T Q 0 0) 0 0 31 (bX5_age_31 Q nx) := x_al_n C dX5_age_31 rfl (x_dup C dX5_age_32 (gf_X5_44 C dX5_age_33 (x_ic C dX5_age_36 (by decide) (x_isub C dX5_age_37 (pf_X5_44 C dX5_age_38 (x_al_n C dX5_age_41 rfl (gf_X5_44 C dX5_age_42 (x_if_le C (hn 49) dX5_age_45 (by decide) (x_rV C hr dX5_age_48)))))))))
set_option maxRecDepth 20000 in
theorem oX5_age_49 {T : Ct} {Q : Option Value → MM → Prop} (C : Cx T cX5_age 2 RX5 0 0) (CR : CxR T 1 22) (hr : T.2.2.2.2.2.2.2.2.1.sig.returnType = none) (hnm : T.2.2.2.2.2.2.2.2.1.name = "age") {nx : Nat → Kt} (hn : ∀ pc, Sd T 2 (QT T Q 0 0) 0 0 pc (nx pc)) : Sd T 2 (QT T Q 0 0) 0 0 49 (bX5_age_49 Q nx) := x_al_n C dX5_age_49 rfl (gf_X5_34 C dX5_age_50 (x_ic C dX5_age_53 (by decide) (x_ic_ne C (hn 80) dX5_age_54 (by decide) (x_al_n C dX5_age_57 rfl (x_ic C dX5_age_58 (by decide) (pf_X5_34 C dX5_age_59 (x_al_n C dX5_age_62 rfl (x_ic C dX5_age_63 (by decide) (pf_X5_44 C dX5_age_64 (x_al_n C dX5_age_67 rfl (gf_X5_18 C dX5_age_68 (x_bp C dX5_age_71 (by decide) (x_ic C dX5_age_73 (by decide) (x_cV C CR mX6_setBits ⟨co_X6_setBits, init_X6, md_X6_setBits, by decide, by decide⟩ (ci := 6) (TX := TX6) (N := 5) rfl (by decide) ml_X5_40 im_X6_setBits se_X6_setBits dX5_age_74 (x_goto C (hn 92) dX5_age_77 (by decide))))))))))))))))
set_option maxRecDepth 20000 in
theorem oX5_age_80 {T : Ct} {Q : Option Value → MM → Prop} (C : Cx T cX5_age 2 RX5 0 0) (CR : CxR T 1 22) (hr : T.2.2.2.2.2.2.2.2.1.sig.returnType = none) (hnm : T.2.2.2.2.2.2.2.2.1.name = "age") {nx : Nat → Kt} (hn : ∀ pc, Sd T 2 (QT T Q 0 0) 0 0 pc (nx pc)) : Sd T 2 (QT T Q 0 0) 0 0 80 (bX5_age_80 Q nx) := x_al_n C dX5_age_80 rfl (x_ic C dX5_age_81 (by decide) (pf_X5_34 C dX5_age_82 (x_al_n C dX5_age_85 rfl (gf_X5_18 C dX5_age_86 (x_cV C CR mX6_clear ⟨co_X6_clear, init_X6, md_X6_clear, by decide, by decide⟩ (ci := 6) (TX := TX6) (N := 5) rfl (by decide) ml_X5_47 im_X6_clear se_X6_clear dX5_age_89 (hn 92))))))
set_option maxRecDepth 20000 in
theorem oX5_age_92 {T : Ct} {Q : Option Value → MM → Prop} (C : Cx T cX5_age 2 RX5 0 0) (CR : CxR T 1 22) (hr : T.2.2.2.2.2.2.2.2.1.sig.returnType = none) (hnm : T.2.2.2.2.2.2.2.2.1.name = "age") {nx : Nat → Kt} (hn : ∀ pc, Sd T 2 (QT T Q 0 0) 0 0 pc (nx pc)) : Sd T 2 (QT T Q 0 0) 0 0 92 (bX5_age_92 Q nx) := x_rV C hr dX5_age_92
set_option maxRecDepth 20000 in
theorem mX5_age (l : Launch) (D : va_G) (cA : Nat → ClassId) (base : Nat) : Mc l D cA base yX5_age cX5_age 2 none rX5_age wX5_age := mc_of (by decide +kernel) kX5_age (fun T Q C CR hr hnm nx hn => bse_ok _ (List.forall_mem_cons.mpr ⟨oX5_age_0 C CR hr hnm hn, List.forall_mem_cons.mpr ⟨oX5_age_30 C CR hr hnm hn, List.forall_mem_cons.mpr ⟨oX5_age_31 C CR hr hnm hn, List.forall_mem_cons.mpr ⟨oX5_age_49 C CR hr hnm hn, List.forall_mem_cons.mpr ⟨oX5_age_80 C CR hr hnm hn, List.forall_mem_cons.mpr ⟨oX5_age_92 C CR hr hnm hn, fun _ h => nomatch h⟩⟩⟩⟩⟩⟩))
theorem dX5_fits_0 : decode cX5_fits 0 = .ok (.aload_n 0, 1) := by decide +kernel
theorem dX5_fits_1 : decode cX5_fits 1 = .ok (.getfield 34, 3) := by decide +kernel
theorem dX5_fits_4 : decode cX5_fits 4 = .ok (.iconst 1, 1) := by decide +kernel
theorem dX5_fits_5 : decode cX5_fits 5 = .ok (.if_icmp .eq 11, 3) := by decide +kernel
theorem dX5_fits_8 : decode cX5_fits 8 = .ok (.aload_n 0, 1) := by decide +kernel
theorem dX5_fits_9 : decode cX5_fits 9 = .ok (.getfield 34, 3) := by decide +kernel
theorem dX5_fits_12 : decode cX5_fits 12 = .ok (.iconst 2, 1) := by decide +kernel
theorem dX5_fits_13 : decode cX5_fits 13 = .ok (.if_icmp .ne 48, 3) := by decide +kernel
theorem dX5_fits_16 : decode cX5_fits 16 = .ok (.aload_n 0, 1) := by decide +kernel
theorem dX5_fits_17 : decode cX5_fits 17 = .ok (.getfield 12, 3) := by decide +kernel
theorem dX5_fits_20 : decode cX5_fits 20 = .ok (.getfield 79, 3) := by decide +kernel
theorem dX5_fits_23 : decode cX5_fits 23 = .ok (.ifCond .le 38, 3) := by decide +kernel
theorem dX5_fits_26 : decode cX5_fits 26 = .ok (.aload_n 0, 1) := by decide +kernel
theorem dX5_fits_27 : decode cX5_fits 27 = .ok (.getfield 18, 3) := by decide +kernel
theorem dX5_fits_30 : decode cX5_fits 30 = .ok (.getfield 82, 3) := by decide +kernel
theorem dX5_fits_33 : decode cX5_fits 33 = .ok (.ifCond .le 28, 3) := by decide +kernel
theorem dX5_fits_36 : decode cX5_fits 36 = .ok (.aload_n 0, 1) := by decide +kernel
theorem dX5_fits_37 : decode cX5_fits 37 = .ok (.getfield 18, 3) := by decide +kernel
theorem dX5_fits_40 : decode cX5_fits 40 = .ok (.getfield 79, 3) := by decide +kernel
theorem dX5_fits_43 : decode cX5_fits 43 = .ok (.ifCond .le 18, 3) := by decide +kernel
theorem dX5_fits_46 : decode cX5_fits 46 = .ok (.aload_n 0, 1) := by decide +kernel
theorem dX5_fits_47 : decode cX5_fits 47 = .ok (.getfield 18, 3) := by decide +kernel
theorem dX5_fits_50 : decode cX5_fits 50 = .ok (.iconst 4, 1) := by decide +kernel
theorem dX5_fits_51 : decode cX5_fits 51 = .ok (.invokevirtual 62, 3) := by decide +kernel
theorem dX5_fits_54 : decode cX5_fits 54 = .ok (.ifCond .eq 7, 3) := by decide +kernel
theorem dX5_fits_57 : decode cX5_fits 57 = .ok (.iconst 1, 1) := by decide +kernel
theorem dX5_fits_58 : decode cX5_fits 58 = .ok (.goto 4, 3) := by decide +kernel
theorem dX5_fits_61 : decode cX5_fits 61 = .ok (.iconst 0, 1) := by decide +kernel
theorem dX5_fits_62 : decode cX5_fits 62 = .ok (.ireturn, 1) := by decide +kernel
noncomputable def bX5_fits_0 (Q : Option Value → MM → Prop) (nx : Nat → Kt) : Kt := ldA 0 (gI 5 3 (cI 1 (ifc (fun x y => x = y) (nx 16) (ldA 0 (gI 5 3 (cI 2 (ifc (fun x y => x = y) (nx 16) (nx 61))))))))
noncomputable def bX5_fits_16 (Q : Option Value → MM → Prop) (nx : Nat → Kt) : Kt := ldA 0 (gR 5 0 (gI 6 1 (ifz (fun x => x ≤ 0) (nx 61) (ldA 0 (gR 5 1 (gI 6 0 (ifz (fun x => x ≤ 0) (nx 61) (ldA 0 (gR 5 1 (gI 6 1 (ifz (fun x => x ≤ 0) (nx 61) (ldA 0 (gR 5 1 (cI 4 (cV 1 6 wX6_has 0 0 0 0 (ifz (fun x => x = 0) (nx 61) (cI 1 (nx 62))))))))))))))))))
noncomputable def bX5_fits_61 (Q : Option Value → MM → Prop) (nx : Nat → Kt) : Kt := cI 0 (nx 62)
noncomputable def bX5_fits_62 (Q : Option Value → MM → Prop) (nx : Nat → Kt) : Kt := rZ Q
noncomputable def kX5_fits (Q : Option Value → MM → Prop) (nx : Nat → Kt) : Nat → Kt := bse [(0, bX5_fits_0 Q nx), (16, bX5_fits_16 Q nx), (61, bX5_fits_61 Q nx), (62, bX5_fits_62 Q nx)]
abbrev rX5_fits : Room := { frames := 1, cells := 0, slots := 0, locals := 21 }
noncomputable def wX5_fits : Mw := mw 1 kX5_fits
set_option maxRecDepth 20000 in
theorem oX5_fits_0 {T : Ct} {Q : Option Value → MM → Prop} (C : Cx T cX5_fits 1 RX5 0 0) (CR : CxR T 1 21) (hr : T.2.2.2.2.2.2.2.2.1.sig.returnType = (some .boolean)) (hnm : T.2.2.2.2.2.2.2.2.1.name = "fits") {nx : Nat → Kt} (hn : ∀ pc, Sd T 1 (QT T Q 0 0) 0 0 pc (nx pc)) : Sd T 1 (QT T Q 0 0) 0 0 0 (bX5_fits_0 Q nx) := x_al_n C dX5_fits_0 rfl (gf_X5_34 C dX5_fits_1 (x_ic C dX5_fits_4 (by decide) (x_ic_eq C (hn 16) dX5_fits_5 (by decide) (x_al_n C dX5_fits_8 rfl (gf_X5_34 C dX5_fits_9 (x_ic C dX5_fits_12 (by decide) (x_ic_ne C (hn 61) dX5_fits_13 (by decide) (hn 16))))))))
set_option maxRecDepth 20000 in
theorem oX5_fits_16 {T : Ct} {Q : Option Value → MM → Prop} (C : Cx T cX5_fits 1 RX5 0 0) (CR : CxR T 1 21) (hr : T.2.2.2.2.2.2.2.2.1.sig.returnType = (some .boolean)) (hnm : T.2.2.2.2.2.2.2.2.1.name = "fits") {nx : Nat → Kt} (hn : ∀ pc, Sd T 1 (QT T Q 0 0) 0 0 pc (nx pc)) : Sd T 1 (QT T Q 0 0) 0 0 16 (bX5_fits_16 Q nx) := x_al_n C dX5_fits_16 rfl (gf_X5_12 C dX5_fits_17 (gf_X5_79 C dX5_fits_20 (x_if_le C (hn 61) dX5_fits_23 (by decide) (x_al_n C dX5_fits_26 rfl (gf_X5_18 C dX5_fits_27 (gf_X5_82 C dX5_fits_30 (x_if_le C (hn 61) dX5_fits_33 (by decide) (x_al_n C dX5_fits_36 rfl (gf_X5_18 C dX5_fits_37 (gf_X5_79 C dX5_fits_40 (x_if_le C (hn 61) dX5_fits_43 (by decide) (x_al_n C dX5_fits_46 rfl (gf_X5_18 C dX5_fits_47 (x_ic C dX5_fits_50 (by decide) (x_cV C CR mX6_has ⟨co_X6_has, init_X6, md_X6_has, by decide, by decide⟩ (ci := 6) (TX := TX6) (N := 5) rfl (by decide) ml_X5_62 im_X6_has se_X6_has dX5_fits_51 (x_if_eq C (hn 61) dX5_fits_54 (by decide) (x_ic C dX5_fits_57 (by decide) (x_goto C (hn 62) dX5_fits_58 (by decide)))))))))))))))))))
set_option maxRecDepth 20000 in
theorem oX5_fits_61 {T : Ct} {Q : Option Value → MM → Prop} (C : Cx T cX5_fits 1 RX5 0 0) (CR : CxR T 1 21) (hr : T.2.2.2.2.2.2.2.2.1.sig.returnType = (some .boolean)) (hnm : T.2.2.2.2.2.2.2.2.1.name = "fits") {nx : Nat → Kt} (hn : ∀ pc, Sd T 1 (QT T Q 0 0) 0 0 pc (nx pc)) : Sd T 1 (QT T Q 0 0) 0 0 61 (bX5_fits_61 Q nx) := x_ic C dX5_fits_61 (by decide) (hn 62)
set_option maxRecDepth 20000 in
theorem oX5_fits_62 {T : Ct} {Q : Option Value → MM → Prop} (C : Cx T cX5_fits 1 RX5 0 0) (CR : CxR T 1 21) (hr : T.2.2.2.2.2.2.2.2.1.sig.returnType = (some .boolean)) (hnm : T.2.2.2.2.2.2.2.2.1.name = "fits") {nx : Nat → Kt} (hn : ∀ pc, Sd T 1 (QT T Q 0 0) 0 0 pc (nx pc)) : Sd T 1 (QT T Q 0 0) 0 0 62 (bX5_fits_62 Q nx) := x_rZ C hr dX5_fits_62
set_option maxRecDepth 20000 in
theorem mX5_fits (l : Launch) (D : va_G) (cA : Nat → ClassId) (base : Nat) : Mc l D cA base yX5_fits cX5_fits 1 (some .boolean) rX5_fits wX5_fits := mc_of (by decide +kernel) kX5_fits (fun T Q C CR hr hnm nx hn => bse_ok _ (List.forall_mem_cons.mpr ⟨oX5_fits_0 C CR hr hnm hn, List.forall_mem_cons.mpr ⟨oX5_fits_16 C CR hr hnm hn, List.forall_mem_cons.mpr ⟨oX5_fits_61 C CR hr hnm hn, List.forall_mem_cons.mpr ⟨oX5_fits_62 C CR hr hnm hn, fun _ h => nomatch h⟩⟩⟩⟩))
theorem dX5_isLike_0 : decode cX5_isLike 0 = .ok (.aload_n 0, 1) := by decide +kernel
theorem dX5_isLike_1 : decode cX5_isLike 1 = .ok (.getfield 12, 3) := by decide +kernel
theorem dX5_isLike_4 : decode cX5_isLike 4 = .ok (.getfield 79, 3) := by decide +kernel
theorem dX5_isLike_7 : decode cX5_isLike 7 = .ok (.aload_n 1, 1) := by decide +kernel
theorem dX5_isLike_8 : decode cX5_isLike 8 = .ok (.getfield 12, 3) := by decide +kernel
theorem dX5_isLike_11 : decode cX5_isLike 11 = .ok (.getfield 79, 3) := by decide +kernel
theorem dX5_isLike_14 : decode cX5_isLike 14 = .ok (.if_icmp .ne 41, 3) := by decide +kernel
theorem dX5_isLike_17 : decode cX5_isLike 17 = .ok (.aload_n 0, 1) := by decide +kernel
theorem dX5_isLike_18 : decode cX5_isLike 18 = .ok (.getfield 18, 3) := by decide +kernel
theorem dX5_isLike_21 : decode cX5_isLike 21 = .ok (.getfield 82, 3) := by decide +kernel
theorem dX5_isLike_24 : decode cX5_isLike 24 = .ok (.aload_n 1, 1) := by decide +kernel
theorem dX5_isLike_25 : decode cX5_isLike 25 = .ok (.getfield 18, 3) := by decide +kernel
theorem dX5_isLike_28 : decode cX5_isLike 28 = .ok (.getfield 82, 3) := by decide +kernel
theorem dX5_isLike_31 : decode cX5_isLike 31 = .ok (.if_icmp .ne 24, 3) := by decide +kernel
theorem dX5_isLike_34 : decode cX5_isLike 34 = .ok (.aload_n 0, 1) := by decide +kernel
theorem dX5_isLike_35 : decode cX5_isLike 35 = .ok (.getfield 18, 3) := by decide +kernel
theorem dX5_isLike_38 : decode cX5_isLike 38 = .ok (.getfield 79, 3) := by decide +kernel
theorem dX5_isLike_41 : decode cX5_isLike 41 = .ok (.aload_n 1, 1) := by decide +kernel
theorem dX5_isLike_42 : decode cX5_isLike 42 = .ok (.getfield 18, 3) := by decide +kernel
theorem dX5_isLike_45 : decode cX5_isLike 45 = .ok (.getfield 79, 3) := by decide +kernel
theorem dX5_isLike_48 : decode cX5_isLike 48 = .ok (.if_icmp .ne 7, 3) := by decide +kernel
theorem dX5_isLike_51 : decode cX5_isLike 51 = .ok (.iconst 1, 1) := by decide +kernel
theorem dX5_isLike_52 : decode cX5_isLike 52 = .ok (.goto 4, 3) := by decide +kernel
theorem dX5_isLike_55 : decode cX5_isLike 55 = .ok (.iconst 0, 1) := by decide +kernel
theorem dX5_isLike_56 : decode cX5_isLike 56 = .ok (.ireturn, 1) := by decide +kernel
noncomputable def bX5_isLike_0 (Q : Option Value → MM → Prop) (nx : Nat → Kt) : Kt := ldA 0 (gR 5 0 (gI 6 1 (ldA 1 (gR 5 0 (gI 6 1 (ifc (fun x y => x = y) (ldA 0 (gR 5 1 (gI 6 0 (ldA 1 (gR 5 1 (gI 6 0 (ifc (fun x y => x = y) (ldA 0 (gR 5 1 (gI 6 1 (ldA 1 (gR 5 1 (gI 6 1 (ifc (fun x y => x = y) (cI 1 (nx 56)) (nx 55)))))))) (nx 55)))))))) (nx 55)))))))
noncomputable def bX5_isLike_55 (Q : Option Value → MM → Prop) (nx : Nat → Kt) : Kt := cI 0 (nx 56)
noncomputable def bX5_isLike_56 (Q : Option Value → MM → Prop) (nx : Nat → Kt) : Kt := rZ Q
noncomputable def kX5_isLike (Q : Option Value → MM → Prop) (nx : Nat → Kt) : Nat → Kt := bse [(0, bX5_isLike_0 Q nx), (55, bX5_isLike_55 Q nx), (56, bX5_isLike_56 Q nx)]
abbrev rX5_isLike : Room := { frames := 0, cells := 0, slots := 0, locals := 0 }
noncomputable def wX5_isLike : Mw := mw 2 kX5_isLike
set_option maxRecDepth 20000 in
theorem oX5_isLike_0 {T : Ct} {Q : Option Value → MM → Prop} (C : Cx T cX5_isLike 2 RX5 0 0) (CR : CxR T 0 0) (hr : T.2.2.2.2.2.2.2.2.1.sig.returnType = (some .boolean)) (hnm : T.2.2.2.2.2.2.2.2.1.name = "isLike") {nx : Nat → Kt} (hn : ∀ pc, Sd T 2 (QT T Q 0 0) 0 0 pc (nx pc)) : Sd T 2 (QT T Q 0 0) 0 0 0 (bX5_isLike_0 Q nx) := x_al_n C dX5_isLike_0 rfl (gf_X5_12 C dX5_isLike_1 (gf_X5_79 C dX5_isLike_4 (x_al_n C dX5_isLike_7 rfl (gf_X5_12 C dX5_isLike_8 (gf_X5_79 C dX5_isLike_11 (x_ic_ne C (hn 55) dX5_isLike_14 (by decide) (x_al_n C dX5_isLike_17 rfl (gf_X5_18 C dX5_isLike_18 (gf_X5_82 C dX5_isLike_21 (x_al_n C dX5_isLike_24 rfl (gf_X5_18 C dX5_isLike_25 (gf_X5_82 C dX5_isLike_28 (x_ic_ne C (hn 55) dX5_isLike_31 (by decide) (x_al_n C dX5_isLike_34 rfl (gf_X5_18 C dX5_isLike_35 (gf_X5_79 C dX5_isLike_38 (x_al_n C dX5_isLike_41 rfl (gf_X5_18 C dX5_isLike_42 (gf_X5_79 C dX5_isLike_45 (x_ic_ne C (hn 55) dX5_isLike_48 (by decide) (x_ic C dX5_isLike_51 (by decide) (x_goto C (hn 56) dX5_isLike_52 (by decide)))))))))))))))))))))))
set_option maxRecDepth 20000 in
theorem oX5_isLike_55 {T : Ct} {Q : Option Value → MM → Prop} (C : Cx T cX5_isLike 2 RX5 0 0) (CR : CxR T 0 0) (hr : T.2.2.2.2.2.2.2.2.1.sig.returnType = (some .boolean)) (hnm : T.2.2.2.2.2.2.2.2.1.name = "isLike") {nx : Nat → Kt} (hn : ∀ pc, Sd T 2 (QT T Q 0 0) 0 0 pc (nx pc)) : Sd T 2 (QT T Q 0 0) 0 0 55 (bX5_isLike_55 Q nx) := x_ic C dX5_isLike_55 (by decide) (hn 56)
set_option maxRecDepth 20000 in
theorem oX5_isLike_56 {T : Ct} {Q : Option Value → MM → Prop} (C : Cx T cX5_isLike 2 RX5 0 0) (CR : CxR T 0 0) (hr : T.2.2.2.2.2.2.2.2.1.sig.returnType = (some .boolean)) (hnm : T.2.2.2.2.2.2.2.2.1.name = "isLike") {nx : Nat → Kt} (hn : ∀ pc, Sd T 2 (QT T Q 0 0) 0 0 pc (nx pc)) : Sd T 2 (QT T Q 0 0) 0 0 56 (bX5_isLike_56 Q nx) := x_rZ C hr dX5_isLike_56
set_option maxRecDepth 20000 in
theorem mX5_isLike (l : Launch) (D : va_G) (cA : Nat → ClassId) (base : Nat) : Mc l D cA base yX5_isLike cX5_isLike 2 (some .boolean) rX5_isLike wX5_isLike := mc_of (by decide +kernel) kX5_isLike (fun T Q C CR hr hnm nx hn => bse_ok _ (List.forall_mem_cons.mpr ⟨oX5_isLike_0 C CR hr hnm hn, List.forall_mem_cons.mpr ⟨oX5_isLike_55 C CR hr hnm hn, List.forall_mem_cons.mpr ⟨oX5_isLike_56 C CR hr hnm hn, fun _ h => nomatch h⟩⟩⟩))
theorem dX5_isStillBound_0 : decode cX5_isStillBound 0 = .ok (.aload_n 0, 1) := by decide +kernel
theorem dX5_isStillBound_1 : decode cX5_isStillBound 1 = .ok (.getfield 12, 3) := by decide +kernel
theorem dX5_isStillBound_4 : decode cX5_isStillBound 4 = .ok (.getfield 79, 3) := by decide +kernel
theorem dX5_isStillBound_7 : decode cX5_isStillBound 7 = .ok (.aload_n 0, 1) := by decide +kernel
theorem dX5_isStillBound_8 : decode cX5_isStillBound 8 = .ok (.getfield 85, 3) := by decide +kernel
theorem dX5_isStillBound_11 : decode cX5_isStillBound 11 = .ok (.if_icmp .ne 35, 3) := by decide +kernel
theorem dX5_isStillBound_14 : decode cX5_isStillBound 14 = .ok (.aload_n 0, 1) := by decide +kernel
theorem dX5_isStillBound_15 : decode cX5_isStillBound 15 = .ok (.getfield 18, 3) := by decide +kernel
theorem dX5_isStillBound_18 : decode cX5_isStillBound 18 = .ok (.getfield 82, 3) := by decide +kernel
theorem dX5_isStillBound_21 : decode cX5_isStillBound 21 = .ok (.aload_n 0, 1) := by decide +kernel
theorem dX5_isStillBound_22 : decode cX5_isStillBound 22 = .ok (.getfield 88, 3) := by decide +kernel
theorem dX5_isStillBound_25 : decode cX5_isStillBound 25 = .ok (.if_icmp .ne 21, 3) := by decide +kernel
theorem dX5_isStillBound_28 : decode cX5_isStillBound 28 = .ok (.aload_n 0, 1) := by decide +kernel
theorem dX5_isStillBound_29 : decode cX5_isStillBound 29 = .ok (.getfield 18, 3) := by decide +kernel
theorem dX5_isStillBound_32 : decode cX5_isStillBound 32 = .ok (.getfield 79, 3) := by decide +kernel
theorem dX5_isStillBound_35 : decode cX5_isStillBound 35 = .ok (.aload_n 0, 1) := by decide +kernel
theorem dX5_isStillBound_36 : decode cX5_isStillBound 36 = .ok (.getfield 91, 3) := by decide +kernel
theorem dX5_isStillBound_39 : decode cX5_isStillBound 39 = .ok (.if_icmp .ne 7, 3) := by decide +kernel
theorem dX5_isStillBound_42 : decode cX5_isStillBound 42 = .ok (.iconst 1, 1) := by decide +kernel
theorem dX5_isStillBound_43 : decode cX5_isStillBound 43 = .ok (.goto 4, 3) := by decide +kernel
theorem dX5_isStillBound_46 : decode cX5_isStillBound 46 = .ok (.iconst 0, 1) := by decide +kernel
theorem dX5_isStillBound_47 : decode cX5_isStillBound 47 = .ok (.ireturn, 1) := by decide +kernel
noncomputable def bX5_isStillBound_0 (Q : Option Value → MM → Prop) (nx : Nat → Kt) : Kt := ldA 0 (gR 5 0 (gI 6 1 (ldA 0 (gI 5 7 (ifc (fun x y => x = y) (ldA 0 (gR 5 1 (gI 6 0 (ldA 0 (gI 5 8 (ifc (fun x y => x = y) (ldA 0 (gR 5 1 (gI 6 1 (ldA 0 (gI 5 9 (ifc (fun x y => x = y) (cI 1 (nx 47)) (nx 46))))))) (nx 46))))))) (nx 46))))))
noncomputable def bX5_isStillBound_46 (Q : Option Value → MM → Prop) (nx : Nat → Kt) : Kt := cI 0 (nx 47)
noncomputable def bX5_isStillBound_47 (Q : Option Value → MM → Prop) (nx : Nat → Kt) : Kt := rZ Q
noncomputable def kX5_isStillBound (Q : Option Value → MM → Prop) (nx : Nat → Kt) : Nat → Kt := bse [(0, bX5_isStillBound_0 Q nx), (46, bX5_isStillBound_46 Q nx), (47, bX5_isStillBound_47 Q nx)]
abbrev rX5_isStillBound : Room := { frames := 0, cells := 0, slots := 0, locals := 0 }
noncomputable def wX5_isStillBound : Mw := mw 1 kX5_isStillBound
set_option maxRecDepth 20000 in
theorem oX5_isStillBound_0 {T : Ct} {Q : Option Value → MM → Prop} (C : Cx T cX5_isStillBound 1 RX5 0 0) (CR : CxR T 0 0) (hr : T.2.2.2.2.2.2.2.2.1.sig.returnType = (some .boolean)) (hnm : T.2.2.2.2.2.2.2.2.1.name = "isStillBound") {nx : Nat → Kt} (hn : ∀ pc, Sd T 1 (QT T Q 0 0) 0 0 pc (nx pc)) : Sd T 1 (QT T Q 0 0) 0 0 0 (bX5_isStillBound_0 Q nx) := x_al_n C dX5_isStillBound_0 rfl (gf_X5_12 C dX5_isStillBound_1 (gf_X5_79 C dX5_isStillBound_4 (x_al_n C dX5_isStillBound_7 rfl (gf_X5_85 C dX5_isStillBound_8 (x_ic_ne C (hn 46) dX5_isStillBound_11 (by decide) (x_al_n C dX5_isStillBound_14 rfl (gf_X5_18 C dX5_isStillBound_15 (gf_X5_82 C dX5_isStillBound_18 (x_al_n C dX5_isStillBound_21 rfl (gf_X5_88 C dX5_isStillBound_22 (x_ic_ne C (hn 46) dX5_isStillBound_25 (by decide) (x_al_n C dX5_isStillBound_28 rfl (gf_X5_18 C dX5_isStillBound_29 (gf_X5_79 C dX5_isStillBound_32 (x_al_n C dX5_isStillBound_35 rfl (gf_X5_91 C dX5_isStillBound_36 (x_ic_ne C (hn 46) dX5_isStillBound_39 (by decide) (x_ic C dX5_isStillBound_42 (by decide) (x_goto C (hn 47) dX5_isStillBound_43 (by decide))))))))))))))))))))
set_option maxRecDepth 20000 in
theorem oX5_isStillBound_46 {T : Ct} {Q : Option Value → MM → Prop} (C : Cx T cX5_isStillBound 1 RX5 0 0) (CR : CxR T 0 0) (hr : T.2.2.2.2.2.2.2.2.1.sig.returnType = (some .boolean)) (hnm : T.2.2.2.2.2.2.2.2.1.name = "isStillBound") {nx : Nat → Kt} (hn : ∀ pc, Sd T 1 (QT T Q 0 0) 0 0 pc (nx pc)) : Sd T 1 (QT T Q 0 0) 0 0 46 (bX5_isStillBound_46 Q nx) := x_ic C dX5_isStillBound_46 (by decide) (hn 47)
set_option maxRecDepth 20000 in
theorem oX5_isStillBound_47 {T : Ct} {Q : Option Value → MM → Prop} (C : Cx T cX5_isStillBound 1 RX5 0 0) (CR : CxR T 0 0) (hr : T.2.2.2.2.2.2.2.2.1.sig.returnType = (some .boolean)) (hnm : T.2.2.2.2.2.2.2.2.1.name = "isStillBound") {nx : Nat → Kt} (hn : ∀ pc, Sd T 1 (QT T Q 0 0) 0 0 pc (nx pc)) : Sd T 1 (QT T Q 0 0) 0 0 47 (bX5_isStillBound_47 Q nx) := x_rZ C hr dX5_isStillBound_47
set_option maxRecDepth 20000 in
theorem mX5_isStillBound (l : Launch) (D : va_G) (cA : Nat → ClassId) (base : Nat) : Mc l D cA base yX5_isStillBound cX5_isStillBound 1 (some .boolean) rX5_isStillBound wX5_isStillBound := mc_of (by decide +kernel) kX5_isStillBound (fun T Q C CR hr hnm nx hn => bse_ok _ (List.forall_mem_cons.mpr ⟨oX5_isStillBound_0 C CR hr hnm hn, List.forall_mem_cons.mpr ⟨oX5_isStillBound_46 C CR hr hnm hn, List.forall_mem_cons.mpr ⟨oX5_isStillBound_47 C CR hr hnm hn, fun _ h => nomatch h⟩⟩⟩))
theorem dX5_bind_0 : decode cX5_bind 0 = .ok (.aload_n 0, 1) := by decide +kernel
theorem dX5_bind_1 : decode cX5_bind 1 = .ok (.aload_n 0, 1) := by decide +kernel
theorem dX5_bind_2 : decode cX5_bind 2 = .ok (.getfield 12, 3) := by decide +kernel
theorem dX5_bind_5 : decode cX5_bind 5 = .ok (.getfield 79, 3) := by decide +kernel
theorem dX5_bind_8 : decode cX5_bind 8 = .ok (.putfield 85, 3) := by decide +kernel
theorem dX5_bind_11 : decode cX5_bind 11 = .ok (.aload_n 0, 1) := by decide +kernel
theorem dX5_bind_12 : decode cX5_bind 12 = .ok (.aload_n 0, 1) := by decide +kernel
theorem dX5_bind_13 : decode cX5_bind 13 = .ok (.getfield 18, 3) := by decide +kernel
theorem dX5_bind_16 : decode cX5_bind 16 = .ok (.getfield 82, 3) := by decide +kernel
theorem dX5_bind_19 : decode cX5_bind 19 = .ok (.putfield 88, 3) := by decide +kernel
theorem dX5_bind_22 : decode cX5_bind 22 = .ok (.aload_n 0, 1) := by decide +kernel
theorem dX5_bind_23 : decode cX5_bind 23 = .ok (.aload_n 0, 1) := by decide +kernel
theorem dX5_bind_24 : decode cX5_bind 24 = .ok (.getfield 18, 3) := by decide +kernel
theorem dX5_bind_27 : decode cX5_bind 27 = .ok (.getfield 79, 3) := by decide +kernel
theorem dX5_bind_30 : decode cX5_bind 30 = .ok (.putfield 91, 3) := by decide +kernel
theorem dX5_bind_33 : decode cX5_bind 33 = .ok (.aload_n 0, 1) := by decide +kernel
theorem dX5_bind_34 : decode cX5_bind 34 = .ok (.iconst 2, 1) := by decide +kernel
theorem dX5_bind_35 : decode cX5_bind 35 = .ok (.putfield 94, 3) := by decide +kernel
theorem dX5_bind_38 : decode cX5_bind 38 = .ok (.return_, 1) := by decide +kernel
noncomputable def bX5_bind_0 (Q : Option Value → MM → Prop) (nx : Nat → Kt) : Kt := ldA 0 (ldA 0 (gR 5 0 (gI 6 1 (tI 5 7 (ldA 0 (ldA 0 (gR 5 1 (gI 6 0 (tI 5 8 (ldA 0 (ldA 0 (gR 5 1 (gI 6 1 (tI 5 9 (ldA 0 (cI 2 (tI 5 6 (rV Q))))))))))))))))))
noncomputable def kX5_bind (Q : Option Value → MM → Prop) (nx : Nat → Kt) : Nat → Kt := bse [(0, bX5_bind_0 Q nx)]
abbrev rX5_bind : Room := { frames := 0, cells := 0, slots := 0, locals := 0 }
noncomputable def wX5_bind : Mw := mw 1 kX5_bind
set_option maxRecDepth 20000 in
theorem oX5_bind_0 {T : Ct} {Q : Option Value → MM → Prop} (C : Cx T cX5_bind 1 RX5 0 0) (CR : CxR T 0 0) (hr : T.2.2.2.2.2.2.2.2.1.sig.returnType = none) (hnm : T.2.2.2.2.2.2.2.2.1.name = "bind") {nx : Nat → Kt} (hn : ∀ pc, Sd T 1 (QT T Q 0 0) 0 0 pc (nx pc)) : Sd T 1 (QT T Q 0 0) 0 0 0 (bX5_bind_0 Q nx) := x_al_n C dX5_bind_0 rfl (x_al_n C dX5_bind_1 rfl (gf_X5_12 C dX5_bind_2 (gf_X5_79 C dX5_bind_5 (pf_X5_85 C dX5_bind_8 (x_al_n C dX5_bind_11 rfl (x_al_n C dX5_bind_12 rfl (gf_X5_18 C dX5_bind_13 (gf_X5_82 C dX5_bind_16 (pf_X5_88 C dX5_bind_19 (x_al_n C dX5_bind_22 rfl (x_al_n C dX5_bind_23 rfl (gf_X5_18 C dX5_bind_24 (gf_X5_79 C dX5_bind_27 (pf_X5_91 C dX5_bind_30 (x_al_n C dX5_bind_33 rfl (x_ic C dX5_bind_34 (by decide) (pf_X5_94 C dX5_bind_35 (x_rV C hr dX5_bind_38))))))))))))))))))
set_option maxRecDepth 20000 in
theorem mX5_bind (l : Launch) (D : va_G) (cA : Nat → ClassId) (base : Nat) : Mc l D cA base yX5_bind cX5_bind 1 none rX5_bind wX5_bind := mc_of (by decide +kernel) kX5_bind (fun T Q C CR hr hnm nx hn => bse_ok _ (List.forall_mem_cons.mpr ⟨oX5_bind_0 C CR hr hnm hn, fun _ h => nomatch h⟩))
theorem dX5_step_0 : decode cX5_step 0 = .ok (.aload_n 0, 1) := by decide +kernel
theorem dX5_step_1 : decode cX5_step 1 = .ok (.getfield 97, 3) := by decide +kernel
theorem dX5_step_4 : decode cX5_step 4 = .ok (.ifCond .eq 17, 3) := by decide +kernel
theorem dX5_step_7 : decode cX5_step 7 = .ok (.aload_n 0, 1) := by decide +kernel
theorem dX5_step_8 : decode cX5_step 8 = .ok (.getfield 37, 3) := by decide +kernel
theorem dX5_step_11 : decode cX5_step 11 = .ok (.ifCond .eq 12, 3) := by decide +kernel
theorem dX5_step_14 : decode cX5_step 14 = .ok (.aload_n 0, 1) := by decide +kernel
theorem dX5_step_15 : decode cX5_step 15 = .ok (.invokevirtual 100, 3) := by decide +kernel
theorem dX5_step_18 : decode cX5_step 18 = .ok (.ifCond .ne 5, 3) := by decide +kernel
theorem dX5_step_21 : decode cX5_step 21 = .ok (.iconst 0, 1) := by decide +kernel
theorem dX5_step_22 : decode cX5_step 22 = .ok (.ireturn, 1) := by decide +kernel
theorem dX5_step_23 : decode cX5_step 23 = .ok (.aload_n 0, 1) := by decide +kernel
theorem dX5_step_24 : decode cX5_step 24 = .ok (.getfield 37, 3) := by decide +kernel
theorem dX5_step_27 : decode cX5_step 27 = .ok (.ifCond .ne 9, 3) := by decide +kernel
theorem dX5_step_30 : decode cX5_step 30 = .ok (.aload_n 0, 1) := by decide +kernel
theorem dX5_step_31 : decode cX5_step 31 = .ok (.invokevirtual 104, 3) := by decide +kernel
theorem dX5_step_34 : decode cX5_step 34 = .ok (.iconst 1, 1) := by decide +kernel
theorem dX5_step_35 : decode cX5_step 35 = .ok (.ireturn, 1) := by decide +kernel
theorem dX5_step_36 : decode cX5_step 36 = .ok (.aload_n 0, 1) := by decide +kernel
theorem dX5_step_37 : decode cX5_step 37 = .ok (.getfield 37, 3) := by decide +kernel
theorem dX5_step_40 : decode cX5_step 40 = .ok (.iconst 1, 1) := by decide +kernel
theorem dX5_step_41 : decode cX5_step 41 = .ok (.if_icmp .ne 26, 3) := by decide +kernel
theorem dX5_step_44 : decode cX5_step 44 = .ok (.aload_n 0, 1) := by decide +kernel
theorem dX5_step_45 : decode cX5_step 45 = .ok (.dup, 1) := by decide +kernel
theorem dX5_step_46 : decode cX5_step 46 = .ok (.getfield 94, 3) := by decide +kernel
theorem dX5_step_49 : decode cX5_step 49 = .ok (.iconst 1, 1) := by decide +kernel
theorem dX5_step_50 : decode cX5_step 50 = .ok (.isub, 1) := by decide +kernel
theorem dX5_step_51 : decode cX5_step 51 = .ok (.putfield 94, 3) := by decide +kernel
theorem dX5_step_54 : decode cX5_step 54 = .ok (.aload_n 0, 1) := by decide +kernel
theorem dX5_step_55 : decode cX5_step 55 = .ok (.getfield 94, 3) := by decide +kernel
theorem dX5_step_58 : decode cX5_step 58 = .ok (.ifCond .le 7, 3) := by decide +kernel
theorem dX5_step_61 : decode cX5_step 61 = .ok (.iconst 1, 1) := by decide +kernel
theorem dX5_step_62 : decode cX5_step 62 = .ok (.goto 4, 3) := by decide +kernel
theorem dX5_step_65 : decode cX5_step 65 = .ok (.iconst 2, 1) := by decide +kernel
theorem dX5_step_66 : decode cX5_step 66 = .ok (.ireturn, 1) := by decide +kernel
theorem dX5_step_67 : decode cX5_step 67 = .ok (.aload_n 0, 1) := by decide +kernel
theorem dX5_step_68 : decode cX5_step 68 = .ok (.getfield 18, 3) := by decide +kernel
theorem dX5_step_71 : decode cX5_step 71 = .ok (.bipush 8, 2) := by decide +kernel
theorem dX5_step_73 : decode cX5_step 73 = .ok (.invokevirtual 62, 3) := by decide +kernel
theorem dX5_step_76 : decode cX5_step 76 = .ok (.ifCond .ne 5, 3) := by decide +kernel
theorem dX5_step_79 : decode cX5_step 79 = .ok (.iconst 2, 1) := by decide +kernel
theorem dX5_step_80 : decode cX5_step 80 = .ok (.ireturn, 1) := by decide +kernel
theorem dX5_step_81 : decode cX5_step 81 = .ok (.aload_n 0, 1) := by decide +kernel
theorem dX5_step_82 : decode cX5_step 82 = .ok (.getfield 37, 3) := by decide +kernel
theorem dX5_step_85 : decode cX5_step 85 = .ok (.iconst 2, 1) := by decide +kernel
theorem dX5_step_86 : decode cX5_step 86 = .ok (.if_icmp .ne 5, 3) := by decide +kernel
theorem dX5_step_89 : decode cX5_step 89 = .ok (.iconst 3, 1) := by decide +kernel
theorem dX5_step_90 : decode cX5_step 90 = .ok (.ireturn, 1) := by decide +kernel
theorem dX5_step_91 : decode cX5_step 91 = .ok (.aload_n 0, 1) := by decide +kernel
theorem dX5_step_92 : decode cX5_step 92 = .ok (.getfield 18, 3) := by decide +kernel
theorem dX5_step_95 : decode cX5_step 95 = .ok (.bipush 16, 2) := by decide +kernel
theorem dX5_step_97 : decode cX5_step 97 = .ok (.invokevirtual 62, 3) := by decide +kernel
theorem dX5_step_100 : decode cX5_step 100 = .ok (.ifCond .eq 7, 3) := by decide +kernel
theorem dX5_step_103 : decode cX5_step 103 = .ok (.iconst 4, 1) := by decide +kernel
theorem dX5_step_104 : decode cX5_step 104 = .ok (.goto 4, 3) := by decide +kernel
theorem dX5_step_107 : decode cX5_step 107 = .ok (.iconst 3, 1) := by decide +kernel
theorem dX5_step_108 : decode cX5_step 108 = .ok (.ireturn, 1) := by decide +kernel
noncomputable def bX5_step_0 (Q : Option Value → MM → Prop) (nx : Nat → Kt) : Kt := ldA 0 (gI 5 11 (ifz (fun x => x = 0) (nx 21) (ldA 0 (gI 5 5 (ifz (fun x => x = 0) (nx 23) (ldA 0 (cV 0 5 wX5_isStillBound 0 0 0 0 (ifz (fun x => x = 0) (nx 21) (nx 23)))))))))
noncomputable def bX5_step_21 (Q : Option Value → MM → Prop) (nx : Nat → Kt) : Kt := cI 0 (rI Q)
noncomputable def bX5_step_23 (Q : Option Value → MM → Prop) (nx : Nat → Kt) : Kt := ldA 0 (gI 5 5 (ifz (fun x => x = 0) (ldA 0 (cV 0 5 wX5_bind 0 0 0 0 (cI 1 (rI Q)))) (nx 36)))
noncomputable def bX5_step_36 (Q : Option Value → MM → Prop) (nx : Nat → Kt) : Kt := ldA 0 (gI 5 5 (cI 1 (ifc (fun x y => x = y) (ldA 0 (du (gI 5 6 (cI 1 (bop (fun x y => x - y) (tI 5 6 (ldA 0 (gI 5 6 (ifz (fun x => x ≤ 0) (nx 65) (cI 1 (nx 66))))))))))) (nx 67))))
noncomputable def bX5_step_65 (Q : Option Value → MM → Prop) (nx : Nat → Kt) : Kt := cI 2 (nx 66)
noncomputable def bX5_step_66 (Q : Option Value → MM → Prop) (nx : Nat → Kt) : Kt := rI Q
noncomputable def bX5_step_67 (Q : Option Value → MM → Prop) (nx : Nat → Kt) : Kt := ldA 0 (gR 5 1 (cI 8 (cV 1 6 wX6_has 0 0 0 0 (ifz (fun x => x = 0) (cI 2 (rI Q)) (nx 81)))))
noncomputable def bX5_step_81 (Q : Option Value → MM → Prop) (nx : Nat → Kt) : Kt := ldA 0 (gI 5 5 (cI 2 (ifc (fun x y => x = y) (cI 3 (rI Q)) (nx 91))))
noncomputable def bX5_step_91 (Q : Option Value → MM → Prop) (nx : Nat → Kt) : Kt := ldA 0 (gR 5 1 (cI 16 (cV 1 6 wX6_has 0 0 0 0 (ifz (fun x => x = 0) (nx 107) (cI 4 (nx 108))))))
noncomputable def bX5_step_107 (Q : Option Value → MM → Prop) (nx : Nat → Kt) : Kt := cI 3 (nx 108)
noncomputable def bX5_step_108 (Q : Option Value → MM → Prop) (nx : Nat → Kt) : Kt := rI Q
noncomputable def kX5_step (Q : Option Value → MM → Prop) (nx : Nat → Kt) : Nat → Kt := bse [(0, bX5_step_0 Q nx), (21, bX5_step_21 Q nx), (23, bX5_step_23 Q nx), (36, bX5_step_36 Q nx), (65, bX5_step_65 Q nx), (66, bX5_step_66 Q nx), (67, bX5_step_67 Q nx), (81, bX5_step_81 Q nx), (91, bX5_step_91 Q nx), (107, bX5_step_107 Q nx), (108, bX5_step_108 Q nx)]
abbrev rX5_step : Room := { frames := 1, cells := 0, slots := 0, locals := 21 }
noncomputable def wX5_step : Mw := mw 1 kX5_step
set_option maxRecDepth 20000 in
theorem oX5_step_0 {T : Ct} {Q : Option Value → MM → Prop} (C : Cx T cX5_step 1 RX5 0 0) (CR : CxR T 1 21) (hr : T.2.2.2.2.2.2.2.2.1.sig.returnType = (some .int)) (hnm : T.2.2.2.2.2.2.2.2.1.name = "step") {nx : Nat → Kt} (hn : ∀ pc, Sd T 1 (QT T Q 0 0) 0 0 pc (nx pc)) : Sd T 1 (QT T Q 0 0) 0 0 0 (bX5_step_0 Q nx) := x_al_n C dX5_step_0 rfl (gf_X5_97 C dX5_step_1 (x_if_eq C (hn 21) dX5_step_4 (by decide) (x_al_n C dX5_step_7 rfl (gf_X5_37 C dX5_step_8 (x_if_eq C (hn 23) dX5_step_11 (by decide) (x_al_n C dX5_step_14 rfl (x_cV C CR mX5_isStillBound ⟨co_X5_isStillBound, init_X5, md_X5_isStillBound, by decide, by decide⟩ (ci := 5) (TX := TX5) (N := 18) rfl (by decide) ml_X5_100 im_X5_isStillBound se_X5_isStillBound dX5_step_15 (x_if_ne C (hn 23) dX5_step_18 (by decide) (hn 21)))))))))
set_option maxRecDepth 20000 in
theorem oX5_step_21 {T : Ct} {Q : Option Value → MM → Prop} (C : Cx T cX5_step 1 RX5 0 0) (CR : CxR T 1 21) (hr : T.2.2.2.2.2.2.2.2.1.sig.returnType = (some .int)) (hnm : T.2.2.2.2.2.2.2.2.1.name = "step") {nx : Nat → Kt} (hn : ∀ pc, Sd T 1 (QT T Q 0 0) 0 0 pc (nx pc)) : Sd T 1 (QT T Q 0 0) 0 0 21 (bX5_step_21 Q nx) := x_ic C dX5_step_21 (by decide) (x_rI C hr dX5_step_22)
set_option maxRecDepth 20000 in
theorem oX5_step_23 {T : Ct} {Q : Option Value → MM → Prop} (C : Cx T cX5_step 1 RX5 0 0) (CR : CxR T 1 21) (hr : T.2.2.2.2.2.2.2.2.1.sig.returnType = (some .int)) (hnm : T.2.2.2.2.2.2.2.2.1.name = "step") {nx : Nat → Kt} (hn : ∀ pc, Sd T 1 (QT T Q 0 0) 0 0 pc (nx pc)) : Sd T 1 (QT T Q 0 0) 0 0 23 (bX5_step_23 Q nx) := x_al_n C dX5_step_23 rfl (gf_X5_37 C dX5_step_24 (x_if_ne C (hn 36) dX5_step_27 (by decide) (x_al_n C dX5_step_30 rfl (x_cV C CR mX5_bind ⟨co_X5_bind, init_X5, md_X5_bind, by decide, by decide⟩ (ci := 5) (TX := TX5) (N := 18) rfl (by decide) ml_X5_104 im_X5_bind se_X5_bind dX5_step_31 (x_ic C dX5_step_34 (by decide) (x_rI C hr dX5_step_35))))))
set_option maxRecDepth 20000 in
theorem oX5_step_36 {T : Ct} {Q : Option Value → MM → Prop} (C : Cx T cX5_step 1 RX5 0 0) (CR : CxR T 1 21) (hr : T.2.2.2.2.2.2.2.2.1.sig.returnType = (some .int)) (hnm : T.2.2.2.2.2.2.2.2.1.name = "step") {nx : Nat → Kt} (hn : ∀ pc, Sd T 1 (QT T Q 0 0) 0 0 pc (nx pc)) : Sd T 1 (QT T Q 0 0) 0 0 36 (bX5_step_36 Q nx) := x_al_n C dX5_step_36 rfl (gf_X5_37 C dX5_step_37 (x_ic C dX5_step_40 (by decide) (x_ic_ne C (hn 67) dX5_step_41 (by decide) (x_al_n C dX5_step_44 rfl (x_dup C dX5_step_45 (gf_X5_94 C dX5_step_46 (x_ic C dX5_step_49 (by decide) (x_isub C dX5_step_50 (pf_X5_94 C dX5_step_51 (x_al_n C dX5_step_54 rfl (gf_X5_94 C dX5_step_55 (x_if_le C (hn 65) dX5_step_58 (by decide) (x_ic C dX5_step_61 (by decide) (x_goto C (hn 66) dX5_step_62 (by decide)))))))))))))))
set_option maxRecDepth 20000 in
theorem oX5_step_65 {T : Ct} {Q : Option Value → MM → Prop} (C : Cx T cX5_step 1 RX5 0 0) (CR : CxR T 1 21) (hr : T.2.2.2.2.2.2.2.2.1.sig.returnType = (some .int)) (hnm : T.2.2.2.2.2.2.2.2.1.name = "step") {nx : Nat → Kt} (hn : ∀ pc, Sd T 1 (QT T Q 0 0) 0 0 pc (nx pc)) : Sd T 1 (QT T Q 0 0) 0 0 65 (bX5_step_65 Q nx) := x_ic C dX5_step_65 (by decide) (hn 66)
set_option maxRecDepth 20000 in
theorem oX5_step_66 {T : Ct} {Q : Option Value → MM → Prop} (C : Cx T cX5_step 1 RX5 0 0) (CR : CxR T 1 21) (hr : T.2.2.2.2.2.2.2.2.1.sig.returnType = (some .int)) (hnm : T.2.2.2.2.2.2.2.2.1.name = "step") {nx : Nat → Kt} (hn : ∀ pc, Sd T 1 (QT T Q 0 0) 0 0 pc (nx pc)) : Sd T 1 (QT T Q 0 0) 0 0 66 (bX5_step_66 Q nx) := x_rI C hr dX5_step_66
set_option maxRecDepth 20000 in
theorem oX5_step_67 {T : Ct} {Q : Option Value → MM → Prop} (C : Cx T cX5_step 1 RX5 0 0) (CR : CxR T 1 21) (hr : T.2.2.2.2.2.2.2.2.1.sig.returnType = (some .int)) (hnm : T.2.2.2.2.2.2.2.2.1.name = "step") {nx : Nat → Kt} (hn : ∀ pc, Sd T 1 (QT T Q 0 0) 0 0 pc (nx pc)) : Sd T 1 (QT T Q 0 0) 0 0 67 (bX5_step_67 Q nx) := x_al_n C dX5_step_67 rfl (gf_X5_18 C dX5_step_68 (x_bp C dX5_step_71 (by decide) (x_cV C CR mX6_has ⟨co_X6_has, init_X6, md_X6_has, by decide, by decide⟩ (ci := 6) (TX := TX6) (N := 5) rfl (by decide) ml_X5_62 im_X6_has se_X6_has dX5_step_73 (x_if_ne C (hn 81) dX5_step_76 (by decide) (x_ic C dX5_step_79 (by decide) (x_rI C hr dX5_step_80))))))
set_option maxRecDepth 20000 in
theorem oX5_step_81 {T : Ct} {Q : Option Value → MM → Prop} (C : Cx T cX5_step 1 RX5 0 0) (CR : CxR T 1 21) (hr : T.2.2.2.2.2.2.2.2.1.sig.returnType = (some .int)) (hnm : T.2.2.2.2.2.2.2.2.1.name = "step") {nx : Nat → Kt} (hn : ∀ pc, Sd T 1 (QT T Q 0 0) 0 0 pc (nx pc)) : Sd T 1 (QT T Q 0 0) 0 0 81 (bX5_step_81 Q nx) := x_al_n C dX5_step_81 rfl (gf_X5_37 C dX5_step_82 (x_ic C dX5_step_85 (by decide) (x_ic_ne C (hn 91) dX5_step_86 (by decide) (x_ic C dX5_step_89 (by decide) (x_rI C hr dX5_step_90)))))
set_option maxRecDepth 20000 in
theorem oX5_step_91 {T : Ct} {Q : Option Value → MM → Prop} (C : Cx T cX5_step 1 RX5 0 0) (CR : CxR T 1 21) (hr : T.2.2.2.2.2.2.2.2.1.sig.returnType = (some .int)) (hnm : T.2.2.2.2.2.2.2.2.1.name = "step") {nx : Nat → Kt} (hn : ∀ pc, Sd T 1 (QT T Q 0 0) 0 0 pc (nx pc)) : Sd T 1 (QT T Q 0 0) 0 0 91 (bX5_step_91 Q nx) := x_al_n C dX5_step_91 rfl (gf_X5_18 C dX5_step_92 (x_bp C dX5_step_95 (by decide) (x_cV C CR mX6_has ⟨co_X6_has, init_X6, md_X6_has, by decide, by decide⟩ (ci := 6) (TX := TX6) (N := 5) rfl (by decide) ml_X5_62 im_X6_has se_X6_has dX5_step_97 (x_if_eq C (hn 107) dX5_step_100 (by decide) (x_ic C dX5_step_103 (by decide) (x_goto C (hn 108) dX5_step_104 (by decide)))))))
set_option maxRecDepth 20000 in
theorem oX5_step_107 {T : Ct} {Q : Option Value → MM → Prop} (C : Cx T cX5_step 1 RX5 0 0) (CR : CxR T 1 21) (hr : T.2.2.2.2.2.2.2.2.1.sig.returnType = (some .int)) (hnm : T.2.2.2.2.2.2.2.2.1.name = "step") {nx : Nat → Kt} (hn : ∀ pc, Sd T 1 (QT T Q 0 0) 0 0 pc (nx pc)) : Sd T 1 (QT T Q 0 0) 0 0 107 (bX5_step_107 Q nx) := x_ic C dX5_step_107 (by decide) (hn 108)
set_option maxRecDepth 20000 in
theorem oX5_step_108 {T : Ct} {Q : Option Value → MM → Prop} (C : Cx T cX5_step 1 RX5 0 0) (CR : CxR T 1 21) (hr : T.2.2.2.2.2.2.2.2.1.sig.returnType = (some .int)) (hnm : T.2.2.2.2.2.2.2.2.1.name = "step") {nx : Nat → Kt} (hn : ∀ pc, Sd T 1 (QT T Q 0 0) 0 0 pc (nx pc)) : Sd T 1 (QT T Q 0 0) 0 0 108 (bX5_step_108 Q nx) := x_rI C hr dX5_step_108
set_option maxRecDepth 20000 in
theorem mX5_step (l : Launch) (D : va_G) (cA : Nat → ClassId) (base : Nat) : Mc l D cA base yX5_step cX5_step 1 (some .int) rX5_step wX5_step := mc_of (by decide +kernel) kX5_step (fun T Q C CR hr hnm nx hn => bse_ok _ (List.forall_mem_cons.mpr ⟨oX5_step_0 C CR hr hnm hn, List.forall_mem_cons.mpr ⟨oX5_step_21 C CR hr hnm hn, List.forall_mem_cons.mpr ⟨oX5_step_23 C CR hr hnm hn, List.forall_mem_cons.mpr ⟨oX5_step_36 C CR hr hnm hn, List.forall_mem_cons.mpr ⟨oX5_step_65 C CR hr hnm hn, List.forall_mem_cons.mpr ⟨oX5_step_66 C CR hr hnm hn, List.forall_mem_cons.mpr ⟨oX5_step_67 C CR hr hnm hn, List.forall_mem_cons.mpr ⟨oX5_step_81 C CR hr hnm hn, List.forall_mem_cons.mpr ⟨oX5_step_91 C CR hr hnm hn, List.forall_mem_cons.mpr ⟨oX5_step_107 C CR hr hnm hn, List.forall_mem_cons.mpr ⟨oX5_step_108 C CR hr hnm hn, fun _ h => nomatch h⟩⟩⟩⟩⟩⟩⟩⟩⟩⟩⟩))
theorem dX5_mustTell_0 : decode cX5_mustTell 0 = .ok (.aload_n 0, 1) := by decide +kernel
theorem dX5_mustTell_1 : decode cX5_mustTell 1 = .ok (.invokevirtual 107, 3) := by decide +kernel
theorem dX5_mustTell_4 : decode cX5_mustTell 4 = .ok (.ifCond .eq 25, 3) := by decide +kernel
theorem dX5_mustTell_7 : decode cX5_mustTell 7 = .ok (.aload_n 0, 1) := by decide +kernel
theorem dX5_mustTell_8 : decode cX5_mustTell 8 = .ok (.getfield 12, 3) := by decide +kernel
theorem dX5_mustTell_11 : decode cX5_mustTell 11 = .ok (.iconst 1, 1) := by decide +kernel
theorem dX5_mustTell_12 : decode cX5_mustTell 12 = .ok (.invokevirtual 62, 3) := by decide +kernel
theorem dX5_mustTell_15 : decode cX5_mustTell 15 = .ok (.ifCond .ne 16, 3) := by decide +kernel
theorem dX5_mustTell_18 : decode cX5_mustTell 18 = .ok (.aload_n 0, 1) := by decide +kernel
theorem dX5_mustTell_19 : decode cX5_mustTell 19 = .ok (.getfield 18, 3) := by decide +kernel
theorem dX5_mustTell_22 : decode cX5_mustTell 22 = .ok (.iconst 1, 1) := by decide +kernel
theorem dX5_mustTell_23 : decode cX5_mustTell 23 = .ok (.invokevirtual 62, 3) := by decide +kernel
theorem dX5_mustTell_26 : decode cX5_mustTell 26 = .ok (.ifCond .ne 5, 3) := by decide +kernel
theorem dX5_mustTell_29 : decode cX5_mustTell 29 = .ok (.iconst 0, 1) := by decide +kernel
theorem dX5_mustTell_30 : decode cX5_mustTell 30 = .ok (.ireturn, 1) := by decide +kernel
theorem dX5_mustTell_31 : decode cX5_mustTell 31 = .ok (.aload_n 0, 1) := by decide +kernel
theorem dX5_mustTell_32 : decode cX5_mustTell 32 = .ok (.getfield 69, 3) := by decide +kernel
theorem dX5_mustTell_35 : decode cX5_mustTell 35 = .ok (.ifCond .ne 25, 3) := by decide +kernel
theorem dX5_mustTell_38 : decode cX5_mustTell 38 = .ok (.aload_n 0, 1) := by decide +kernel
theorem dX5_mustTell_39 : decode cX5_mustTell 39 = .ok (.getfield 31, 3) := by decide +kernel
theorem dX5_mustTell_42 : decode cX5_mustTell 42 = .ok (.iconst (-1), 1) := by decide +kernel
theorem dX5_mustTell_43 : decode cX5_mustTell 43 = .ok (.if_icmp .eq 17, 3) := by decide +kernel
theorem dX5_mustTell_46 : decode cX5_mustTell 46 = .ok (.aload_n 0, 1) := by decide +kernel
theorem dX5_mustTell_47 : decode cX5_mustTell 47 = .ok (.getfield 28, 3) := by decide +kernel
theorem dX5_mustTell_50 : decode cX5_mustTell 50 = .ok (.aload_n 0, 1) := by decide +kernel
theorem dX5_mustTell_51 : decode cX5_mustTell 51 = .ok (.getfield 12, 3) := by decide +kernel
theorem dX5_mustTell_54 : decode cX5_mustTell 54 = .ok (.invokevirtual 66, 3) := by decide +kernel
theorem dX5_mustTell_57 : decode cX5_mustTell 57 = .ok (.ifCond .ne 5, 3) := by decide +kernel
theorem dX5_mustTell_60 : decode cX5_mustTell 60 = .ok (.iconst 1, 1) := by decide +kernel
theorem dX5_mustTell_61 : decode cX5_mustTell 61 = .ok (.ireturn, 1) := by decide +kernel
theorem dX5_mustTell_62 : decode cX5_mustTell 62 = .ok (.aload_n 0, 1) := by decide +kernel
theorem dX5_mustTell_63 : decode cX5_mustTell 63 = .ok (.getfield 34, 3) := by decide +kernel
theorem dX5_mustTell_66 : decode cX5_mustTell 66 = .ok (.iconst 2, 1) := by decide +kernel
theorem dX5_mustTell_67 : decode cX5_mustTell 67 = .ok (.if_icmp .ne 18, 3) := by decide +kernel
theorem dX5_mustTell_70 : decode cX5_mustTell 70 = .ok (.aload_n 0, 1) := by decide +kernel
theorem dX5_mustTell_71 : decode cX5_mustTell 71 = .ok (.getfield 18, 3) := by decide +kernel
theorem dX5_mustTell_74 : decode cX5_mustTell 74 = .ok (.iconst 2, 1) := by decide +kernel
theorem dX5_mustTell_75 : decode cX5_mustTell 75 = .ok (.invokevirtual 62, 3) := by decide +kernel
theorem dX5_mustTell_78 : decode cX5_mustTell 78 = .ok (.ifCond .ne 7, 3) := by decide +kernel
theorem dX5_mustTell_81 : decode cX5_mustTell 81 = .ok (.iconst 1, 1) := by decide +kernel
theorem dX5_mustTell_82 : decode cX5_mustTell 82 = .ok (.goto 4, 3) := by decide +kernel
theorem dX5_mustTell_85 : decode cX5_mustTell 85 = .ok (.iconst 0, 1) := by decide +kernel
theorem dX5_mustTell_86 : decode cX5_mustTell 86 = .ok (.istore_n 2, 1) := by decide +kernel
theorem dX5_mustTell_87 : decode cX5_mustTell 87 = .ok (.iload_n 1, 1) := by decide +kernel
theorem dX5_mustTell_88 : decode cX5_mustTell 88 = .ok (.aload_n 0, 1) := by decide +kernel
theorem dX5_mustTell_89 : decode cX5_mustTell 89 = .ok (.getfield 31, 3) := by decide +kernel
theorem dX5_mustTell_92 : decode cX5_mustTell 92 = .ok (.isub, 1) := by decide +kernel
theorem dX5_mustTell_93 : decode cX5_mustTell 93 = .ok (.iload_n 2, 1) := by decide +kernel
theorem dX5_mustTell_94 : decode cX5_mustTell 94 = .ok (.ifCond .eq 8, 3) := by decide +kernel
theorem dX5_mustTell_97 : decode cX5_mustTell 97 = .ok (.bipush 30, 2) := by decide +kernel
theorem dX5_mustTell_99 : decode cX5_mustTell 99 = .ok (.goto 4, 3) := by decide +kernel
theorem dX5_mustTell_102 : decode cX5_mustTell 102 = .ok (.iconst 1, 1) := by decide +kernel
theorem dX5_mustTell_103 : decode cX5_mustTell 103 = .ok (.if_icmp .lt 7, 3) := by decide +kernel
theorem dX5_mustTell_106 : decode cX5_mustTell 106 = .ok (.iconst 1, 1) := by decide +kernel
theorem dX5_mustTell_107 : decode cX5_mustTell 107 = .ok (.goto 4, 3) := by decide +kernel
theorem dX5_mustTell_110 : decode cX5_mustTell 110 = .ok (.iconst 0, 1) := by decide +kernel
theorem dX5_mustTell_111 : decode cX5_mustTell 111 = .ok (.ireturn, 1) := by decide +kernel
noncomputable def bX5_mustTell_0 (Q : Option Value → MM → Prop) (nx : Nat → Kt) : Kt := ldA 0 (cV 0 5 wX5_isLit 0 0 0 0 (ifz (fun x => x = 0) (nx 29) (ldA 0 (gR 5 0 (cI 1 (cV 1 6 wX6_has 0 0 0 0 (ifz (fun x => x = 0) (ldA 0 (gR 5 1 (cI 1 (cV 1 6 wX6_has 0 0 0 0 (ifz (fun x => x = 0) (nx 29) (nx 31)))))) (nx 31))))))))
noncomputable def bX5_mustTell_29 (Q : Option Value → MM → Prop) (nx : Nat → Kt) : Kt := cI 0 (rZ Q)
noncomputable def bX5_mustTell_31 (Q : Option Value → MM → Prop) (nx : Nat → Kt) : Kt := ldA 0 (gI 5 13 (ifz (fun x => x = 0) (ldA 0 (gI 5 15 (cI (-1) (ifc (fun x y => x = y) (nx 60) (ldA 0 (gR 5 14 (ldA 0 (gR 5 0 (cV 1 6 wX6_isSame 0 0 0 0 (ifz (fun x => x = 0) (nx 60) (nx 62))))))))))) (nx 60)))
noncomputable def bX5_mustTell_60 (Q : Option Value → MM → Prop) (nx : Nat → Kt) : Kt := cI 1 (rZ Q)
noncomputable def bX5_mustTell_62 (Q : Option Value → MM → Prop) (nx : Nat → Kt) : Kt := ldA 0 (gI 5 3 (cI 2 (ifc (fun x y => x = y) (ldA 0 (gR 5 1 (cI 2 (cV 1 6 wX6_has 0 0 0 0 (ifz (fun x => x = 0) (cI 1 (nx 86)) (nx 85)))))) (nx 85))))
noncomputable def bX5_mustTell_85 (Q : Option Value → MM → Prop) (nx : Nat → Kt) : Kt := cI 0 (nx 86)
noncomputable def bX5_mustTell_86 (Q : Option Value → MM → Prop) (nx : Nat → Kt) : Kt := stI 2 (ldI 1 (ldA 0 (gI 5 15 (bop (fun x y => x - y) (ldI 2 (ifz (fun x => x = 0) (nx 102) (cI 30 (nx 103))))))))
noncomputable def bX5_mustTell_102 (Q : Option Value → MM → Prop) (nx : Nat → Kt) : Kt := cI 1 (nx 103)
noncomputable def bX5_mustTell_103 (Q : Option Value → MM → Prop) (nx : Nat → Kt) : Kt := ifc (fun x y => x < y) (nx 110) (cI 1 (nx 111))
noncomputable def bX5_mustTell_110 (Q : Option Value → MM → Prop) (nx : Nat → Kt) : Kt := cI 0 (nx 111)
noncomputable def bX5_mustTell_111 (Q : Option Value → MM → Prop) (nx : Nat → Kt) : Kt := rZ Q
noncomputable def kX5_mustTell (Q : Option Value → MM → Prop) (nx : Nat → Kt) : Nat → Kt := bse [(0, bX5_mustTell_0 Q nx), (29, bX5_mustTell_29 Q nx), (31, bX5_mustTell_31 Q nx), (60, bX5_mustTell_60 Q nx), (62, bX5_mustTell_62 Q nx), (85, bX5_mustTell_85 Q nx), (86, bX5_mustTell_86 Q nx), (102, bX5_mustTell_102 Q nx), (103, bX5_mustTell_103 Q nx), (110, bX5_mustTell_110 Q nx), (111, bX5_mustTell_111 Q nx)]
abbrev rX5_mustTell : Room := { frames := 2, cells := 0, slots := 0, locals := 42 }
noncomputable def wX5_mustTell : Mw := mw 3 kX5_mustTell
set_option maxRecDepth 20000 in
theorem oX5_mustTell_0 {T : Ct} {Q : Option Value → MM → Prop} (C : Cx T cX5_mustTell 3 RX5 0 0) (CR : CxR T 2 42) (hr : T.2.2.2.2.2.2.2.2.1.sig.returnType = (some .boolean)) (hnm : T.2.2.2.2.2.2.2.2.1.name = "mustTell") {nx : Nat → Kt} (hn : ∀ pc, Sd T 3 (QT T Q 0 0) 0 0 pc (nx pc)) : Sd T 3 (QT T Q 0 0) 0 0 0 (bX5_mustTell_0 Q nx) := x_al_n C dX5_mustTell_0 rfl (x_cV C CR mX5_isLit ⟨co_X5_isLit, init_X5, md_X5_isLit, by decide, by decide⟩ (ci := 5) (TX := TX5) (N := 18) rfl (by decide) ml_X5_107 im_X5_isLit se_X5_isLit dX5_mustTell_1 (x_if_eq C (hn 29) dX5_mustTell_4 (by decide) (x_al_n C dX5_mustTell_7 rfl (gf_X5_12 C dX5_mustTell_8 (x_ic C dX5_mustTell_11 (by decide) (x_cV C CR mX6_has ⟨co_X6_has, init_X6, md_X6_has, by decide, by decide⟩ (ci := 6) (TX := TX6) (N := 5) rfl (by decide) ml_X5_62 im_X6_has se_X6_has dX5_mustTell_12 (x_if_ne C (hn 31) dX5_mustTell_15 (by decide) (x_al_n C dX5_mustTell_18 rfl (gf_X5_18 C dX5_mustTell_19 (x_ic C dX5_mustTell_22 (by decide) (x_cV C CR mX6_has ⟨co_X6_has, init_X6, md_X6_has, by decide, by decide⟩ (ci := 6) (TX := TX6) (N := 5) rfl (by decide) ml_X5_62 im_X6_has se_X6_has dX5_mustTell_23 (x_if_ne C (hn 31) dX5_mustTell_26 (by decide) (hn 29)))))))))))))
set_option maxRecDepth 20000 in
theorem oX5_mustTell_29 {T : Ct} {Q : Option Value → MM → Prop} (C : Cx T cX5_mustTell 3 RX5 0 0) (CR : CxR T 2 42) (hr : T.2.2.2.2.2.2.2.2.1.sig.returnType = (some .boolean)) (hnm : T.2.2.2.2.2.2.2.2.1.name = "mustTell") {nx : Nat → Kt} (hn : ∀ pc, Sd T 3 (QT T Q 0 0) 0 0 pc (nx pc)) : Sd T 3 (QT T Q 0 0) 0 0 29 (bX5_mustTell_29 Q nx) := x_ic C dX5_mustTell_29 (by decide) (x_rZ C hr dX5_mustTell_30)
set_option maxRecDepth 20000 in
theorem oX5_mustTell_31 {T : Ct} {Q : Option Value → MM → Prop} (C : Cx T cX5_mustTell 3 RX5 0 0) (CR : CxR T 2 42) (hr : T.2.2.2.2.2.2.2.2.1.sig.returnType = (some .boolean)) (hnm : T.2.2.2.2.2.2.2.2.1.name = "mustTell") {nx : Nat → Kt} (hn : ∀ pc, Sd T 3 (QT T Q 0 0) 0 0 pc (nx pc)) : Sd T 3 (QT T Q 0 0) 0 0 31 (bX5_mustTell_31 Q nx) := x_al_n C dX5_mustTell_31 rfl (gf_X5_69 C dX5_mustTell_32 (x_if_ne C (hn 60) dX5_mustTell_35 (by decide) (x_al_n C dX5_mustTell_38 rfl (gf_X5_31 C dX5_mustTell_39 (x_ic C dX5_mustTell_42 (by decide) (x_ic_eq C (hn 60) dX5_mustTell_43 (by decide) (x_al_n C dX5_mustTell_46 rfl (gf_X5_28 C dX5_mustTell_47 (x_al_n C dX5_mustTell_50 rfl (gf_X5_12 C dX5_mustTell_51 (x_cV C CR mX6_isSame ⟨co_X6_isSame, init_X6, md_X6_isSame, by decide, by decide⟩ (ci := 6) (TX := TX6) (N := 5) rfl (by decide) ml_X5_66 im_X6_isSame se_X6_isSame dX5_mustTell_54 (x_if_ne C (hn 62) dX5_mustTell_57 (by decide) (hn 60)))))))))))))
set_option maxRecDepth 20000 in
theorem oX5_mustTell_60 {T : Ct} {Q : Option Value → MM → Prop} (C : Cx T cX5_mustTell 3 RX5 0 0) (CR : CxR T 2 42) (hr : T.2.2.2.2.2.2.2.2.1.sig.returnType = (some .boolean)) (hnm : T.2.2.2.2.2.2.2.2.1.name = "mustTell") {nx : Nat → Kt} (hn : ∀ pc, Sd T 3 (QT T Q 0 0) 0 0 pc (nx pc)) : Sd T 3 (QT T Q 0 0) 0 0 60 (bX5_mustTell_60 Q nx) := x_ic C dX5_mustTell_60 (by decide) (x_rZ C hr dX5_mustTell_61)
set_option maxRecDepth 20000 in
theorem oX5_mustTell_62 {T : Ct} {Q : Option Value → MM → Prop} (C : Cx T cX5_mustTell 3 RX5 0 0) (CR : CxR T 2 42) (hr : T.2.2.2.2.2.2.2.2.1.sig.returnType = (some .boolean)) (hnm : T.2.2.2.2.2.2.2.2.1.name = "mustTell") {nx : Nat → Kt} (hn : ∀ pc, Sd T 3 (QT T Q 0 0) 0 0 pc (nx pc)) : Sd T 3 (QT T Q 0 0) 0 0 62 (bX5_mustTell_62 Q nx) := x_al_n C dX5_mustTell_62 rfl (gf_X5_34 C dX5_mustTell_63 (x_ic C dX5_mustTell_66 (by decide) (x_ic_ne C (hn 85) dX5_mustTell_67 (by decide) (x_al_n C dX5_mustTell_70 rfl (gf_X5_18 C dX5_mustTell_71 (x_ic C dX5_mustTell_74 (by decide) (x_cV C CR mX6_has ⟨co_X6_has, init_X6, md_X6_has, by decide, by decide⟩ (ci := 6) (TX := TX6) (N := 5) rfl (by decide) ml_X5_62 im_X6_has se_X6_has dX5_mustTell_75 (x_if_ne C (hn 85) dX5_mustTell_78 (by decide) (x_ic C dX5_mustTell_81 (by decide) (x_goto C (hn 86) dX5_mustTell_82 (by decide)))))))))))
set_option maxRecDepth 20000 in
theorem oX5_mustTell_85 {T : Ct} {Q : Option Value → MM → Prop} (C : Cx T cX5_mustTell 3 RX5 0 0) (CR : CxR T 2 42) (hr : T.2.2.2.2.2.2.2.2.1.sig.returnType = (some .boolean)) (hnm : T.2.2.2.2.2.2.2.2.1.name = "mustTell") {nx : Nat → Kt} (hn : ∀ pc, Sd T 3 (QT T Q 0 0) 0 0 pc (nx pc)) : Sd T 3 (QT T Q 0 0) 0 0 85 (bX5_mustTell_85 Q nx) := x_ic C dX5_mustTell_85 (by decide) (hn 86)
set_option maxRecDepth 20000 in
theorem oX5_mustTell_86 {T : Ct} {Q : Option Value → MM → Prop} (C : Cx T cX5_mustTell 3 RX5 0 0) (CR : CxR T 2 42) (hr : T.2.2.2.2.2.2.2.2.1.sig.returnType = (some .boolean)) (hnm : T.2.2.2.2.2.2.2.2.1.name = "mustTell") {nx : Nat → Kt} (hn : ∀ pc, Sd T 3 (QT T Q 0 0) 0 0 pc (nx pc)) : Sd T 3 (QT T Q 0 0) 0 0 86 (bX5_mustTell_86 Q nx) := x_is_n C dX5_mustTell_86 rfl (by decide) (x_il_n C dX5_mustTell_87 rfl (x_al_n C dX5_mustTell_88 rfl (gf_X5_31 C dX5_mustTell_89 (x_isub C dX5_mustTell_92 (x_il_n C dX5_mustTell_93 rfl (x_if_eq C (hn 102) dX5_mustTell_94 (by decide) (x_bp C dX5_mustTell_97 (by decide) (x_goto C (hn 103) dX5_mustTell_99 (by decide)))))))))
set_option maxRecDepth 20000 in
theorem oX5_mustTell_102 {T : Ct} {Q : Option Value → MM → Prop} (C : Cx T cX5_mustTell 3 RX5 0 0) (CR : CxR T 2 42) (hr : T.2.2.2.2.2.2.2.2.1.sig.returnType = (some .boolean)) (hnm : T.2.2.2.2.2.2.2.2.1.name = "mustTell") {nx : Nat → Kt} (hn : ∀ pc, Sd T 3 (QT T Q 0 0) 0 0 pc (nx pc)) : Sd T 3 (QT T Q 0 0) 0 0 102 (bX5_mustTell_102 Q nx) := x_ic C dX5_mustTell_102 (by decide) (hn 103)
set_option maxRecDepth 20000 in
theorem oX5_mustTell_103 {T : Ct} {Q : Option Value → MM → Prop} (C : Cx T cX5_mustTell 3 RX5 0 0) (CR : CxR T 2 42) (hr : T.2.2.2.2.2.2.2.2.1.sig.returnType = (some .boolean)) (hnm : T.2.2.2.2.2.2.2.2.1.name = "mustTell") {nx : Nat → Kt} (hn : ∀ pc, Sd T 3 (QT T Q 0 0) 0 0 pc (nx pc)) : Sd T 3 (QT T Q 0 0) 0 0 103 (bX5_mustTell_103 Q nx) := x_ic_lt C (hn 110) dX5_mustTell_103 (by decide) (x_ic C dX5_mustTell_106 (by decide) (x_goto C (hn 111) dX5_mustTell_107 (by decide)))
set_option maxRecDepth 20000 in
theorem oX5_mustTell_110 {T : Ct} {Q : Option Value → MM → Prop} (C : Cx T cX5_mustTell 3 RX5 0 0) (CR : CxR T 2 42) (hr : T.2.2.2.2.2.2.2.2.1.sig.returnType = (some .boolean)) (hnm : T.2.2.2.2.2.2.2.2.1.name = "mustTell") {nx : Nat → Kt} (hn : ∀ pc, Sd T 3 (QT T Q 0 0) 0 0 pc (nx pc)) : Sd T 3 (QT T Q 0 0) 0 0 110 (bX5_mustTell_110 Q nx) := x_ic C dX5_mustTell_110 (by decide) (hn 111)
set_option maxRecDepth 20000 in
theorem oX5_mustTell_111 {T : Ct} {Q : Option Value → MM → Prop} (C : Cx T cX5_mustTell 3 RX5 0 0) (CR : CxR T 2 42) (hr : T.2.2.2.2.2.2.2.2.1.sig.returnType = (some .boolean)) (hnm : T.2.2.2.2.2.2.2.2.1.name = "mustTell") {nx : Nat → Kt} (hn : ∀ pc, Sd T 3 (QT T Q 0 0) 0 0 pc (nx pc)) : Sd T 3 (QT T Q 0 0) 0 0 111 (bX5_mustTell_111 Q nx) := x_rZ C hr dX5_mustTell_111
set_option maxRecDepth 20000 in
theorem mX5_mustTell (l : Launch) (D : va_G) (cA : Nat → ClassId) (base : Nat) : Mc l D cA base yX5_mustTell cX5_mustTell 3 (some .boolean) rX5_mustTell wX5_mustTell := mc_of (by decide +kernel) kX5_mustTell (fun T Q C CR hr hnm nx hn => bse_ok _ (List.forall_mem_cons.mpr ⟨oX5_mustTell_0 C CR hr hnm hn, List.forall_mem_cons.mpr ⟨oX5_mustTell_29 C CR hr hnm hn, List.forall_mem_cons.mpr ⟨oX5_mustTell_31 C CR hr hnm hn, List.forall_mem_cons.mpr ⟨oX5_mustTell_60 C CR hr hnm hn, List.forall_mem_cons.mpr ⟨oX5_mustTell_62 C CR hr hnm hn, List.forall_mem_cons.mpr ⟨oX5_mustTell_85 C CR hr hnm hn, List.forall_mem_cons.mpr ⟨oX5_mustTell_86 C CR hr hnm hn, List.forall_mem_cons.mpr ⟨oX5_mustTell_102 C CR hr hnm hn, List.forall_mem_cons.mpr ⟨oX5_mustTell_103 C CR hr hnm hn, List.forall_mem_cons.mpr ⟨oX5_mustTell_110 C CR hr hnm hn, List.forall_mem_cons.mpr ⟨oX5_mustTell_111 C CR hr hnm hn, fun _ h => nomatch h⟩⟩⟩⟩⟩⟩⟩⟩⟩⟩⟩))
theorem dX5_rememberTelling_0 : decode cX5_rememberTelling 0 = .ok (.aload_n 0, 1) := by decide +kernel
theorem dX5_rememberTelling_1 : decode cX5_rememberTelling 1 = .ok (.getfield 28, 3) := by decide +kernel
theorem dX5_rememberTelling_4 : decode cX5_rememberTelling 4 = .ok (.aload_n 0, 1) := by decide +kernel
theorem dX5_rememberTelling_5 : decode cX5_rememberTelling 5 = .ok (.getfield 12, 3) := by decide +kernel
theorem dX5_rememberTelling_8 : decode cX5_rememberTelling 8 = .ok (.invokevirtual 53, 3) := by decide +kernel
theorem dX5_rememberTelling_11 : decode cX5_rememberTelling 11 = .ok (.aload_n 0, 1) := by decide +kernel
theorem dX5_rememberTelling_12 : decode cX5_rememberTelling 12 = .ok (.iload_n 1, 1) := by decide +kernel
theorem dX5_rememberTelling_13 : decode cX5_rememberTelling 13 = .ok (.putfield 31, 3) := by decide +kernel
theorem dX5_rememberTelling_16 : decode cX5_rememberTelling 16 = .ok (.aload_n 0, 1) := by decide +kernel
theorem dX5_rememberTelling_17 : decode cX5_rememberTelling 17 = .ok (.iconst 0, 1) := by decide +kernel
theorem dX5_rememberTelling_18 : decode cX5_rememberTelling 18 = .ok (.putfield 69, 3) := by decide +kernel
theorem dX5_rememberTelling_21 : decode cX5_rememberTelling 21 = .ok (.aload_n 0, 1) := by decide +kernel
theorem dX5_rememberTelling_22 : decode cX5_rememberTelling 22 = .ok (.dup, 1) := by decide +kernel
theorem dX5_rememberTelling_23 : decode cX5_rememberTelling 23 = .ok (.getfield 110, 3) := by decide +kernel
theorem dX5_rememberTelling_26 : decode cX5_rememberTelling 26 = .ok (.iconst 1, 1) := by decide +kernel
theorem dX5_rememberTelling_27 : decode cX5_rememberTelling 27 = .ok (.iadd, 1) := by decide +kernel
theorem dX5_rememberTelling_28 : decode cX5_rememberTelling 28 = .ok (.putfield 110, 3) := by decide +kernel
theorem dX5_rememberTelling_31 : decode cX5_rememberTelling 31 = .ok (.return_, 1) := by decide +kernel
noncomputable def bX5_rememberTelling_0 (Q : Option Value → MM → Prop) (nx : Nat → Kt) : Kt := ldA 0 (gR 5 14 (ldA 0 (gR 5 0 (cV 1 6 wX6_copyFrom 0 0 0 0 (ldA 0 (ldI 1 (tI 5 15 (ldA 0 (cI 0 (tZ 5 13 (ldA 0 (du (gI 5 16 (cI 1 (bop (fun x y => x + y) (tI 5 16 (rV Q)))))))))))))))))
noncomputable def kX5_rememberTelling (Q : Option Value → MM → Prop) (nx : Nat → Kt) : Nat → Kt := bse [(0, bX5_rememberTelling_0 Q nx)]
abbrev rX5_rememberTelling : Room := { frames := 1, cells := 0, slots := 0, locals := 21 }
noncomputable def wX5_rememberTelling : Mw := mw 2 kX5_rememberTelling
set_option maxRecDepth 20000 in
theorem oX5_rememberTelling_0 {T : Ct} {Q : Option Value → MM → Prop} (C : Cx T cX5_rememberTelling 2 RX5 0 0) (CR : CxR T 1 21) (hr : T.2.2.2.2.2.2.2.2.1.sig.returnType = none) (hnm : T.2.2.2.2.2.2.2.2.1.name = "rememberTelling") {nx : Nat → Kt} (hn : ∀ pc, Sd T 2 (QT T Q 0 0) 0 0 pc (nx pc)) : Sd T 2 (QT T Q 0 0) 0 0 0 (bX5_rememberTelling_0 Q nx) := x_al_n C dX5_rememberTelling_0 rfl (gf_X5_28 C dX5_rememberTelling_1 (x_al_n C dX5_rememberTelling_4 rfl (gf_X5_12 C dX5_rememberTelling_5 (x_cV C CR mX6_copyFrom ⟨co_X6_copyFrom, init_X6, md_X6_copyFrom, by decide, by decide⟩ (ci := 6) (TX := TX6) (N := 5) rfl (by decide) ml_X5_53 im_X6_copyFrom se_X6_copyFrom dX5_rememberTelling_8 (x_al_n C dX5_rememberTelling_11 rfl (x_il_n C dX5_rememberTelling_12 rfl (pf_X5_31 C dX5_rememberTelling_13 (x_al_n C dX5_rememberTelling_16 rfl (x_ic C dX5_rememberTelling_17 (by decide) (pf_X5_69 C dX5_rememberTelling_18 (x_al_n C dX5_rememberTelling_21 rfl (x_dup C dX5_rememberTelling_22 (gf_X5_110 C dX5_rememberTelling_23 (x_ic C dX5_rememberTelling_26 (by decide) (x_iadd C dX5_rememberTelling_27 (pf_X5_110 C dX5_rememberTelling_28 (x_rV C hr dX5_rememberTelling_31)))))))))))))))))
set_option maxRecDepth 20000 in
theorem mX5_rememberTelling (l : Launch) (D : va_G) (cA : Nat → ClassId) (base : Nat) : Mc l D cA base yX5_rememberTelling cX5_rememberTelling 2 none rX5_rememberTelling wX5_rememberTelling := mc_of (by decide +kernel) kX5_rememberTelling (fun T Q C CR hr hnm nx hn => bse_ok _ (List.forall_mem_cons.mpr ⟨oX5_rememberTelling_0 C CR hr hnm hn, fun _ h => nomatch h⟩))
theorem dX5_gives_0 : decode cX5_gives 0 = .ok (.aload_n 0, 1) := by decide +kernel
theorem dX5_gives_1 : decode cX5_gives 1 = .ok (.getfield 37, 3) := by decide +kernel
theorem dX5_gives_4 : decode cX5_gives 4 = .ok (.iconst 4, 1) := by decide +kernel
theorem dX5_gives_5 : decode cX5_gives 5 = .ok (.if_icmp .ne 15, 3) := by decide +kernel
theorem dX5_gives_8 : decode cX5_gives 8 = .ok (.aload_n 0, 1) := by decide +kernel
theorem dX5_gives_9 : decode cX5_gives 9 = .ok (.getfield 25, 3) := by decide +kernel
theorem dX5_gives_12 : decode cX5_gives 12 = .ok (.iload_n 1, 1) := by decide +kernel
theorem dX5_gives_13 : decode cX5_gives 13 = .ok (.if_icmp .ne 7, 3) := by decide +kernel
theorem dX5_gives_16 : decode cX5_gives 16 = .ok (.iconst 1, 1) := by decide +kernel
theorem dX5_gives_17 : decode cX5_gives 17 = .ok (.goto 4, 3) := by decide +kernel
theorem dX5_gives_20 : decode cX5_gives 20 = .ok (.iconst 0, 1) := by decide +kernel
theorem dX5_gives_21 : decode cX5_gives 21 = .ok (.ireturn, 1) := by decide +kernel
noncomputable def bX5_gives_0 (Q : Option Value → MM → Prop) (nx : Nat → Kt) : Kt := ldA 0 (gI 5 5 (cI 4 (ifc (fun x y => x = y) (ldA 0 (gI 5 10 (ldI 1 (ifc (fun x y => x = y) (cI 1 (nx 21)) (nx 20))))) (nx 20))))
noncomputable def bX5_gives_20 (Q : Option Value → MM → Prop) (nx : Nat → Kt) : Kt := cI 0 (nx 21)
noncomputable def bX5_gives_21 (Q : Option Value → MM → Prop) (nx : Nat → Kt) : Kt := rZ Q
noncomputable def kX5_gives (Q : Option Value → MM → Prop) (nx : Nat → Kt) : Nat → Kt := bse [(0, bX5_gives_0 Q nx), (20, bX5_gives_20 Q nx), (21, bX5_gives_21 Q nx)]
abbrev rX5_gives : Room := { frames := 0, cells := 0, slots := 0, locals := 0 }
noncomputable def wX5_gives : Mw := mw 2 kX5_gives
set_option maxRecDepth 20000 in
theorem oX5_gives_0 {T : Ct} {Q : Option Value → MM → Prop} (C : Cx T cX5_gives 2 RX5 0 0) (CR : CxR T 0 0) (hr : T.2.2.2.2.2.2.2.2.1.sig.returnType = (some .boolean)) (hnm : T.2.2.2.2.2.2.2.2.1.name = "gives") {nx : Nat → Kt} (hn : ∀ pc, Sd T 2 (QT T Q 0 0) 0 0 pc (nx pc)) : Sd T 2 (QT T Q 0 0) 0 0 0 (bX5_gives_0 Q nx) := x_al_n C dX5_gives_0 rfl (gf_X5_37 C dX5_gives_1 (x_ic C dX5_gives_4 (by decide) (x_ic_ne C (hn 20) dX5_gives_5 (by decide) (x_al_n C dX5_gives_8 rfl (gf_X5_25 C dX5_gives_9 (x_il_n C dX5_gives_12 rfl (x_ic_ne C (hn 20) dX5_gives_13 (by decide) (x_ic C dX5_gives_16 (by decide) (x_goto C (hn 21) dX5_gives_17 (by decide))))))))))
set_option maxRecDepth 20000 in
theorem oX5_gives_20 {T : Ct} {Q : Option Value → MM → Prop} (C : Cx T cX5_gives 2 RX5 0 0) (CR : CxR T 0 0) (hr : T.2.2.2.2.2.2.2.2.1.sig.returnType = (some .boolean)) (hnm : T.2.2.2.2.2.2.2.2.1.name = "gives") {nx : Nat → Kt} (hn : ∀ pc, Sd T 2 (QT T Q 0 0) 0 0 pc (nx pc)) : Sd T 2 (QT T Q 0 0) 0 0 20 (bX5_gives_20 Q nx) := x_ic C dX5_gives_20 (by decide) (hn 21)
set_option maxRecDepth 20000 in
theorem oX5_gives_21 {T : Ct} {Q : Option Value → MM → Prop} (C : Cx T cX5_gives 2 RX5 0 0) (CR : CxR T 0 0) (hr : T.2.2.2.2.2.2.2.2.1.sig.returnType = (some .boolean)) (hnm : T.2.2.2.2.2.2.2.2.1.name = "gives") {nx : Nat → Kt} (hn : ∀ pc, Sd T 2 (QT T Q 0 0) 0 0 pc (nx pc)) : Sd T 2 (QT T Q 0 0) 0 0 21 (bX5_gives_21 Q nx) := x_rZ C hr dX5_gives_21
set_option maxRecDepth 20000 in
theorem mX5_gives (l : Launch) (D : va_G) (cA : Nat → ClassId) (base : Nat) : Mc l D cA base yX5_gives cX5_gives 2 (some .boolean) rX5_gives wX5_gives := mc_of (by decide +kernel) kX5_gives (fun T Q C CR hr hnm nx hn => bse_ok _ (List.forall_mem_cons.mpr ⟨oX5_gives_0 C CR hr hnm hn, List.forall_mem_cons.mpr ⟨oX5_gives_20 C CR hr hnm hn, List.forall_mem_cons.mpr ⟨oX5_gives_21 C CR hr hnm hn, fun _ h => nomatch h⟩⟩⟩))
theorem dX5_isAheadOf_0 : decode cX5_isAheadOf 0 = .ok (.iload_n 2, 1) := by decide +kernel
theorem dX5_isAheadOf_1 : decode cX5_isAheadOf 1 = .ok (.ifCond .eq 10, 3) := by decide +kernel
theorem dX5_isAheadOf_4 : decode cX5_isAheadOf 4 = .ok (.aload_n 0, 1) := by decide +kernel
theorem dX5_isAheadOf_5 : decode cX5_isAheadOf 5 = .ok (.getfield 12, 3) := by decide +kernel
theorem dX5_isAheadOf_8 : decode cX5_isAheadOf 8 = .ok (.goto 7, 3) := by decide +kernel
theorem dX5_isAheadOf_11 : decode cX5_isAheadOf 11 = .ok (.aload_n 0, 1) := by decide +kernel
theorem dX5_isAheadOf_12 : decode cX5_isAheadOf 12 = .ok (.getfield 18, 3) := by decide +kernel
theorem dX5_isAheadOf_15 : decode cX5_isAheadOf 15 = .ok (.astore_n 3, 1) := by decide +kernel
theorem dX5_isAheadOf_16 : decode cX5_isAheadOf 16 = .ok (.iload_n 2, 1) := by decide +kernel
theorem dX5_isAheadOf_17 : decode cX5_isAheadOf 17 = .ok (.ifCond .eq 10, 3) := by decide +kernel
theorem dX5_isAheadOf_20 : decode cX5_isAheadOf 20 = .ok (.aload_n 1, 1) := by decide +kernel
theorem dX5_isAheadOf_21 : decode cX5_isAheadOf 21 = .ok (.getfield 12, 3) := by decide +kernel
theorem dX5_isAheadOf_24 : decode cX5_isAheadOf 24 = .ok (.goto 7, 3) := by decide +kernel
theorem dX5_isAheadOf_27 : decode cX5_isAheadOf 27 = .ok (.aload_n 1, 1) := by decide +kernel
theorem dX5_isAheadOf_28 : decode cX5_isAheadOf 28 = .ok (.getfield 18, 3) := by decide +kernel
theorem dX5_isAheadOf_31 : decode cX5_isAheadOf 31 = .ok (.astore 4, 2) := by decide +kernel
theorem dX5_isAheadOf_33 : decode cX5_isAheadOf 33 = .ok (.aload_n 3, 1) := by decide +kernel
theorem dX5_isAheadOf_34 : decode cX5_isAheadOf 34 = .ok (.getfield 113, 3) := by decide +kernel
theorem dX5_isAheadOf_37 : decode cX5_isAheadOf 37 = .ok (.aload 4, 2) := by decide +kernel
theorem dX5_isAheadOf_39 : decode cX5_isAheadOf 39 = .ok (.getfield 113, 3) := by decide +kernel
theorem dX5_isAheadOf_42 : decode cX5_isAheadOf 42 = .ok (.if_icmp .eq 21, 3) := by decide +kernel
theorem dX5_isAheadOf_45 : decode cX5_isAheadOf 45 = .ok (.aload_n 3, 1) := by decide +kernel
theorem dX5_isAheadOf_46 : decode cX5_isAheadOf 46 = .ok (.getfield 113, 3) := by decide +kernel
theorem dX5_isAheadOf_49 : decode cX5_isAheadOf 49 = .ok (.aload 4, 2) := by decide +kernel
theorem dX5_isAheadOf_51 : decode cX5_isAheadOf 51 = .ok (.getfield 113, 3) := by decide +kernel
theorem dX5_isAheadOf_54 : decode cX5_isAheadOf 54 = .ok (.if_icmp .ge 7, 3) := by decide +kernel
theorem dX5_isAheadOf_57 : decode cX5_isAheadOf 57 = .ok (.iconst 1, 1) := by decide +kernel
theorem dX5_isAheadOf_58 : decode cX5_isAheadOf 58 = .ok (.goto 4, 3) := by decide +kernel
theorem dX5_isAheadOf_61 : decode cX5_isAheadOf 61 = .ok (.iconst 0, 1) := by decide +kernel
theorem dX5_isAheadOf_62 : decode cX5_isAheadOf 62 = .ok (.ireturn, 1) := by decide +kernel
theorem dX5_isAheadOf_63 : decode cX5_isAheadOf 63 = .ok (.aload_n 3, 1) := by decide +kernel
theorem dX5_isAheadOf_64 : decode cX5_isAheadOf 64 = .ok (.getfield 116, 3) := by decide +kernel
theorem dX5_isAheadOf_67 : decode cX5_isAheadOf 67 = .ok (.aload 4, 2) := by decide +kernel
theorem dX5_isAheadOf_69 : decode cX5_isAheadOf 69 = .ok (.getfield 116, 3) := by decide +kernel
theorem dX5_isAheadOf_72 : decode cX5_isAheadOf 72 = .ok (.if_icmp .eq 21, 3) := by decide +kernel
theorem dX5_isAheadOf_75 : decode cX5_isAheadOf 75 = .ok (.aload_n 3, 1) := by decide +kernel
theorem dX5_isAheadOf_76 : decode cX5_isAheadOf 76 = .ok (.getfield 116, 3) := by decide +kernel
theorem dX5_isAheadOf_79 : decode cX5_isAheadOf 79 = .ok (.aload 4, 2) := by decide +kernel
theorem dX5_isAheadOf_81 : decode cX5_isAheadOf 81 = .ok (.getfield 116, 3) := by decide +kernel
theorem dX5_isAheadOf_84 : decode cX5_isAheadOf 84 = .ok (.if_icmp .ge 7, 3) := by decide +kernel
theorem dX5_isAheadOf_87 : decode cX5_isAheadOf 87 = .ok (.iconst 1, 1) := by decide +kernel
theorem dX5_isAheadOf_88 : decode cX5_isAheadOf 88 = .ok (.goto 4, 3) := by decide +kernel
theorem dX5_isAheadOf_91 : decode cX5_isAheadOf 91 = .ok (.iconst 0, 1) := by decide +kernel
theorem dX5_isAheadOf_92 : decode cX5_isAheadOf 92 = .ok (.ireturn, 1) := by decide +kernel
theorem dX5_isAheadOf_93 : decode cX5_isAheadOf 93 = .ok (.aload_n 0, 1) := by decide +kernel
theorem dX5_isAheadOf_94 : decode cX5_isAheadOf 94 = .ok (.getfield 12, 3) := by decide +kernel
theorem dX5_isAheadOf_97 : decode cX5_isAheadOf 97 = .ok (.getfield 116, 3) := by decide +kernel
theorem dX5_isAheadOf_100 : decode cX5_isAheadOf 100 = .ok (.aload_n 1, 1) := by decide +kernel
theorem dX5_isAheadOf_101 : decode cX5_isAheadOf 101 = .ok (.getfield 12, 3) := by decide +kernel
theorem dX5_isAheadOf_104 : decode cX5_isAheadOf 104 = .ok (.getfield 116, 3) := by decide +kernel
theorem dX5_isAheadOf_107 : decode cX5_isAheadOf 107 = .ok (.if_icmp .ge 7, 3) := by decide +kernel
theorem dX5_isAheadOf_110 : decode cX5_isAheadOf 110 = .ok (.iconst 1, 1) := by decide +kernel
theorem dX5_isAheadOf_111 : decode cX5_isAheadOf 111 = .ok (.goto 4, 3) := by decide +kernel
theorem dX5_isAheadOf_114 : decode cX5_isAheadOf 114 = .ok (.iconst 0, 1) := by decide +kernel
theorem dX5_isAheadOf_115 : decode cX5_isAheadOf 115 = .ok (.ireturn, 1) := by decide +kernel
noncomputable def bX5_isAheadOf_0 (Q : Option Value → MM → Prop) (nx : Nat → Kt) : Kt := ldI 2 (ifz (fun x => x = 0) (nx 11) (ldA 0 (gR 5 0 (nx 15))))
noncomputable def bX5_isAheadOf_11 (Q : Option Value → MM → Prop) (nx : Nat → Kt) : Kt := ldA 0 (gR 5 1 (nx 15))
noncomputable def bX5_isAheadOf_15 (Q : Option Value → MM → Prop) (nx : Nat → Kt) : Kt := stA 3 (ldI 2 (ifz (fun x => x = 0) (nx 27) (ldA 1 (gR 5 0 (nx 31)))))
noncomputable def bX5_isAheadOf_27 (Q : Option Value → MM → Prop) (nx : Nat → Kt) : Kt := ldA 1 (gR 5 1 (nx 31))
noncomputable def bX5_isAheadOf_31 (Q : Option Value → MM → Prop) (nx : Nat → Kt) : Kt := stA 4 (ldA 3 (gI 6 2 (ldA 4 (gI 6 2 (ifc (fun x y => x = y) (nx 63) (ldA 3 (gI 6 2 (ldA 4 (gI 6 2 (ifc (fun x y => y ≤ x) (nx 61) (cI 1 (nx 62))))))))))))
noncomputable def bX5_isAheadOf_61 (Q : Option Value → MM → Prop) (nx : Nat → Kt) : Kt := cI 0 (nx 62)
noncomputable def bX5_isAheadOf_62 (Q : Option Value → MM → Prop) (nx : Nat → Kt) : Kt := rZ Q
noncomputable def bX5_isAheadOf_63 (Q : Option Value → MM → Prop) (nx : Nat → Kt) : Kt := ldA 3 (gI 6 3 (ldA 4 (gI 6 3 (ifc (fun x y => x = y) (nx 93) (ldA 3 (gI 6 3 (ldA 4 (gI 6 3 (ifc (fun x y => y ≤ x) (nx 91) (cI 1 (nx 92)))))))))))
noncomputable def bX5_isAheadOf_91 (Q : Option Value → MM → Prop) (nx : Nat → Kt) : Kt := cI 0 (nx 92)
noncomputable def bX5_isAheadOf_92 (Q : Option Value → MM → Prop) (nx : Nat → Kt) : Kt := rZ Q
noncomputable def bX5_isAheadOf_93 (Q : Option Value → MM → Prop) (nx : Nat → Kt) : Kt := ldA 0 (gR 5 0 (gI 6 3 (ldA 1 (gR 5 0 (gI 6 3 (ifc (fun x y => y ≤ x) (nx 114) (cI 1 (nx 115))))))))
noncomputable def bX5_isAheadOf_114 (Q : Option Value → MM → Prop) (nx : Nat → Kt) : Kt := cI 0 (nx 115)
noncomputable def bX5_isAheadOf_115 (Q : Option Value → MM → Prop) (nx : Nat → Kt) : Kt := rZ Q
noncomputable def kX5_isAheadOf (Q : Option Value → MM → Prop) (nx : Nat → Kt) : Nat → Kt := bse [(0, bX5_isAheadOf_0 Q nx), (11, bX5_isAheadOf_11 Q nx), (15, bX5_isAheadOf_15 Q nx), (27, bX5_isAheadOf_27 Q nx), (31, bX5_isAheadOf_31 Q nx), (61, bX5_isAheadOf_61 Q nx), (62, bX5_isAheadOf_62 Q nx), (63, bX5_isAheadOf_63 Q nx), (91, bX5_isAheadOf_91 Q nx), (92, bX5_isAheadOf_92 Q nx), (93, bX5_isAheadOf_93 Q nx), (114, bX5_isAheadOf_114 Q nx), (115, bX5_isAheadOf_115 Q nx)]
abbrev rX5_isAheadOf : Room := { frames := 0, cells := 0, slots := 0, locals := 0 }
noncomputable def wX5_isAheadOf : Mw := mw 5 kX5_isAheadOf
set_option maxRecDepth 20000 in
theorem oX5_isAheadOf_0 {T : Ct} {Q : Option Value → MM → Prop} (C : Cx T cX5_isAheadOf 5 RX5 0 0) (CR : CxR T 0 0) (hr : T.2.2.2.2.2.2.2.2.1.sig.returnType = (some .boolean)) (hnm : T.2.2.2.2.2.2.2.2.1.name = "isAheadOf") {nx : Nat → Kt} (hn : ∀ pc, Sd T 5 (QT T Q 0 0) 0 0 pc (nx pc)) : Sd T 5 (QT T Q 0 0) 0 0 0 (bX5_isAheadOf_0 Q nx) := x_il_n C dX5_isAheadOf_0 rfl (x_if_eq C (hn 11) dX5_isAheadOf_1 (by decide) (x_al_n C dX5_isAheadOf_4 rfl (gf_X5_12 C dX5_isAheadOf_5 (x_goto C (hn 15) dX5_isAheadOf_8 (by decide)))))
set_option maxRecDepth 20000 in
theorem oX5_isAheadOf_11 {T : Ct} {Q : Option Value → MM → Prop} (C : Cx T cX5_isAheadOf 5 RX5 0 0) (CR : CxR T 0 0) (hr : T.2.2.2.2.2.2.2.2.1.sig.returnType = (some .boolean)) (hnm : T.2.2.2.2.2.2.2.2.1.name = "isAheadOf") {nx : Nat → Kt} (hn : ∀ pc, Sd T 5 (QT T Q 0 0) 0 0 pc (nx pc)) : Sd T 5 (QT T Q 0 0) 0 0 11 (bX5_isAheadOf_11 Q nx) := x_al_n C dX5_isAheadOf_11 rfl (gf_X5_18 C dX5_isAheadOf_12 (hn 15))
set_option maxRecDepth 20000 in
theorem oX5_isAheadOf_15 {T : Ct} {Q : Option Value → MM → Prop} (C : Cx T cX5_isAheadOf 5 RX5 0 0) (CR : CxR T 0 0) (hr : T.2.2.2.2.2.2.2.2.1.sig.returnType = (some .boolean)) (hnm : T.2.2.2.2.2.2.2.2.1.name = "isAheadOf") {nx : Nat → Kt} (hn : ∀ pc, Sd T 5 (QT T Q 0 0) 0 0 pc (nx pc)) : Sd T 5 (QT T Q 0 0) 0 0 15 (bX5_isAheadOf_15 Q nx) := x_as_n C dX5_isAheadOf_15 rfl (by decide) (x_il_n C dX5_isAheadOf_16 rfl (x_if_eq C (hn 27) dX5_isAheadOf_17 (by decide) (x_al_n C dX5_isAheadOf_20 rfl (gf_X5_12 C dX5_isAheadOf_21 (x_goto C (hn 31) dX5_isAheadOf_24 (by decide))))))
set_option maxRecDepth 20000 in
theorem oX5_isAheadOf_27 {T : Ct} {Q : Option Value → MM → Prop} (C : Cx T cX5_isAheadOf 5 RX5 0 0) (CR : CxR T 0 0) (hr : T.2.2.2.2.2.2.2.2.1.sig.returnType = (some .boolean)) (hnm : T.2.2.2.2.2.2.2.2.1.name = "isAheadOf") {nx : Nat → Kt} (hn : ∀ pc, Sd T 5 (QT T Q 0 0) 0 0 pc (nx pc)) : Sd T 5 (QT T Q 0 0) 0 0 27 (bX5_isAheadOf_27 Q nx) := x_al_n C dX5_isAheadOf_27 rfl (gf_X5_18 C dX5_isAheadOf_28 (hn 31))
set_option maxRecDepth 20000 in
theorem oX5_isAheadOf_31 {T : Ct} {Q : Option Value → MM → Prop} (C : Cx T cX5_isAheadOf 5 RX5 0 0) (CR : CxR T 0 0) (hr : T.2.2.2.2.2.2.2.2.1.sig.returnType = (some .boolean)) (hnm : T.2.2.2.2.2.2.2.2.1.name = "isAheadOf") {nx : Nat → Kt} (hn : ∀ pc, Sd T 5 (QT T Q 0 0) 0 0 pc (nx pc)) : Sd T 5 (QT T Q 0 0) 0 0 31 (bX5_isAheadOf_31 Q nx) := x_as C dX5_isAheadOf_31 (by decide) (x_al_n C dX5_isAheadOf_33 rfl (gf_X5_113 C dX5_isAheadOf_34 (x_al C dX5_isAheadOf_37 (gf_X5_113 C dX5_isAheadOf_39 (x_ic_eq C (hn 63) dX5_isAheadOf_42 (by decide) (x_al_n C dX5_isAheadOf_45 rfl (gf_X5_113 C dX5_isAheadOf_46 (x_al C dX5_isAheadOf_49 (gf_X5_113 C dX5_isAheadOf_51 (x_ic_ge C (hn 61) dX5_isAheadOf_54 (by decide) (x_ic C dX5_isAheadOf_57 (by decide) (x_goto C (hn 62) dX5_isAheadOf_58 (by decide)))))))))))))
set_option maxRecDepth 20000 in
theorem oX5_isAheadOf_61 {T : Ct} {Q : Option Value → MM → Prop} (C : Cx T cX5_isAheadOf 5 RX5 0 0) (CR : CxR T 0 0) (hr : T.2.2.2.2.2.2.2.2.1.sig.returnType = (some .boolean)) (hnm : T.2.2.2.2.2.2.2.2.1.name = "isAheadOf") {nx : Nat → Kt} (hn : ∀ pc, Sd T 5 (QT T Q 0 0) 0 0 pc (nx pc)) : Sd T 5 (QT T Q 0 0) 0 0 61 (bX5_isAheadOf_61 Q nx) := x_ic C dX5_isAheadOf_61 (by decide) (hn 62)
set_option maxRecDepth 20000 in
theorem oX5_isAheadOf_62 {T : Ct} {Q : Option Value → MM → Prop} (C : Cx T cX5_isAheadOf 5 RX5 0 0) (CR : CxR T 0 0) (hr : T.2.2.2.2.2.2.2.2.1.sig.returnType = (some .boolean)) (hnm : T.2.2.2.2.2.2.2.2.1.name = "isAheadOf") {nx : Nat → Kt} (hn : ∀ pc, Sd T 5 (QT T Q 0 0) 0 0 pc (nx pc)) : Sd T 5 (QT T Q 0 0) 0 0 62 (bX5_isAheadOf_62 Q nx) := x_rZ C hr dX5_isAheadOf_62
set_option maxRecDepth 20000 in
theorem oX5_isAheadOf_63 {T : Ct} {Q : Option Value → MM → Prop} (C : Cx T cX5_isAheadOf 5 RX5 0 0) (CR : CxR T 0 0) (hr : T.2.2.2.2.2.2.2.2.1.sig.returnType = (some .boolean)) (hnm : T.2.2.2.2.2.2.2.2.1.name = "isAheadOf") {nx : Nat → Kt} (hn : ∀ pc, Sd T 5 (QT T Q 0 0) 0 0 pc (nx pc)) : Sd T 5 (QT T Q 0 0) 0 0 63 (bX5_isAheadOf_63 Q nx) := x_al_n C dX5_isAheadOf_63 rfl (gf_X5_116 C dX5_isAheadOf_64 (x_al C dX5_isAheadOf_67 (gf_X5_116 C dX5_isAheadOf_69 (x_ic_eq C (hn 93) dX5_isAheadOf_72 (by decide) (x_al_n C dX5_isAheadOf_75 rfl (gf_X5_116 C dX5_isAheadOf_76 (x_al C dX5_isAheadOf_79 (gf_X5_116 C dX5_isAheadOf_81 (x_ic_ge C (hn 91) dX5_isAheadOf_84 (by decide) (x_ic C dX5_isAheadOf_87 (by decide) (x_goto C (hn 92) dX5_isAheadOf_88 (by decide))))))))))))
set_option maxRecDepth 20000 in
theorem oX5_isAheadOf_91 {T : Ct} {Q : Option Value → MM → Prop} (C : Cx T cX5_isAheadOf 5 RX5 0 0) (CR : CxR T 0 0) (hr : T.2.2.2.2.2.2.2.2.1.sig.returnType = (some .boolean)) (hnm : T.2.2.2.2.2.2.2.2.1.name = "isAheadOf") {nx : Nat → Kt} (hn : ∀ pc, Sd T 5 (QT T Q 0 0) 0 0 pc (nx pc)) : Sd T 5 (QT T Q 0 0) 0 0 91 (bX5_isAheadOf_91 Q nx) := x_ic C dX5_isAheadOf_91 (by decide) (hn 92)
set_option maxRecDepth 20000 in
theorem oX5_isAheadOf_92 {T : Ct} {Q : Option Value → MM → Prop} (C : Cx T cX5_isAheadOf 5 RX5 0 0) (CR : CxR T 0 0) (hr : T.2.2.2.2.2.2.2.2.1.sig.returnType = (some .boolean)) (hnm : T.2.2.2.2.2.2.2.2.1.name = "isAheadOf") {nx : Nat → Kt} (hn : ∀ pc, Sd T 5 (QT T Q 0 0) 0 0 pc (nx pc)) : Sd T 5 (QT T Q 0 0) 0 0 92 (bX5_isAheadOf_92 Q nx) := x_rZ C hr dX5_isAheadOf_92
set_option maxRecDepth 20000 in
theorem oX5_isAheadOf_93 {T : Ct} {Q : Option Value → MM → Prop} (C : Cx T cX5_isAheadOf 5 RX5 0 0) (CR : CxR T 0 0) (hr : T.2.2.2.2.2.2.2.2.1.sig.returnType = (some .boolean)) (hnm : T.2.2.2.2.2.2.2.2.1.name = "isAheadOf") {nx : Nat → Kt} (hn : ∀ pc, Sd T 5 (QT T Q 0 0) 0 0 pc (nx pc)) : Sd T 5 (QT T Q 0 0) 0 0 93 (bX5_isAheadOf_93 Q nx) := x_al_n C dX5_isAheadOf_93 rfl (gf_X5_12 C dX5_isAheadOf_94 (gf_X5_116 C dX5_isAheadOf_97 (x_al_n C dX5_isAheadOf_100 rfl (gf_X5_12 C dX5_isAheadOf_101 (gf_X5_116 C dX5_isAheadOf_104 (x_ic_ge C (hn 114) dX5_isAheadOf_107 (by decide) (x_ic C dX5_isAheadOf_110 (by decide) (x_goto C (hn 115) dX5_isAheadOf_111 (by decide)))))))))
set_option maxRecDepth 20000 in
theorem oX5_isAheadOf_114 {T : Ct} {Q : Option Value → MM → Prop} (C : Cx T cX5_isAheadOf 5 RX5 0 0) (CR : CxR T 0 0) (hr : T.2.2.2.2.2.2.2.2.1.sig.returnType = (some .boolean)) (hnm : T.2.2.2.2.2.2.2.2.1.name = "isAheadOf") {nx : Nat → Kt} (hn : ∀ pc, Sd T 5 (QT T Q 0 0) 0 0 pc (nx pc)) : Sd T 5 (QT T Q 0 0) 0 0 114 (bX5_isAheadOf_114 Q nx) := x_ic C dX5_isAheadOf_114 (by decide) (hn 115)
set_option maxRecDepth 20000 in
theorem oX5_isAheadOf_115 {T : Ct} {Q : Option Value → MM → Prop} (C : Cx T cX5_isAheadOf 5 RX5 0 0) (CR : CxR T 0 0) (hr : T.2.2.2.2.2.2.2.2.1.sig.returnType = (some .boolean)) (hnm : T.2.2.2.2.2.2.2.2.1.name = "isAheadOf") {nx : Nat → Kt} (hn : ∀ pc, Sd T 5 (QT T Q 0 0) 0 0 pc (nx pc)) : Sd T 5 (QT T Q 0 0) 0 0 115 (bX5_isAheadOf_115 Q nx) := x_rZ C hr dX5_isAheadOf_115
set_option maxRecDepth 20000 in
theorem mX5_isAheadOf (l : Launch) (D : va_G) (cA : Nat → ClassId) (base : Nat) : Mc l D cA base yX5_isAheadOf cX5_isAheadOf 5 (some .boolean) rX5_isAheadOf wX5_isAheadOf := mc_of (by decide +kernel) kX5_isAheadOf (fun T Q C CR hr hnm nx hn => bse_ok _ (List.forall_mem_cons.mpr ⟨oX5_isAheadOf_0 C CR hr hnm hn, List.forall_mem_cons.mpr ⟨oX5_isAheadOf_11 C CR hr hnm hn, List.forall_mem_cons.mpr ⟨oX5_isAheadOf_15 C CR hr hnm hn, List.forall_mem_cons.mpr ⟨oX5_isAheadOf_27 C CR hr hnm hn, List.forall_mem_cons.mpr ⟨oX5_isAheadOf_31 C CR hr hnm hn, List.forall_mem_cons.mpr ⟨oX5_isAheadOf_61 C CR hr hnm hn, List.forall_mem_cons.mpr ⟨oX5_isAheadOf_62 C CR hr hnm hn, List.forall_mem_cons.mpr ⟨oX5_isAheadOf_63 C CR hr hnm hn, List.forall_mem_cons.mpr ⟨oX5_isAheadOf_91 C CR hr hnm hn, List.forall_mem_cons.mpr ⟨oX5_isAheadOf_92 C CR hr hnm hn, List.forall_mem_cons.mpr ⟨oX5_isAheadOf_93 C CR hr hnm hn, List.forall_mem_cons.mpr ⟨oX5_isAheadOf_114 C CR hr hnm hn, List.forall_mem_cons.mpr ⟨oX5_isAheadOf_115 C CR hr hnm hn, fun _ h => nomatch h⟩⟩⟩⟩⟩⟩⟩⟩⟩⟩⟩⟩⟩))
