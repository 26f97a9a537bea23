theorem dX7_init_0 : decode cX7_init 0 = .ok (.aload_n 0, 1) := by decide +kernel
theorem dX7_init_1 : decode cX7_init 1 = .ok (.invokespecial 3, 3) := by decide +kernel
theorem dX7_init_4 : decode cX7_init 4 = .ok (.aload_n 0, 1) := by decide +kernel
theorem dX7_init_5 : decode cX7_init 5 = .ok (.iconst 2, 1) := by decide +kernel
theorem dX7_init_6 : decode cX7_init 6 = .ok (.anewarray 9, 3) := by decide +kernel
theorem dX7_init_9 : decode cX7_init 9 = .ok (.putfield 11, 3) := by decide +kernel
theorem dX7_init_12 : decode cX7_init 12 = .ok (.aload_n 0, 1) := by decide +kernel
theorem dX7_init_13 : decode cX7_init 13 = .ok (.bipush 8, 2) := by decide +kernel
theorem dX7_init_15 : decode cX7_init 15 = .ok (.anewarray 15, 3) := by decide +kernel
theorem dX7_init_18 : decode cX7_init 18 = .ok (.putfield 17, 3) := by decide +kernel
theorem dX7_init_21 : decode cX7_init 21 = .ok (.aload_n 0, 1) := by decide +kernel
theorem dX7_init_22 : decode cX7_init 22 = .ok (.getfield 11, 3) := by decide +kernel
theorem dX7_init_25 : decode cX7_init 25 = .ok (.iconst 0, 1) := by decide +kernel
theorem dX7_init_26 : decode cX7_init 26 = .ok (.new 9, 3) := by decide +kernel
theorem dX7_init_29 : decode cX7_init 29 = .ok (.dup, 1) := by decide +kernel
theorem dX7_init_30 : decode cX7_init 30 = .ok (.bipush 10, 2) := by decide +kernel
theorem dX7_init_32 : decode cX7_init 32 = .ok (.invokespecial 21, 3) := by decide +kernel
theorem dX7_init_35 : decode cX7_init 35 = .ok (.aastore, 1) := by decide +kernel
theorem dX7_init_36 : decode cX7_init 36 = .ok (.aload_n 0, 1) := by decide +kernel
theorem dX7_init_37 : decode cX7_init 37 = .ok (.getfield 11, 3) := by decide +kernel
theorem dX7_init_40 : decode cX7_init 40 = .ok (.iconst 1, 1) := by decide +kernel
theorem dX7_init_41 : decode cX7_init 41 = .ok (.new 9, 3) := by decide +kernel
theorem dX7_init_44 : decode cX7_init 44 = .ok (.dup, 1) := by decide +kernel
theorem dX7_init_45 : decode cX7_init 45 = .ok (.bipush 20, 2) := by decide +kernel
theorem dX7_init_47 : decode cX7_init 47 = .ok (.invokespecial 21, 3) := by decide +kernel
theorem dX7_init_50 : decode cX7_init 50 = .ok (.aastore, 1) := by decide +kernel
theorem dX7_init_51 : decode cX7_init 51 = .ok (.iconst 0, 1) := by decide +kernel
theorem dX7_init_52 : decode cX7_init 52 = .ok (.istore_n 1, 1) := by decide +kernel
theorem dX7_init_53 : decode cX7_init 53 = .ok (.iload_n 1, 1) := by decide +kernel
theorem dX7_init_54 : decode cX7_init 54 = .ok (.bipush 8, 2) := by decide +kernel
theorem dX7_init_56 : decode cX7_init 56 = .ok (.if_icmp .ge 22, 3) := by decide +kernel
theorem dX7_init_59 : decode cX7_init 59 = .ok (.aload_n 0, 1) := by decide +kernel
theorem dX7_init_60 : decode cX7_init 60 = .ok (.getfield 17, 3) := by decide +kernel
theorem dX7_init_63 : decode cX7_init 63 = .ok (.iload_n 1, 1) := by decide +kernel
theorem dX7_init_64 : decode cX7_init 64 = .ok (.new 15, 3) := by decide +kernel
theorem dX7_init_67 : decode cX7_init 67 = .ok (.dup, 1) := by decide +kernel
theorem dX7_init_68 : decode cX7_init 68 = .ok (.invokespecial 24, 3) := by decide +kernel
theorem dX7_init_71 : decode cX7_init 71 = .ok (.aastore, 1) := by decide +kernel
theorem dX7_init_72 : decode cX7_init 72 = .ok (.iinc 1 1, 3) := by decide +kernel
theorem dX7_init_75 : decode cX7_init 75 = .ok (.goto (-22), 3) := by decide +kernel
theorem dX7_init_78 : decode cX7_init 78 = .ok (.return_, 1) := by decide +kernel
noncomputable def bX7_init_0 (Q : Option Value → MM → Prop) (nx : Nat → Kt) : Kt := ldA 0 (oI (ldA 0 (cI 2 (nA 13 528 6148 (tF 7 0 (ldA 0 (cI 8 (nA 12 528 6148 (tF 7 1 (ldA 0 (gR 7 0 (cI 0 (nO 1 528 6148 (du (cI 10 (cC 1 wX1_init 34 472 528 6148 (sAR 1 (ldA 0 (gR 7 0 (cI 1 (nO 1 528 6148 (du (cI 20 (cC 1 wX1_init 34 472 528 6148 (sAR 1 (cI 0 (stI 1 (nx 53))))))))))))))))))))))))))))
noncomputable def bX7_init_53 (Q : Option Value → MM → Prop) (nx : Nat → Kt) : Kt := ldI 1 (cI 8 (ifc (fun x y => y ≤ x) (nx 78) (ldA 0 (gR 7 1 (ldI 1 (nO 0 528 6148 (du (cC 0 wX0_init 56 642 528 6148 (sAR 0 (inc 1 1 (nx 53)))))))))))
noncomputable def bX7_init_78 (Q : Option Value → MM → Prop) (nx : Nat → Kt) : Kt := rV Q
noncomputable def kX7_init (Q : Option Value → MM → Prop) (nx : Nat → Kt) : Nat → Kt := bse [(0, bX7_init_0 Q nx), (53, bX7_init_53 Q nx), (78, bX7_init_78 Q nx)]
abbrev rX7_init : Room := { frames := 5, cells := 528, slots := 6148, locals := 102 }
noncomputable def wX7_init : Mw := mw 2 kX7_init
set_option maxRecDepth 20000 in
theorem oX7_init_0 {T : Ct} {Q : Option Value → MM → Prop} (C : Cx T cX7_init 2 RX7 528 6148) (CR : CxR T 5 102) (hr : T.2.2.2.2.2.2.2.2.1.sig.returnType = none) (hnm : T.2.2.2.2.2.2.2.2.1.name = "<init>") {nx : Nat → Kt} (hn : ∀ pc, Sd T 2 (QT T Q 528 6148) 528 6148 pc (nx pc)) : Sd T 2 (QT T Q 528 6148) 528 6148 0 (bX7_init_0 Q nx) := x_al_n C dX7_init_0 rfl (x_oI C CR (by decide) (by decide) ml_X7_3 im_obj co_obj dX7_init_1 (x_al_n C dX7_init_4 rfl (x_ic C dX7_init_5 (by decide) (af_X7_9 C dX7_init_6 (pf_X7_11 C hnm dX7_init_9 (x_al_n C dX7_init_12 rfl (x_bp C dX7_init_13 (by decide) (af_X7_15 C dX7_init_15 (pf_X7_17 C hnm dX7_init_18 (x_al_n C dX7_init_21 rfl (gf_X7_11 C dX7_init_22 (x_ic C dX7_init_25 (by decide) (nf_X7_9 C dX7_init_26 (x_dup C dX7_init_29 (x_bp C dX7_init_30 (by decide) (x_cC C CR mX1_init ⟨co_X1_init, init_X1, md_X1_init, by decide, by decide⟩ ml_X7_21 im_X1_init rfl dX7_init_32 (x_aast C (ci := 1) (t0 := 3) (TX := TX1) (N := 9) (by decide) rfl (fun _ => rfl) dX7_init_35 (x_al_n C dX7_init_36 rfl (gf_X7_11 C dX7_init_37 (x_ic C dX7_init_40 (by decide) (nf_X7_9 C dX7_init_41 (x_dup C dX7_init_44 (x_bp C dX7_init_45 (by decide) (x_cC C CR mX1_init ⟨co_X1_init, init_X1, md_X1_init, by decide, by decide⟩ ml_X7_21 im_X1_init rfl dX7_init_47 (x_aast C (ci := 1) (t0 := 3) (TX := TX1) (N := 9) (by decide) rfl (fun _ => rfl) dX7_init_50 (x_ic C dX7_init_51 (by decide) (x_is_n C dX7_init_52 rfl (by decide) (hn 53))))))))))))))))))))))))))))
set_option maxRecDepth 20000 in
theorem oX7_init_53 {T : Ct} {Q : Option Value → MM → Prop} (C : Cx T cX7_init 2 RX7 528 6148) (CR : CxR T 5 102) (hr : T.2.2.2.2.2.2.2.2.1.sig.returnType = none) (hnm : T.2.2.2.2.2.2.2.2.1.name = "<init>") {nx : Nat → Kt} (hn : ∀ pc, Sd T 2 (QT T Q 528 6148) 528 6148 pc (nx pc)) : Sd T 2 (QT T Q 528 6148) 528 6148 53 (bX7_init_53 Q nx) := x_il_n C dX7_init_53 rfl (x_bp C dX7_init_54 (by decide) (x_ic_ge C (hn 78) dX7_init_56 (by decide) (x_al_n C dX7_init_59 rfl (gf_X7_17 C dX7_init_60 (x_il_n C dX7_init_63 rfl (nf_X7_15 C dX7_init_64 (x_dup C dX7_init_67 (x_cC C CR mX0_init ⟨co_X0_init, init_X0, md_X0_init, by decide, by decide⟩ ml_X7_24 im_X0_init rfl dX7_init_68 (x_aast C (ci := 0) (t0 := 2) (TX := TX0) (N := 5) (by decide) rfl (fun _ => rfl) dX7_init_71 (x_inc C dX7_init_72 (by decide) (by decide) (x_goto C (hn 53) dX7_init_75 (by decide))))))))))))
set_option maxRecDepth 20000 in
theorem oX7_init_78 {T : Ct} {Q : Option Value → MM → Prop} (C : Cx T cX7_init 2 RX7 528 6148) (CR : CxR T 5 102) (hr : T.2.2.2.2.2.2.2.2.1.sig.returnType = none) (hnm : T.2.2.2.2.2.2.2.2.1.name = "<init>") {nx : Nat → Kt} (hn : ∀ pc, Sd T 2 (QT T Q 528 6148) 528 6148 pc (nx pc)) : Sd T 2 (QT T Q 528 6148) 528 6148 78 (bX7_init_78 Q nx) := x_rV C hr dX7_init_78
set_option maxRecDepth 20000 in
theorem mX7_init (l : Launch) (D : va_G) (cA : Nat → ClassId) (base : Nat) : Mc l D cA base yX7_init cX7_init 2 none rX7_init wX7_init := mc_of (by decide +kernel) kX7_init (fun T Q C CR hr hnm nx hn => bse_ok _ (List.forall_mem_cons.mpr ⟨oX7_init_0 C CR hr hnm hn, List.forall_mem_cons.mpr ⟨oX7_init_53 C CR hr hnm hn, List.forall_mem_cons.mpr ⟨oX7_init_78 C CR hr hnm hn, fun _ h => nomatch h⟩⟩⟩))
theorem dX7_isEnd_0 : decode cX7_isEnd 0 = .ok (.iload_n 0, 1) := by decide +kernel
theorem dX7_isEnd_1 : decode cX7_isEnd 1 = .ok (.ifCond .lt 12, 3) := by decide +kernel
theorem dX7_isEnd_4 : decode cX7_isEnd 4 = .ok (.iload_n 0, 1) := by decide +kernel
theorem dX7_isEnd_5 : decode cX7_isEnd 5 = .ok (.iconst 2, 1) := by decide +kernel
theorem dX7_isEnd_6 : decode cX7_isEnd 6 = .ok (.if_icmp .ge 7, 3) := by decide +kernel
theorem dX7_isEnd_9 : decode cX7_isEnd 9 = .ok (.iconst 1, 1) := by decide +kernel
theorem dX7_isEnd_10 : decode cX7_isEnd 10 = .ok (.goto 4, 3) := by decide +kernel
theorem dX7_isEnd_13 : decode cX7_isEnd 13 = .ok (.iconst 0, 1) := by decide +kernel
theorem dX7_isEnd_14 : decode cX7_isEnd 14 = .ok (.ireturn, 1) := by decide +kernel
noncomputable def bX7_isEnd_0 (Q : Option Value → MM → Prop) (nx : Nat → Kt) : Kt := ldI 0 (ifz (fun x => x < 0) (nx 13) (ldI 0 (cI 2 (ifc (fun x y => y ≤ x) (nx 13) (cI 1 (nx 14))))))
noncomputable def bX7_isEnd_13 (Q : Option Value → MM → Prop) (nx : Nat → Kt) : Kt := cI 0 (nx 14)
noncomputable def bX7_isEnd_14 (Q : Option Value → MM → Prop) (nx : Nat → Kt) : Kt := rZ Q
noncomputable def kX7_isEnd (Q : Option Value → MM → Prop) (nx : Nat → Kt) : Nat → Kt := bse [(0, bX7_isEnd_0 Q nx), (13, bX7_isEnd_13 Q nx), (14, bX7_isEnd_14 Q nx)]
abbrev rX7_isEnd : Room := { frames := 0, cells := 0, slots := 0, locals := 0 }
noncomputable def wX7_isEnd : Mw := mw 1 kX7_isEnd
set_option maxRecDepth 20000 in
theorem oX7_isEnd_0 {T : Ct} {Q : Option Value → MM → Prop} (C : Cx T cX7_isEnd 1 RX7 0 0) (CR : CxR T 0 0) (hr : T.2.2.2.2.2.2.2.2.1.sig.returnType = (some .boolean)) (hnm : T.2.2.2.2.2.2.2.2.1.name = "isEnd") {nx : Nat → Kt} (hn : ∀ pc, Sd T 1 (QT T Q 0 0) 0 0 pc (nx pc)) : Sd T 1 (QT T Q 0 0) 0 0 0 (bX7_isEnd_0 Q nx) := x_il_n C dX7_isEnd_0 rfl (x_if_lt C (hn 13) dX7_isEnd_1 (by decide) (x_il_n C dX7_isEnd_4 rfl (x_ic C dX7_isEnd_5 (by decide) (x_ic_ge C (hn 13) dX7_isEnd_6 (by decide) (x_ic C dX7_isEnd_9 (by decide) (x_goto C (hn 14) dX7_isEnd_10 (by decide)))))))
set_option maxRecDepth 20000 in
theorem oX7_isEnd_13 {T : Ct} {Q : Option Value → MM → Prop} (C : Cx T cX7_isEnd 1 RX7 0 0) (CR : CxR T 0 0) (hr : T.2.2.2.2.2.2.2.2.1.sig.returnType = (some .boolean)) (hnm : T.2.2.2.2.2.2.2.2.1.name = "isEnd") {nx : Nat → Kt} (hn : ∀ pc, Sd T 1 (QT T Q 0 0) 0 0 pc (nx pc)) : Sd T 1 (QT T Q 0 0) 0 0 13 (bX7_isEnd_13 Q nx) := x_ic C dX7_isEnd_13 (by decide) (hn 14)
set_option maxRecDepth 20000 in
theorem oX7_isEnd_14 {T : Ct} {Q : Option Value → MM → Prop} (C : Cx T cX7_isEnd 1 RX7 0 0) (CR : CxR T 0 0) (hr : T.2.2.2.2.2.2.2.2.1.sig.returnType = (some .boolean)) (hnm : T.2.2.2.2.2.2.2.2.1.name = "isEnd") {nx : Nat → Kt} (hn : ∀ pc, Sd T 1 (QT T Q 0 0) 0 0 pc (nx pc)) : Sd T 1 (QT T Q 0 0) 0 0 14 (bX7_isEnd_14 Q nx) := x_rZ C hr dX7_isEnd_14
set_option maxRecDepth 20000 in
theorem mX7_isEnd (l : Launch) (D : va_G) (cA : Nat → ClassId) (base : Nat) : Mc l D cA base yX7_isEnd cX7_isEnd 1 (some .boolean) rX7_isEnd wX7_isEnd := mc_of (by decide +kernel) kX7_isEnd (fun T Q C CR hr hnm nx hn => bse_ok _ (List.forall_mem_cons.mpr ⟨oX7_isEnd_0 C CR hr hnm hn, List.forall_mem_cons.mpr ⟨oX7_isEnd_13 C CR hr hnm hn, List.forall_mem_cons.mpr ⟨oX7_isEnd_14 C CR hr hnm hn, fun _ h => nomatch h⟩⟩⟩))
theorem dX7_isPort_0 : decode cX7_isPort 0 = .ok (.iload_n 0, 1) := by decide +kernel
theorem dX7_isPort_1 : decode cX7_isPort 1 = .ok (.ifCond .lt 13, 3) := by decide +kernel
theorem dX7_isPort_4 : decode cX7_isPort 4 = .ok (.iload_n 0, 1) := by decide +kernel
theorem dX7_isPort_5 : decode cX7_isPort 5 = .ok (.bipush 8, 2) := by decide +kernel
theorem dX7_isPort_7 : decode cX7_isPort 7 = .ok (.if_icmp .ge 7, 3) := by decide +kernel
theorem dX7_isPort_10 : decode cX7_isPort 10 = .ok (.iconst 1, 1) := by decide +kernel
theorem dX7_isPort_11 : decode cX7_isPort 11 = .ok (.goto 4, 3) := by decide +kernel
theorem dX7_isPort_14 : decode cX7_isPort 14 = .ok (.iconst 0, 1) := by decide +kernel
theorem dX7_isPort_15 : decode cX7_isPort 15 = .ok (.ireturn, 1) := by decide +kernel
noncomputable def bX7_isPort_0 (Q : Option Value → MM → Prop) (nx : Nat → Kt) : Kt := ldI 0 (ifz (fun x => x < 0) (nx 14) (ldI 0 (cI 8 (ifc (fun x y => y ≤ x) (nx 14) (cI 1 (nx 15))))))
noncomputable def bX7_isPort_14 (Q : Option Value → MM → Prop) (nx : Nat → Kt) : Kt := cI 0 (nx 15)
noncomputable def bX7_isPort_15 (Q : Option Value → MM → Prop) (nx : Nat → Kt) : Kt := rZ Q
noncomputable def kX7_isPort (Q : Option Value → MM → Prop) (nx : Nat → Kt) : Nat → Kt := bse [(0, bX7_isPort_0 Q nx), (14, bX7_isPort_14 Q nx), (15, bX7_isPort_15 Q nx)]
abbrev rX7_isPort : Room := { frames := 0, cells := 0, slots := 0, locals := 0 }
noncomputable def wX7_isPort : Mw := mw 1 kX7_isPort
set_option maxRecDepth 20000 in
theorem oX7_isPort_0 {T : Ct} {Q : Option Value → MM → Prop} (C : Cx T cX7_isPort 1 RX7 0 0) (CR : CxR T 0 0) (hr : T.2.2.2.2.2.2.2.2.1.sig.returnType = (some .boolean)) (hnm : T.2.2.2.2.2.2.2.2.1.name = "isPort") {nx : Nat → Kt} (hn : ∀ pc, Sd T 1 (QT T Q 0 0) 0 0 pc (nx pc)) : Sd T 1 (QT T Q 0 0) 0 0 0 (bX7_isPort_0 Q nx) := x_il_n C dX7_isPort_0 rfl (x_if_lt C (hn 14) dX7_isPort_1 (by decide) (x_il_n C dX7_isPort_4 rfl (x_bp C dX7_isPort_5 (by decide) (x_ic_ge C (hn 14) dX7_isPort_7 (by decide) (x_ic C dX7_isPort_10 (by decide) (x_goto C (hn 15) dX7_isPort_11 (by decide)))))))
set_option maxRecDepth 20000 in
theorem oX7_isPort_14 {T : Ct} {Q : Option Value → MM → Prop} (C : Cx T cX7_isPort 1 RX7 0 0) (CR : CxR T 0 0) (hr : T.2.2.2.2.2.2.2.2.1.sig.returnType = (some .boolean)) (hnm : T.2.2.2.2.2.2.2.2.1.name = "isPort") {nx : Nat → Kt} (hn : ∀ pc, Sd T 1 (QT T Q 0 0) 0 0 pc (nx pc)) : Sd T 1 (QT T Q 0 0) 0 0 14 (bX7_isPort_14 Q nx) := x_ic C dX7_isPort_14 (by decide) (hn 15)
set_option maxRecDepth 20000 in
theorem oX7_isPort_15 {T : Ct} {Q : Option Value → MM → Prop} (C : Cx T cX7_isPort 1 RX7 0 0) (CR : CxR T 0 0) (hr : T.2.2.2.2.2.2.2.2.1.sig.returnType = (some .boolean)) (hnm : T.2.2.2.2.2.2.2.2.1.name = "isPort") {nx : Nat → Kt} (hn : ∀ pc, Sd T 1 (QT T Q 0 0) 0 0 pc (nx pc)) : Sd T 1 (QT T Q 0 0) 0 0 15 (bX7_isPort_15 Q nx) := x_rZ C hr dX7_isPort_15
set_option maxRecDepth 20000 in
theorem mX7_isPort (l : Launch) (D : va_G) (cA : Nat → ClassId) (base : Nat) : Mc l D cA base yX7_isPort cX7_isPort 1 (some .boolean) rX7_isPort wX7_isPort := mc_of (by decide +kernel) kX7_isPort (fun T Q C CR hr hnm nx hn => bse_ok _ (List.forall_mem_cons.mpr ⟨oX7_isPort_0 C CR hr hnm hn, List.forall_mem_cons.mpr ⟨oX7_isPort_14 C CR hr hnm hn, List.forall_mem_cons.mpr ⟨oX7_isPort_15 C CR hr hnm hn, fun _ h => nomatch h⟩⟩⟩))
theorem dX7_isCable_0 : decode cX7_isCable 0 = .ok (.iload_n 0, 1) := by decide +kernel
theorem dX7_isCable_1 : decode cX7_isCable 1 = .ok (.ifCond .lt 13, 3) := by decide +kernel
theorem dX7_isCable_4 : decode cX7_isCable 4 = .ok (.iload_n 0, 1) := by decide +kernel
theorem dX7_isCable_5 : decode cX7_isCable 5 = .ok (.bipush 8, 2) := by decide +kernel
theorem dX7_isCable_7 : decode cX7_isCable 7 = .ok (.if_icmp .ge 7, 3) := by decide +kernel
theorem dX7_isCable_10 : decode cX7_isCable 10 = .ok (.iconst 1, 1) := by decide +kernel
theorem dX7_isCable_11 : decode cX7_isCable 11 = .ok (.goto 4, 3) := by decide +kernel
theorem dX7_isCable_14 : decode cX7_isCable 14 = .ok (.iconst 0, 1) := by decide +kernel
theorem dX7_isCable_15 : decode cX7_isCable 15 = .ok (.ireturn, 1) := by decide +kernel
noncomputable def bX7_isCable_0 (Q : Option Value → MM → Prop) (nx : Nat → Kt) : Kt := ldI 0 (ifz (fun x => x < 0) (nx 14) (ldI 0 (cI 8 (ifc (fun x y => y ≤ x) (nx 14) (cI 1 (nx 15))))))
noncomputable def bX7_isCable_14 (Q : Option Value → MM → Prop) (nx : Nat → Kt) : Kt := cI 0 (nx 15)
noncomputable def bX7_isCable_15 (Q : Option Value → MM → Prop) (nx : Nat → Kt) : Kt := rZ Q
noncomputable def kX7_isCable (Q : Option Value → MM → Prop) (nx : Nat → Kt) : Nat → Kt := bse [(0, bX7_isCable_0 Q nx), (14, bX7_isCable_14 Q nx), (15, bX7_isCable_15 Q nx)]
abbrev rX7_isCable : Room := { frames := 0, cells := 0, slots := 0, locals := 0 }
noncomputable def wX7_isCable : Mw := mw 1 kX7_isCable
set_option maxRecDepth 20000 in
theorem oX7_isCable_0 {T : Ct} {Q : Option Value → MM → Prop} (C : Cx T cX7_isCable 1 RX7 0 0) (CR : CxR T 0 0) (hr : T.2.2.2.2.2.2.2.2.1.sig.returnType = (some .boolean)) (hnm : T.2.2.2.2.2.2.2.2.1.name = "isCable") {nx : Nat → Kt} (hn : ∀ pc, Sd T 1 (QT T Q 0 0) 0 0 pc (nx pc)) : Sd T 1 (QT T Q 0 0) 0 0 0 (bX7_isCable_0 Q nx) := x_il_n C dX7_isCable_0 rfl (x_if_lt C (hn 14) dX7_isCable_1 (by decide) (x_il_n C dX7_isCable_4 rfl (x_bp C dX7_isCable_5 (by decide) (x_ic_ge C (hn 14) dX7_isCable_7 (by decide) (x_ic C dX7_isCable_10 (by decide) (x_goto C (hn 15) dX7_isCable_11 (by decide)))))))
set_option maxRecDepth 20000 in
theorem oX7_isCable_14 {T : Ct} {Q : Option Value → MM → Prop} (C : Cx T cX7_isCable 1 RX7 0 0) (CR : CxR T 0 0) (hr : T.2.2.2.2.2.2.2.2.1.sig.returnType = (some .boolean)) (hnm : T.2.2.2.2.2.2.2.2.1.name = "isCable") {nx : Nat → Kt} (hn : ∀ pc, Sd T 1 (QT T Q 0 0) 0 0 pc (nx pc)) : Sd T 1 (QT T Q 0 0) 0 0 14 (bX7_isCable_14 Q nx) := x_ic C dX7_isCable_14 (by decide) (hn 15)
set_option maxRecDepth 20000 in
theorem oX7_isCable_15 {T : Ct} {Q : Option Value → MM → Prop} (C : Cx T cX7_isCable 1 RX7 0 0) (CR : CxR T 0 0) (hr : T.2.2.2.2.2.2.2.2.1.sig.returnType = (some .boolean)) (hnm : T.2.2.2.2.2.2.2.2.1.name = "isCable") {nx : Nat → Kt} (hn : ∀ pc, Sd T 1 (QT T Q 0 0) 0 0 pc (nx pc)) : Sd T 1 (QT T Q 0 0) 0 0 15 (bX7_isCable_15 Q nx) := x_rZ C hr dX7_isCable_15
set_option maxRecDepth 20000 in
theorem mX7_isCable (l : Launch) (D : va_G) (cA : Nat → ClassId) (base : Nat) : Mc l D cA base yX7_isCable cX7_isCable 1 (some .boolean) rX7_isCable wX7_isCable := mc_of (by decide +kernel) kX7_isCable (fun T Q C CR hr hnm nx hn => bse_ok _ (List.forall_mem_cons.mpr ⟨oX7_isCable_0 C CR hr hnm hn, List.forall_mem_cons.mpr ⟨oX7_isCable_14 C CR hr hnm hn, List.forall_mem_cons.mpr ⟨oX7_isCable_15 C CR hr hnm hn, fun _ h => nomatch h⟩⟩⟩))
theorem dX7_isWord_0 : decode cX7_isWord 0 = .ok (.iload_n 0, 1) := by decide +kernel
theorem dX7_isWord_1 : decode cX7_isWord 1 = .ok (.ifCond .lt 14, 3) := by decide +kernel
theorem dX7_isWord_4 : decode cX7_isWord 4 = .ok (.iload_n 0, 1) := by decide +kernel
theorem dX7_isWord_5 : decode cX7_isWord 5 = .ok (.ldc_w 284, 3) := by decide +kernel
theorem dX7_isWord_8 : decode cX7_isWord 8 = .ok (.if_icmp .gt 7, 3) := by decide +kernel
theorem dX7_isWord_11 : decode cX7_isWord 11 = .ok (.iconst 1, 1) := by decide +kernel
theorem dX7_isWord_12 : decode cX7_isWord 12 = .ok (.goto 4, 3) := by decide +kernel
theorem dX7_isWord_15 : decode cX7_isWord 15 = .ok (.iconst 0, 1) := by decide +kernel
theorem dX7_isWord_16 : decode cX7_isWord 16 = .ok (.ireturn, 1) := by decide +kernel
noncomputable def bX7_isWord_0 (Q : Option Value → MM → Prop) (nx : Nat → Kt) : Kt := ldI 0 (ifz (fun x => x < 0) (nx 15) (ldI 0 (cI 65535 (ifc (fun x y => y < x) (nx 15) (cI 1 (nx 16))))))
noncomputable def bX7_isWord_15 (Q : Option Value → MM → Prop) (nx : Nat → Kt) : Kt := cI 0 (nx 16)
noncomputable def bX7_isWord_16 (Q : Option Value → MM → Prop) (nx : Nat → Kt) : Kt := rZ Q
noncomputable def kX7_isWord (Q : Option Value → MM → Prop) (nx : Nat → Kt) : Nat → Kt := bse [(0, bX7_isWord_0 Q nx), (15, bX7_isWord_15 Q nx), (16, bX7_isWord_16 Q nx)]
abbrev rX7_isWord : Room := { frames := 0, cells := 0, slots := 0, locals := 0 }
noncomputable def wX7_isWord : Mw := mw 1 kX7_isWord
set_option maxRecDepth 20000 in
theorem oX7_isWord_0 {T : Ct} {Q : Option Value → MM → Prop} (C : Cx T cX7_isWord 1 RX7 0 0) (CR : CxR T 0 0) (hr : T.2.2.2.2.2.2.2.2.1.sig.returnType = (some .boolean)) (hnm : T.2.2.2.2.2.2.2.2.1.name = "isWord") {nx : Nat → Kt} (hn : ∀ pc, Sd T 1 (QT T Q 0 0) 0 0 pc (nx pc)) : Sd T 1 (QT T Q 0 0) 0 0 0 (bX7_isWord_0 Q nx) := x_il_n C dX7_isWord_0 rfl (x_if_lt C (hn 15) dX7_isWord_1 (by decide) (x_il_n C dX7_isWord_4 rfl (x_lw C ct_X7_284 dX7_isWord_5 (x_ic_gt C (hn 15) dX7_isWord_8 (by decide) (x_ic C dX7_isWord_11 (by decide) (x_goto C (hn 16) dX7_isWord_12 (by decide)))))))
set_option maxRecDepth 20000 in
theorem oX7_isWord_15 {T : Ct} {Q : Option Value → MM → Prop} (C : Cx T cX7_isWord 1 RX7 0 0) (CR : CxR T 0 0) (hr : T.2.2.2.2.2.2.2.2.1.sig.returnType = (some .boolean)) (hnm : T.2.2.2.2.2.2.2.2.1.name = "isWord") {nx : Nat → Kt} (hn : ∀ pc, Sd T 1 (QT T Q 0 0) 0 0 pc (nx pc)) : Sd T 1 (QT T Q 0 0) 0 0 15 (bX7_isWord_15 Q nx) := x_ic C dX7_isWord_15 (by decide) (hn 16)
set_option maxRecDepth 20000 in
theorem oX7_isWord_16 {T : Ct} {Q : Option Value → MM → Prop} (C : Cx T cX7_isWord 1 RX7 0 0) (CR : CxR T 0 0) (hr : T.2.2.2.2.2.2.2.2.1.sig.returnType = (some .boolean)) (hnm : T.2.2.2.2.2.2.2.2.1.name = "isWord") {nx : Nat → Kt} (hn : ∀ pc, Sd T 1 (QT T Q 0 0) 0 0 pc (nx pc)) : Sd T 1 (QT T Q 0 0) 0 0 16 (bX7_isWord_16 Q nx) := x_rZ C hr dX7_isWord_16
set_option maxRecDepth 20000 in
theorem mX7_isWord (l : Launch) (D : va_G) (cA : Nat → ClassId) (base : Nat) : Mc l D cA base yX7_isWord cX7_isWord 1 (some .boolean) rX7_isWord wX7_isWord := mc_of (by decide +kernel) kX7_isWord (fun T Q C CR hr hnm nx hn => bse_ok _ (List.forall_mem_cons.mpr ⟨oX7_isWord_0 C CR hr hnm hn, List.forall_mem_cons.mpr ⟨oX7_isWord_15 C CR hr hnm hn, List.forall_mem_cons.mpr ⟨oX7_isWord_16 C CR hr hnm hn, fun _ h => nomatch h⟩⟩⟩))
theorem dX7_isTaken_0 : decode cX7_isTaken 0 = .ok (.aload_n 0, 1) := by decide +kernel
theorem dX7_isTaken_1 : decode cX7_isTaken 1 = .ok (.getfield 156, 3) := by decide +kernel
theorem dX7_isTaken_4 : decode cX7_isTaken 4 = .ok (.iconst (-1), 1) := by decide +kernel
theorem dX7_isTaken_5 : decode cX7_isTaken 5 = .ok (.if_icmp .eq 15, 3) := by decide +kernel
theorem dX7_isTaken_8 : decode cX7_isTaken 8 = .ok (.aload_n 0, 1) := by decide +kernel
theorem dX7_isTaken_9 : decode cX7_isTaken 9 = .ok (.getfield 156, 3) := by decide +kernel
theorem dX7_isTaken_12 : decode cX7_isTaken 12 = .ok (.iload_n 1, 1) := by decide +kernel
theorem dX7_isTaken_13 : decode cX7_isTaken 13 = .ok (.if_icmp .eq 7, 3) := by decide +kernel
theorem dX7_isTaken_16 : decode cX7_isTaken 16 = .ok (.iconst 1, 1) := by decide +kernel
theorem dX7_isTaken_17 : decode cX7_isTaken 17 = .ok (.goto 4, 3) := by decide +kernel
theorem dX7_isTaken_20 : decode cX7_isTaken 20 = .ok (.iconst 0, 1) := by decide +kernel
theorem dX7_isTaken_21 : decode cX7_isTaken 21 = .ok (.ireturn, 1) := by decide +kernel
noncomputable def bX7_isTaken_0 (Q : Option Value → MM → Prop) (nx : Nat → Kt) : Kt := ldA 0 (gI 5 2 (cI (-1) (ifc (fun x y => x = y) (nx 20) (ldA 0 (gI 5 2 (ldI 1 (ifc (fun x y => x = y) (nx 20) (cI 1 (nx 21)))))))))
noncomputable def bX7_isTaken_20 (Q : Option Value → MM → Prop) (nx : Nat → Kt) : Kt := cI 0 (nx 21)
noncomputable def bX7_isTaken_21 (Q : Option Value → MM → Prop) (nx : Nat → Kt) : Kt := rZ Q
noncomputable def kX7_isTaken (Q : Option Value → MM → Prop) (nx : Nat → Kt) : Nat → Kt := bse [(0, bX7_isTaken_0 Q nx), (20, bX7_isTaken_20 Q nx), (21, bX7_isTaken_21 Q nx)]
abbrev rX7_isTaken : Room := { frames := 0, cells := 0, slots := 0, locals := 0 }
noncomputable def wX7_isTaken : Mw := mw 2 kX7_isTaken
set_option maxRecDepth 20000 in
theorem oX7_isTaken_0 {T : Ct} {Q : Option Value → MM → Prop} (C : Cx T cX7_isTaken 2 RX7 0 0) (CR : CxR T 0 0) (hr : T.2.2.2.2.2.2.2.2.1.sig.returnType = (some .boolean)) (hnm : T.2.2.2.2.2.2.2.2.1.name = "isTaken") {nx : Nat → Kt} (hn : ∀ pc, Sd T 2 (QT T Q 0 0) 0 0 pc (nx pc)) : Sd T 2 (QT T Q 0 0) 0 0 0 (bX7_isTaken_0 Q nx) := x_al_n C dX7_isTaken_0 rfl (gf_X7_156 C dX7_isTaken_1 (x_ic C dX7_isTaken_4 (by decide) (x_ic_eq C (hn 20) dX7_isTaken_5 (by decide) (x_al_n C dX7_isTaken_8 rfl (gf_X7_156 C dX7_isTaken_9 (x_il_n C dX7_isTaken_12 rfl (x_ic_eq C (hn 20) dX7_isTaken_13 (by decide) (x_ic C dX7_isTaken_16 (by decide) (x_goto C (hn 21) dX7_isTaken_17 (by decide))))))))))
set_option maxRecDepth 20000 in
theorem oX7_isTaken_20 {T : Ct} {Q : Option Value → MM → Prop} (C : Cx T cX7_isTaken 2 RX7 0 0) (CR : CxR T 0 0) (hr : T.2.2.2.2.2.2.2.2.1.sig.returnType = (some .boolean)) (hnm : T.2.2.2.2.2.2.2.2.1.name = "isTaken") {nx : Nat → Kt} (hn : ∀ pc, Sd T 2 (QT T Q 0 0) 0 0 pc (nx pc)) : Sd T 2 (QT T Q 0 0) 0 0 20 (bX7_isTaken_20 Q nx) := x_ic C dX7_isTaken_20 (by decide) (hn 21)
set_option maxRecDepth 20000 in
theorem oX7_isTaken_21 {T : Ct} {Q : Option Value → MM → Prop} (C : Cx T cX7_isTaken 2 RX7 0 0) (CR : CxR T 0 0) (hr : T.2.2.2.2.2.2.2.2.1.sig.returnType = (some .boolean)) (hnm : T.2.2.2.2.2.2.2.2.1.name = "isTaken") {nx : Nat → Kt} (hn : ∀ pc, Sd T 2 (QT T Q 0 0) 0 0 pc (nx pc)) : Sd T 2 (QT T Q 0 0) 0 0 21 (bX7_isTaken_21 Q nx) := x_rZ C hr dX7_isTaken_21
set_option maxRecDepth 20000 in
theorem mX7_isTaken (l : Launch) (D : va_G) (cA : Nat → ClassId) (base : Nat) : Mc l D cA base yX7_isTaken cX7_isTaken 2 (some .boolean) rX7_isTaken wX7_isTaken := mc_of (by decide +kernel) kX7_isTaken (fun T Q C CR hr hnm nx hn => bse_ok _ (List.forall_mem_cons.mpr ⟨oX7_isTaken_0 C CR hr hnm hn, List.forall_mem_cons.mpr ⟨oX7_isTaken_20 C CR hr hnm hn, List.forall_mem_cons.mpr ⟨oX7_isTaken_21 C CR hr hnm hn, fun _ h => nomatch h⟩⟩⟩))
theorem dX7_strongerEnd_0 : decode cX7_strongerEnd 0 = .ok (.aload_n 0, 1) := by decide +kernel
theorem dX7_strongerEnd_1 : decode cX7_strongerEnd 1 = .ok (.getfield 11, 3) := by decide +kernel
theorem dX7_strongerEnd_4 : decode cX7_strongerEnd 4 = .ok (.iconst 0, 1) := by decide +kernel
theorem dX7_strongerEnd_5 : decode cX7_strongerEnd 5 = .ok (.aaload, 1) := by decide +kernel
theorem dX7_strongerEnd_6 : decode cX7_strongerEnd 6 = .ok (.getfield 37, 3) := by decide +kernel
theorem dX7_strongerEnd_9 : decode cX7_strongerEnd 9 = .ok (.aload_n 0, 1) := by decide +kernel
theorem dX7_strongerEnd_10 : decode cX7_strongerEnd 10 = .ok (.getfield 11, 3) := by decide +kernel
theorem dX7_strongerEnd_13 : decode cX7_strongerEnd 13 = .ok (.iconst 1, 1) := by decide +kernel
theorem dX7_strongerEnd_14 : decode cX7_strongerEnd 14 = .ok (.aaload, 1) := by decide +kernel
theorem dX7_strongerEnd_15 : decode cX7_strongerEnd 15 = .ok (.getfield 37, 3) := by decide +kernel
theorem dX7_strongerEnd_18 : decode cX7_strongerEnd 18 = .ok (.if_icmp .gt 7, 3) := by decide +kernel
theorem dX7_strongerEnd_21 : decode cX7_strongerEnd 21 = .ok (.iconst 0, 1) := by decide +kernel
theorem dX7_strongerEnd_22 : decode cX7_strongerEnd 22 = .ok (.goto 4, 3) := by decide +kernel
theorem dX7_strongerEnd_25 : decode cX7_strongerEnd 25 = .ok (.iconst 1, 1) := by decide +kernel
theorem dX7_strongerEnd_26 : decode cX7_strongerEnd 26 = .ok (.ireturn, 1) := by decide +kernel
noncomputable def bX7_strongerEnd_0 (Q : Option Value → MM → Prop) (nx : Nat → Kt) : Kt := ldA 0 (gR 7 0 (cI 0 (aR 13 (gI 1 1 (ldA 0 (gR 7 0 (cI 1 (aR 13 (gI 1 1 (ifc (fun x y => y < x) (nx 25) (cI 0 (nx 26))))))))))))
noncomputable def bX7_strongerEnd_25 (Q : Option Value → MM → Prop) (nx : Nat → Kt) : Kt := cI 1 (nx 26)
noncomputable def bX7_strongerEnd_26 (Q : Option Value → MM → Prop) (nx : Nat → Kt) : Kt := rI Q
noncomputable def kX7_strongerEnd (Q : Option Value → MM → Prop) (nx : Nat → Kt) : Nat → Kt := bse [(0, bX7_strongerEnd_0 Q nx), (25, bX7_strongerEnd_25 Q nx), (26, bX7_strongerEnd_26 Q nx)]
abbrev rX7_strongerEnd : Room := { frames := 0, cells := 0, slots := 0, locals := 0 }
noncomputable def wX7_strongerEnd : Mw := mw 1 kX7_strongerEnd
set_option maxRecDepth 20000 in
theorem oX7_strongerEnd_0 {T : Ct} {Q : Option Value → MM → Prop} (C : Cx T cX7_strongerEnd 1 RX7 0 0) (CR : CxR T 0 0) (hr : T.2.2.2.2.2.2.2.2.1.sig.returnType = (some .int)) (hnm : T.2.2.2.2.2.2.2.2.1.name = "strongerEnd") {nx : Nat → Kt} (hn : ∀ pc, Sd T 1 (QT T Q 0 0) 0 0 pc (nx pc)) : Sd T 1 (QT T Q 0 0) 0 0 0 (bX7_strongerEnd_0 Q nx) := x_al_n C dX7_strongerEnd_0 rfl (gf_X7_11 C dX7_strongerEnd_1 (x_ic C dX7_strongerEnd_4 (by decide) (x_aald C (kd := 13) (t0 := 3) (by decide) (by decide) (fun _ => rfl) dX7_strongerEnd_5 (gf_X7_37 C dX7_strongerEnd_6 (x_al_n C dX7_strongerEnd_9 rfl (gf_X7_11 C dX7_strongerEnd_10 (x_ic C dX7_strongerEnd_13 (by decide) (x_aald C (kd := 13) (t0 := 3) (by decide) (by decide) (fun _ => rfl) dX7_strongerEnd_14 (gf_X7_37 C dX7_strongerEnd_15 (x_ic_gt C (hn 25) dX7_strongerEnd_18 (by decide) (x_ic C dX7_strongerEnd_21 (by decide) (x_goto C (hn 26) dX7_strongerEnd_22 (by decide)))))))))))))
set_option maxRecDepth 20000 in
theorem oX7_strongerEnd_25 {T : Ct} {Q : Option Value → MM → Prop} (C : Cx T cX7_strongerEnd 1 RX7 0 0) (CR : CxR T 0 0) (hr : T.2.2.2.2.2.2.2.2.1.sig.returnType = (some .int)) (hnm : T.2.2.2.2.2.2.2.2.1.name = "strongerEnd") {nx : Nat → Kt} (hn : ∀ pc, Sd T 1 (QT T Q 0 0) 0 0 pc (nx pc)) : Sd T 1 (QT T Q 0 0) 0 0 25 (bX7_strongerEnd_25 Q nx) := x_ic C dX7_strongerEnd_25 (by decide) (hn 26)
set_option maxRecDepth 20000 in
theorem oX7_strongerEnd_26 {T : Ct} {Q : Option Value → MM → Prop} (C : Cx T cX7_strongerEnd 1 RX7 0 0) (CR : CxR T 0 0) (hr : T.2.2.2.2.2.2.2.2.1.sig.returnType = (some .int)) (hnm : T.2.2.2.2.2.2.2.2.1.name = "strongerEnd") {nx : Nat → Kt} (hn : ∀ pc, Sd T 1 (QT T Q 0 0) 0 0 pc (nx pc)) : Sd T 1 (QT T Q 0 0) 0 0 26 (bX7_strongerEnd_26 Q nx) := x_rI C hr dX7_strongerEnd_26
set_option maxRecDepth 20000 in
theorem mX7_strongerEnd (l : Launch) (D : va_G) (cA : Nat → ClassId) (base : Nat) : Mc l D cA base yX7_strongerEnd cX7_strongerEnd 1 (some .int) rX7_strongerEnd wX7_strongerEnd := mc_of (by decide +kernel) kX7_strongerEnd (fun T Q C CR hr hnm nx hn => bse_ok _ (List.forall_mem_cons.mpr ⟨oX7_strongerEnd_0 C CR hr hnm hn, List.forall_mem_cons.mpr ⟨oX7_strongerEnd_25 C CR hr hnm hn, List.forall_mem_cons.mpr ⟨oX7_strongerEnd_26 C CR hr hnm hn, fun _ h => nomatch h⟩⟩⟩))
theorem dX7_countMeantAhead_0 : decode cX7_countMeantAhead 0 = .ok (.aload_n 0, 1) := by decide +kernel
theorem dX7_countMeantAhead_1 : decode cX7_countMeantAhead 1 = .ok (.invokevirtual 295, 3) := by decide +kernel
theorem dX7_countMeantAhead_4 : decode cX7_countMeantAhead 4 = .ok (.istore_n 2, 1) := by decide +kernel
theorem dX7_countMeantAhead_5 : decode cX7_countMeantAhead 5 = .ok (.iconst 0, 1) := by decide +kernel
theorem dX7_countMeantAhead_6 : decode cX7_countMeantAhead 6 = .ok (.istore_n 3, 1) := by decide +kernel
theorem dX7_countMeantAhead_7 : decode cX7_countMeantAhead 7 = .ok (.iconst 0, 1) := by decide +kernel
theorem dX7_countMeantAhead_8 : decode cX7_countMeantAhead 8 = .ok (.istore 4, 2) := by decide +kernel
theorem dX7_countMeantAhead_10 : decode cX7_countMeantAhead 10 = .ok (.iload 4, 2) := by decide +kernel
theorem dX7_countMeantAhead_12 : decode cX7_countMeantAhead 12 = .ok (.bipush 8, 2) := by decide +kernel
theorem dX7_countMeantAhead_14 : decode cX7_countMeantAhead 14 = .ok (.if_icmp .ge 58, 3) := by decide +kernel
theorem dX7_countMeantAhead_17 : decode cX7_countMeantAhead 17 = .ok (.aload_n 0, 1) := by decide +kernel
theorem dX7_countMeantAhead_18 : decode cX7_countMeantAhead 18 = .ok (.getfield 17, 3) := by decide +kernel
theorem dX7_countMeantAhead_21 : decode cX7_countMeantAhead 21 = .ok (.iload 4, 2) := by decide +kernel
theorem dX7_countMeantAhead_23 : decode cX7_countMeantAhead 23 = .ok (.aaload, 1) := by decide +kernel
theorem dX7_countMeantAhead_24 : decode cX7_countMeantAhead 24 = .ok (.astore 5, 2) := by decide +kernel
theorem dX7_countMeantAhead_26 : decode cX7_countMeantAhead 26 = .ok (.aload 5, 2) := by decide +kernel
theorem dX7_countMeantAhead_28 : decode cX7_countMeantAhead 28 = .ok (.invokevirtual 288, 3) := by decide +kernel
theorem dX7_countMeantAhead_31 : decode cX7_countMeantAhead 31 = .ok (.ifCond .eq 35, 3) := by decide +kernel
theorem dX7_countMeantAhead_34 : decode cX7_countMeantAhead 34 = .ok (.aload 5, 2) := by decide +kernel
theorem dX7_countMeantAhead_36 : decode cX7_countMeantAhead 36 = .ok (.aload_n 1, 1) := by decide +kernel
theorem dX7_countMeantAhead_37 : decode cX7_countMeantAhead 37 = .ok (.invokevirtual 299, 3) := by decide +kernel
theorem dX7_countMeantAhead_40 : decode cX7_countMeantAhead 40 = .ok (.ifCond .eq 26, 3) := by decide +kernel
theorem dX7_countMeantAhead_43 : decode cX7_countMeantAhead 43 = .ok (.aload 5, 2) := by decide +kernel
theorem dX7_countMeantAhead_45 : decode cX7_countMeantAhead 45 = .ok (.getfield 255, 3) := by decide +kernel
theorem dX7_countMeantAhead_48 : decode cX7_countMeantAhead 48 = .ok (.iload_n 2, 1) := by decide +kernel
theorem dX7_countMeantAhead_49 : decode cX7_countMeantAhead 49 = .ok (.aaload, 1) := by decide +kernel
theorem dX7_countMeantAhead_50 : decode cX7_countMeantAhead 50 = .ok (.aload_n 1, 1) := by decide +kernel
theorem dX7_countMeantAhead_51 : decode cX7_countMeantAhead 51 = .ok (.getfield 255, 3) := by decide +kernel
theorem dX7_countMeantAhead_54 : decode cX7_countMeantAhead 54 = .ok (.iload_n 2, 1) := by decide +kernel
theorem dX7_countMeantAhead_55 : decode cX7_countMeantAhead 55 = .ok (.aaload, 1) := by decide +kernel
theorem dX7_countMeantAhead_56 : decode cX7_countMeantAhead 56 = .ok (.iconst 1, 1) := by decide +kernel
theorem dX7_countMeantAhead_57 : decode cX7_countMeantAhead 57 = .ok (.invokevirtual 303, 3) := by decide +kernel
theorem dX7_countMeantAhead_60 : decode cX7_countMeantAhead 60 = .ok (.ifCond .eq 6, 3) := by decide +kernel
theorem dX7_countMeantAhead_63 : decode cX7_countMeantAhead 63 = .ok (.iinc 3 1, 3) := by decide +kernel
theorem dX7_countMeantAhead_66 : decode cX7_countMeantAhead 66 = .ok (.iinc 4 1, 3) := by decide +kernel
theorem dX7_countMeantAhead_69 : decode cX7_countMeantAhead 69 = .ok (.goto (-59), 3) := by decide +kernel
theorem dX7_countMeantAhead_72 : decode cX7_countMeantAhead 72 = .ok (.iload_n 3, 1) := by decide +kernel
theorem dX7_countMeantAhead_73 : decode cX7_countMeantAhead 73 = .ok (.ireturn, 1) := by decide +kernel
noncomputable def bX7_countMeantAhead_0 (Q : Option Value → MM → Prop) (nx : Nat → Kt) : Kt := ldA 0 (cV 0 7 wX7_strongerEnd 0 0 0 0 (stI 2 (cI 0 (stI 3 (cI 0 (stI 4 (nx 10)))))))
noncomputable def bX7_countMeantAhead_10 (Q : Option Value → MM → Prop) (nx : Nat → Kt) : Kt := ldI 4 (cI 8 (ifc (fun x y => y ≤ x) (nx 72) (ldA 0 (gR 7 1 (ldI 4 (aR 12 (stA 5 (ldA 5 (cV 0 0 wX0_agrees 0 0 0 0 (ifz (fun x => x = 0) (nx 66) (ldA 5 (ldA 1 (cV 1 0 wX0_isInGroupOf 0 0 0 0 (ifz (fun x => x = 0) (nx 66) (ldA 5 (gR 0 0 (ldI 2 (aR 17 (ldA 1 (gR 0 0 (ldI 2 (aR 17 (cI 1 (cV 2 5 wX5_isAheadOf 0 0 0 0 (ifz (fun x => x = 0) (nx 66) (inc 3 1 (nx 66)))))))))))))))))))))))))))
noncomputable def bX7_countMeantAhead_66 (Q : Option Value → MM → Prop) (nx : Nat → Kt) : Kt := inc 4 1 (nx 10)
noncomputable def bX7_countMeantAhead_72 (Q : Option Value → MM → Prop) (nx : Nat → Kt) : Kt := ldI 3 (rI Q)
noncomputable def kX7_countMeantAhead (Q : Option Value → MM → Prop) (nx : Nat → Kt) : Nat → Kt := bse [(0, bX7_countMeantAhead_0 Q nx), (10, bX7_countMeantAhead_10 Q nx), (66, bX7_countMeantAhead_66 Q nx), (72, bX7_countMeantAhead_72 Q nx)]
abbrev rX7_countMeantAhead : Room := { frames := 2, cells := 0, slots := 0, locals := 41 }
noncomputable def wX7_countMeantAhead : Mw := mw 6 kX7_countMeantAhead
set_option maxRecDepth 20000 in
theorem oX7_countMeantAhead_0 {T : Ct} {Q : Option Value → MM → Prop} (C : Cx T cX7_countMeantAhead 6 RX7 0 0) (CR : CxR T 2 41) (hr : T.2.2.2.2.2.2.2.2.1.sig.returnType = (some .int)) (hnm : T.2.2.2.2.2.2.2.2.1.name = "countMeantAhead") {nx : Nat → Kt} (hn : ∀ pc, Sd T 6 (QT T Q 0 0) 0 0 pc (nx pc)) : Sd T 6 (QT T Q 0 0) 0 0 0 (bX7_countMeantAhead_0 Q nx) := x_al_n C dX7_countMeantAhead_0 rfl (x_cV C CR mX7_strongerEnd ⟨co_X7_strongerEnd, init_X7, md_X7_strongerEnd, by decide, by decide⟩ (ci := 7) (TX := TX7) (N := 9) rfl (by decide) ml_X7_295 im_X7_strongerEnd se_X7_strongerEnd dX7_countMeantAhead_1 (x_is_n C dX7_countMeantAhead_4 rfl (by decide) (x_ic C dX7_countMeantAhead_5 (by decide) (x_is_n C dX7_countMeantAhead_6 rfl (by decide) (x_ic C dX7_countMeantAhead_7 (by decide) (x_is C dX7_countMeantAhead_8 (by decide) (hn 10)))))))
set_option maxRecDepth 20000 in
theorem oX7_countMeantAhead_10 {T : Ct} {Q : Option Value → MM → Prop} (C : Cx T cX7_countMeantAhead 6 RX7 0 0) (CR : CxR T 2 41) (hr : T.2.2.2.2.2.2.2.2.1.sig.returnType = (some .int)) (hnm : T.2.2.2.2.2.2.2.2.1.name = "countMeantAhead") {nx : Nat → Kt} (hn : ∀ pc, Sd T 6 (QT T Q 0 0) 0 0 pc (nx pc)) : Sd T 6 (QT T Q 0 0) 0 0 10 (bX7_countMeantAhead_10 Q nx) := x_il C dX7_countMeantAhead_10 (x_bp C dX7_countMeantAhead_12 (by decide) (x_ic_ge C (hn 72) dX7_countMeantAhead_14 (by decide) (x_al_n C dX7_countMeantAhead_17 rfl (gf_X7_17 C dX7_countMeantAhead_18 (x_il C dX7_countMeantAhead_21 (x_aald C (kd := 12) (t0 := 2) (by decide) (by decide) (fun _ => rfl) dX7_countMeantAhead_23 (x_as C dX7_countMeantAhead_24 (by decide) (x_al C dX7_countMeantAhead_26 (x_cV C CR mX0_agrees ⟨co_X0_agrees, init_X0, md_X0_agrees, by decide, by decide⟩ (ci := 0) (TX := TX0) (N := 5) rfl (by decide) ml_X7_288 im_X0_agrees se_X0_agrees dX7_countMeantAhead_28 (x_if_eq C (hn 66) dX7_countMeantAhead_31 (by decide) (x_al C dX7_countMeantAhead_34 (x_al_n C dX7_countMeantAhead_36 rfl (x_cV C CR mX0_isInGroupOf ⟨co_X0_isInGroupOf, init_X0, md_X0_isInGroupOf, by decide, by decide⟩ (ci := 0) (TX := TX0) (N := 5) rfl (by decide) ml_X7_299 im_X0_isInGroupOf se_X0_isInGroupOf dX7_countMeantAhead_37 (x_if_eq C (hn 66) dX7_countMeantAhead_40 (by decide) (x_al C dX7_countMeantAhead_43 (gf_X7_255 C dX7_countMeantAhead_45 (x_il_n C dX7_countMeantAhead_48 rfl (x_aald C (kd := 17) (t0 := 7) (by decide) (by decide) (fun _ => rfl) dX7_countMeantAhead_49 (x_al_n C dX7_countMeantAhead_50 rfl (gf_X7_255 C dX7_countMeantAhead_51 (x_il_n C dX7_countMeantAhead_54 rfl (x_aald C (kd := 17) (t0 := 7) (by decide) (by decide) (fun _ => rfl) dX7_countMeantAhead_55 (x_ic C dX7_countMeantAhead_56 (by decide) (x_cV C CR mX5_isAheadOf ⟨co_X5_isAheadOf, init_X5, md_X5_isAheadOf, by decide, by decide⟩ (ci := 5) (TX := TX5) (N := 18) rfl (by decide) ml_X7_303 im_X5_isAheadOf se_X5_isAheadOf dX7_countMeantAhead_57 (x_if_eq C (hn 66) dX7_countMeantAhead_60 (by decide) (x_inc C dX7_countMeantAhead_63 (by decide) (by decide) (hn 66)))))))))))))))))))))))))))
set_option maxRecDepth 20000 in
theorem oX7_countMeantAhead_66 {T : Ct} {Q : Option Value → MM → Prop} (C : Cx T cX7_countMeantAhead 6 RX7 0 0) (CR : CxR T 2 41) (hr : T.2.2.2.2.2.2.2.2.1.sig.returnType = (some .int)) (hnm : T.2.2.2.2.2.2.2.2.1.name = "countMeantAhead") {nx : Nat → Kt} (hn : ∀ pc, Sd T 6 (QT T Q 0 0) 0 0 pc (nx pc)) : Sd T 6 (QT T Q 0 0) 0 0 66 (bX7_countMeantAhead_66 Q nx) := x_inc C dX7_countMeantAhead_66 (by decide) (by decide) (x_goto C (hn 10) dX7_countMeantAhead_69 (by decide))
set_option maxRecDepth 20000 in
theorem oX7_countMeantAhead_72 {T : Ct} {Q : Option Value → MM → Prop} (C : Cx T cX7_countMeantAhead 6 RX7 0 0) (CR : CxR T 2 41) (hr : T.2.2.2.2.2.2.2.2.1.sig.returnType = (some .int)) (hnm : T.2.2.2.2.2.2.2.2.1.name = "countMeantAhead") {nx : Nat → Kt} (hn : ∀ pc, Sd T 6 (QT T Q 0 0) 0 0 pc (nx pc)) : Sd T 6 (QT T Q 0 0) 0 0 72 (bX7_countMeantAhead_72 Q nx) := x_il_n C dX7_countMeantAhead_72 rfl (x_rI C hr dX7_countMeantAhead_73)
set_option maxRecDepth 20000 in
theorem mX7_countMeantAhead (l : Launch) (D : va_G) (cA : Nat → ClassId) (base : Nat) : Mc l D cA base yX7_countMeantAhead cX7_countMeantAhead 6 (some .int) rX7_countMeantAhead wX7_countMeantAhead := mc_of (by decide +kernel) kX7_countMeantAhead (fun T Q C CR hr hnm nx hn => bse_ok _ (List.forall_mem_cons.mpr ⟨oX7_countMeantAhead_0 C CR hr hnm hn, List.forall_mem_cons.mpr ⟨oX7_countMeantAhead_10 C CR hr hnm hn, List.forall_mem_cons.mpr ⟨oX7_countMeantAhead_66 C CR hr hnm hn, List.forall_mem_cons.mpr ⟨oX7_countMeantAhead_72 C CR hr hnm hn, fun _ h => nomatch h⟩⟩⟩⟩))
theorem dX7_noteChange_0 : decode cX7_noteChange 0 = .ok (.aload_n 0, 1) := by decide +kernel
theorem dX7_noteChange_1 : decode cX7_noteChange 1 = .ok (.iconst 0, 1) := by decide +kernel
theorem dX7_noteChange_2 : decode cX7_noteChange 2 = .ok (.putfield 269, 3) := by decide +kernel
theorem dX7_noteChange_5 : decode cX7_noteChange 5 = .ok (.aload_n 0, 1) := by decide +kernel
theorem dX7_noteChange_6 : decode cX7_noteChange 6 = .ok (.getfield 11, 3) := by decide +kernel
theorem dX7_noteChange_9 : decode cX7_noteChange 9 = .ok (.iconst 0, 1) := by decide +kernel
theorem dX7_noteChange_10 : decode cX7_noteChange 10 = .ok (.aaload, 1) := by decide +kernel
theorem dX7_noteChange_11 : decode cX7_noteChange 11 = .ok (.getfield 54, 3) := by decide +kernel
theorem dX7_noteChange_14 : decode cX7_noteChange 14 = .ok (.aload_n 0, 1) := by decide +kernel
theorem dX7_noteChange_15 : decode cX7_noteChange 15 = .ok (.getfield 11, 3) := by decide +kernel
theorem dX7_noteChange_18 : decode cX7_noteChange 18 = .ok (.iconst 1, 1) := by decide +kernel
theorem dX7_noteChange_19 : decode cX7_noteChange 19 = .ok (.aaload, 1) := by decide +kernel
theorem dX7_noteChange_20 : decode cX7_noteChange 20 = .ok (.getfield 54, 3) := by decide +kernel
theorem dX7_noteChange_23 : decode cX7_noteChange 23 = .ok (.invokestatic 285, 3) := by decide +kernel
theorem dX7_noteChange_26 : decode cX7_noteChange 26 = .ok (.istore_n 1, 1) := by decide +kernel
theorem dX7_noteChange_27 : decode cX7_noteChange 27 = .ok (.iconst 0, 1) := by decide +kernel
theorem dX7_noteChange_28 : decode cX7_noteChange 28 = .ok (.istore_n 2, 1) := by decide +kernel
theorem dX7_noteChange_29 : decode cX7_noteChange 29 = .ok (.iload_n 2, 1) := by decide +kernel
theorem dX7_noteChange_30 : decode cX7_noteChange 30 = .ok (.bipush 8, 2) := by decide +kernel
theorem dX7_noteChange_32 : decode cX7_noteChange 32 = .ok (.if_icmp .ge 49, 3) := by decide +kernel
theorem dX7_noteChange_35 : decode cX7_noteChange 35 = .ok (.aload_n 0, 1) := by decide +kernel
theorem dX7_noteChange_36 : decode cX7_noteChange 36 = .ok (.getfield 17, 3) := by decide +kernel
theorem dX7_noteChange_39 : decode cX7_noteChange 39 = .ok (.iload_n 2, 1) := by decide +kernel
theorem dX7_noteChange_40 : decode cX7_noteChange 40 = .ok (.aaload, 1) := by decide +kernel
theorem dX7_noteChange_41 : decode cX7_noteChange 41 = .ok (.aload_n 0, 1) := by decide +kernel
theorem dX7_noteChange_42 : decode cX7_noteChange 42 = .ok (.getfield 17, 3) := by decide +kernel
theorem dX7_noteChange_45 : decode cX7_noteChange 45 = .ok (.iload_n 2, 1) := by decide +kernel
theorem dX7_noteChange_46 : decode cX7_noteChange 46 = .ok (.aaload, 1) := by decide +kernel
theorem dX7_noteChange_47 : decode cX7_noteChange 47 = .ok (.invokevirtual 288, 3) := by decide +kernel
theorem dX7_noteChange_50 : decode cX7_noteChange 50 = .ok (.ifCond .eq 21, 3) := by decide +kernel
theorem dX7_noteChange_53 : decode cX7_noteChange 53 = .ok (.aload_n 0, 1) := by decide +kernel
theorem dX7_noteChange_54 : decode cX7_noteChange 54 = .ok (.aload_n 0, 1) := by decide +kernel
theorem dX7_noteChange_55 : decode cX7_noteChange 55 = .ok (.getfield 17, 3) := by decide +kernel
theorem dX7_noteChange_58 : decode cX7_noteChange 58 = .ok (.iload_n 2, 1) := by decide +kernel
theorem dX7_noteChange_59 : decode cX7_noteChange 59 = .ok (.aaload, 1) := by decide +kernel
theorem dX7_noteChange_60 : decode cX7_noteChange 60 = .ok (.invokevirtual 291, 3) := by decide +kernel
theorem dX7_noteChange_63 : decode cX7_noteChange 63 = .ok (.iload_n 1, 1) := by decide +kernel
theorem dX7_noteChange_64 : decode cX7_noteChange 64 = .ok (.if_icmp .ge 7, 3) := by decide +kernel
theorem dX7_noteChange_67 : decode cX7_noteChange 67 = .ok (.iconst 1, 1) := by decide +kernel
theorem dX7_noteChange_68 : decode cX7_noteChange 68 = .ok (.goto 4, 3) := by decide +kernel
theorem dX7_noteChange_71 : decode cX7_noteChange 71 = .ok (.iconst 0, 1) := by decide +kernel
theorem dX7_noteChange_72 : decode cX7_noteChange 72 = .ok (.putfield 256, 3) := by decide +kernel
theorem dX7_noteChange_75 : decode cX7_noteChange 75 = .ok (.iinc 2 1, 3) := by decide +kernel
theorem dX7_noteChange_78 : decode cX7_noteChange 78 = .ok (.goto (-49), 3) := by decide +kernel
theorem dX7_noteChange_81 : decode cX7_noteChange 81 = .ok (.return_, 1) := by decide +kernel
noncomputable def bX7_noteChange_0 (Q : Option Value → MM → Prop) (nx : Nat → Kt) : Kt := ldA 0 (cI 0 (tI 7 3 (ldA 0 (gR 7 0 (cI 0 (aR 13 (gI 1 2 (ldA 0 (gR 7 0 (cI 1 (aR 13 (gI 1 2 (mMn (stI 1 (cI 0 (stI 2 (nx 29)))))))))))))))))
noncomputable def bX7_noteChange_29 (Q : Option Value → MM → Prop) (nx : Nat → Kt) : Kt := ldI 2 (cI 8 (ifc (fun x y => y ≤ x) (nx 81) (ldA 0 (gR 7 1 (ldI 2 (aR 12 (ldA 0 (gR 7 1 (ldI 2 (aR 12 (cV 0 0 wX0_agrees 0 0 0 0 (ifz (fun x => x = 0) (nx 71) (ldA 0 (ldA 0 (gR 7 1 (ldI 2 (aR 12 (cV 1 7 wX7_countMeantAhead 0 0 0 0 (ldI 1 (ifc (fun x y => y ≤ x) (nx 71) (cI 1 (nx 72))))))))))))))))))))))
noncomputable def bX7_noteChange_71 (Q : Option Value → MM → Prop) (nx : Nat → Kt) : Kt := cI 0 (nx 72)
noncomputable def bX7_noteChange_72 (Q : Option Value → MM → Prop) (nx : Nat → Kt) : Kt := tZ 0 4 (inc 2 1 (nx 29))
noncomputable def bX7_noteChange_81 (Q : Option Value → MM → Prop) (nx : Nat → Kt) : Kt := rV Q
noncomputable def kX7_noteChange (Q : Option Value → MM → Prop) (nx : Nat → Kt) : Nat → Kt := bse [(0, bX7_noteChange_0 Q nx), (29, bX7_noteChange_29 Q nx), (71, bX7_noteChange_71 Q nx), (72, bX7_noteChange_72 Q nx), (81, bX7_noteChange_81 Q nx)]
abbrev rX7_noteChange : Room := { frames := 3, cells := 0, slots := 0, locals := 66 }
noncomputable def wX7_noteChange : Mw := mw 3 kX7_noteChange
set_option maxRecDepth 20000 in
theorem oX7_noteChange_0 {T : Ct} {Q : Option Value → MM → Prop} (C : Cx T cX7_noteChange 3 RX7 0 0) (CR : CxR T 3 66) (hr : T.2.2.2.2.2.2.2.2.1.sig.returnType = none) (hnm : T.2.2.2.2.2.2.2.2.1.name = "noteChange") {nx : Nat → Kt} (hn : ∀ pc, Sd T 3 (QT T Q 0 0) 0 0 pc (nx pc)) : Sd T 3 (QT T Q 0 0) 0 0 0 (bX7_noteChange_0 Q nx) := x_al_n C dX7_noteChange_0 rfl (x_ic C dX7_noteChange_1 (by decide) (pf_X7_269 C dX7_noteChange_2 (x_al_n C dX7_noteChange_5 rfl (gf_X7_11 C dX7_noteChange_6 (x_ic C dX7_noteChange_9 (by decide) (x_aald C (kd := 13) (t0 := 3) (by decide) (by decide) (fun _ => rfl) dX7_noteChange_10 (gf_X7_54 C dX7_noteChange_11 (x_al_n C dX7_noteChange_14 rfl (gf_X7_11 C dX7_noteChange_15 (x_ic C dX7_noteChange_18 (by decide) (x_aald C (kd := 13) (t0 := 3) (by decide) (by decide) (fun _ => rfl) dX7_noteChange_19 (gf_X7_54 C dX7_noteChange_20 (x_mMn C CR (by decide) (by decide) ml_X7_285 st_min init_Math co_min dX7_noteChange_23 (x_is_n C dX7_noteChange_26 rfl (by decide) (x_ic C dX7_noteChange_27 (by decide) (x_is_n C dX7_noteChange_28 rfl (by decide) (hn 29)))))))))))))))))
set_option maxRecDepth 20000 in
theorem oX7_noteChange_29 {T : Ct} {Q : Option Value → MM → Prop} (C : Cx T cX7_noteChange 3 RX7 0 0) (CR : CxR T 3 66) (hr : T.2.2.2.2.2.2.2.2.1.sig.returnType = none) (hnm : T.2.2.2.2.2.2.2.2.1.name = "noteChange") {nx : Nat → Kt} (hn : ∀ pc, Sd T 3 (QT T Q 0 0) 0 0 pc (nx pc)) : Sd T 3 (QT T Q 0 0) 0 0 29 (bX7_noteChange_29 Q nx) := x_il_n C dX7_noteChange_29 rfl (x_bp C dX7_noteChange_30 (by decide) (x_ic_ge C (hn 81) dX7_noteChange_32 (by decide) (x_al_n C dX7_noteChange_35 rfl (gf_X7_17 C dX7_noteChange_36 (x_il_n C dX7_noteChange_39 rfl (x_aald C (kd := 12) (t0 := 2) (by decide) (by decide) (fun _ => rfl) dX7_noteChange_40 (x_al_n C dX7_noteChange_41 rfl (gf_X7_17 C dX7_noteChange_42 (x_il_n C dX7_noteChange_45 rfl (x_aald C (kd := 12) (t0 := 2) (by decide) (by decide) (fun _ => rfl) dX7_noteChange_46 (x_cV C CR mX0_agrees ⟨co_X0_agrees, init_X0, md_X0_agrees, by decide, by decide⟩ (ci := 0) (TX := TX0) (N := 5) rfl (by decide) ml_X7_288 im_X0_agrees se_X0_agrees dX7_noteChange_47 (x_if_eq C (hn 71) dX7_noteChange_50 (by decide) (x_al_n C dX7_noteChange_53 rfl (x_al_n C dX7_noteChange_54 rfl (gf_X7_17 C dX7_noteChange_55 (x_il_n C dX7_noteChange_58 rfl (x_aald C (kd := 12) (t0 := 2) (by decide) (by decide) (fun _ => rfl) dX7_noteChange_59 (x_cV C CR mX7_countMeantAhead ⟨co_X7_countMeantAhead, init_X7, md_X7_countMeantAhead, by decide, by decide⟩ (ci := 7) (TX := TX7) (N := 9) rfl (by decide) ml_X7_291 im_X7_countMeantAhead se_X7_countMeantAhead dX7_noteChange_60 (x_il_n C dX7_noteChange_63 rfl (x_ic_ge C (hn 71) dX7_noteChange_64 (by decide) (x_ic C dX7_noteChange_67 (by decide) (x_goto C (hn 72) dX7_noteChange_68 (by decide)))))))))))))))))))))))
set_option maxRecDepth 20000 in
theorem oX7_noteChange_71 {T : Ct} {Q : Option Value → MM → Prop} (C : Cx T cX7_noteChange 3 RX7 0 0) (CR : CxR T 3 66) (hr : T.2.2.2.2.2.2.2.2.1.sig.returnType = none) (hnm : T.2.2.2.2.2.2.2.2.1.name = "noteChange") {nx : Nat → Kt} (hn : ∀ pc, Sd T 3 (QT T Q 0 0) 0 0 pc (nx pc)) : Sd T 3 (QT T Q 0 0) 0 0 71 (bX7_noteChange_71 Q nx) := x_ic C dX7_noteChange_71 (by decide) (hn 72)
set_option maxRecDepth 20000 in
theorem oX7_noteChange_72 {T : Ct} {Q : Option Value → MM → Prop} (C : Cx T cX7_noteChange 3 RX7 0 0) (CR : CxR T 3 66) (hr : T.2.2.2.2.2.2.2.2.1.sig.returnType = none) (hnm : T.2.2.2.2.2.2.2.2.1.name = "noteChange") {nx : Nat → Kt} (hn : ∀ pc, Sd T 3 (QT T Q 0 0) 0 0 pc (nx pc)) : Sd T 3 (QT T Q 0 0) 0 0 72 (bX7_noteChange_72 Q nx) := pf_X7_256 C dX7_noteChange_72 (x_inc C dX7_noteChange_75 (by decide) (by decide) (x_goto C (hn 29) dX7_noteChange_78 (by decide)))
set_option maxRecDepth 20000 in
theorem oX7_noteChange_81 {T : Ct} {Q : Option Value → MM → Prop} (C : Cx T cX7_noteChange 3 RX7 0 0) (CR : CxR T 3 66) (hr : T.2.2.2.2.2.2.2.2.1.sig.returnType = none) (hnm : T.2.2.2.2.2.2.2.2.1.name = "noteChange") {nx : Nat → Kt} (hn : ∀ pc, Sd T 3 (QT T Q 0 0) 0 0 pc (nx pc)) : Sd T 3 (QT T Q 0 0) 0 0 81 (bX7_noteChange_81 Q nx) := x_rV C hr dX7_noteChange_81
set_option maxRecDepth 20000 in
theorem mX7_noteChange (l : Launch) (D : va_G) (cA : Nat → ClassId) (base : Nat) : Mc l D cA base yX7_noteChange cX7_noteChange 3 none rX7_noteChange wX7_noteChange := mc_of (by decide +kernel) kX7_noteChange (fun T Q C CR hr hnm nx hn => bse_ok _ (List.forall_mem_cons.mpr ⟨oX7_noteChange_0 C CR hr hnm hn, List.forall_mem_cons.mpr ⟨oX7_noteChange_29 C CR hr hnm hn, List.forall_mem_cons.mpr ⟨oX7_noteChange_71 C CR hr hnm hn, List.forall_mem_cons.mpr ⟨oX7_noteChange_72 C CR hr hnm hn, List.forall_mem_cons.mpr ⟨oX7_noteChange_81 C CR hr hnm hn, fun _ h => nomatch h⟩⟩⟩⟩⟩))
theorem dX7_putIn_0 : decode cX7_putIn 0 = .ok (.aload_n 0, 1) := by decide +kernel
theorem dX7_putIn_1 : decode cX7_putIn 1 = .ok (.getfield 17, 3) := by decide +kernel
theorem dX7_putIn_4 : decode cX7_putIn 4 = .ok (.iload_n 1, 1) := by decide +kernel
theorem dX7_putIn_5 : decode cX7_putIn 5 = .ok (.aaload, 1) := by decide +kernel
theorem dX7_putIn_6 : decode cX7_putIn 6 = .ok (.getfield 255, 3) := by decide +kernel
theorem dX7_putIn_9 : decode cX7_putIn 9 = .ok (.iload_n 2, 1) := by decide +kernel
theorem dX7_putIn_10 : decode cX7_putIn 10 = .ok (.aload_n 3, 1) := by decide +kernel
theorem dX7_putIn_11 : decode cX7_putIn 11 = .ok (.aastore, 1) := by decide +kernel
theorem dX7_putIn_12 : decode cX7_putIn 12 = .ok (.aload_n 3, 1) := by decide +kernel
theorem dX7_putIn_13 : decode cX7_putIn 13 = .ok (.iload_n 1, 1) := by decide +kernel
theorem dX7_putIn_14 : decode cX7_putIn 14 = .ok (.putfield 156, 3) := by decide +kernel
theorem dX7_putIn_17 : decode cX7_putIn 17 = .ok (.return_, 1) := by decide +kernel
noncomputable def bX7_putIn_0 (Q : Option Value → MM → Prop) (nx : Nat → Kt) : Kt := ldA 0 (gR 7 1 (ldI 1 (aR 12 (gR 0 0 (ldI 2 (ldA 3 (sAR 5 (ldA 3 (ldI 1 (tI 5 2 (rV Q)))))))))))
noncomputable def kX7_putIn (Q : Option Value → MM → Prop) (nx : Nat → Kt) : Nat → Kt := bse [(0, bX7_putIn_0 Q nx)]
abbrev rX7_putIn : Room := { frames := 0, cells := 0, slots := 0, locals := 0 }
noncomputable def wX7_putIn : Mw := mw 4 kX7_putIn
set_option maxRecDepth 20000 in
theorem oX7_putIn_0 {T : Ct} {Q : Option Value → MM → Prop} (C : Cx T cX7_putIn 4 RX7 0 0) (CR : CxR T 0 0) (hr : T.2.2.2.2.2.2.2.2.1.sig.returnType = none) (hnm : T.2.2.2.2.2.2.2.2.1.name = "putIn") {nx : Nat → Kt} (hn : ∀ pc, Sd T 4 (QT T Q 0 0) 0 0 pc (nx pc)) : Sd T 4 (QT T Q 0 0) 0 0 0 (bX7_putIn_0 Q nx) := x_al_n C dX7_putIn_0 rfl (gf_X7_17 C dX7_putIn_1 (x_il_n C dX7_putIn_4 rfl (x_aald C (kd := 12) (t0 := 2) (by decide) (by decide) (fun _ => rfl) dX7_putIn_5 (gf_X7_255 C dX7_putIn_6 (x_il_n C dX7_putIn_9 rfl (x_al_n C dX7_putIn_10 rfl (x_aast C (ci := 5) (t0 := 7) (TX := TX5) (N := 18) (by decide) rfl (fun _ => rfl) dX7_putIn_11 (x_al_n C dX7_putIn_12 rfl (x_il_n C dX7_putIn_13 rfl (pf_X7_156 C dX7_putIn_14 (x_rV C hr dX7_putIn_17)))))))))))
set_option maxRecDepth 20000 in
theorem mX7_putIn (l : Launch) (D : va_G) (cA : Nat → ClassId) (base : Nat) : Mc l D cA base yX7_putIn cX7_putIn 4 none rX7_putIn wX7_putIn := mc_of (by decide +kernel) kX7_putIn (fun T Q C CR hr hnm nx hn => bse_ok _ (List.forall_mem_cons.mpr ⟨oX7_putIn_0 C CR hr hnm hn, fun _ h => nomatch h⟩))
theorem dX7_switchOn_0 : decode cX7_switchOn 0 = .ok (.aload_n 1, 1) := by decide +kernel
theorem dX7_switchOn_1 : decode cX7_switchOn 1 = .ok (.iconst 1, 1) := by decide +kernel
theorem dX7_switchOn_2 : decode cX7_switchOn 2 = .ok (.putfield 122, 3) := by decide +kernel
theorem dX7_switchOn_5 : decode cX7_switchOn 5 = .ok (.iconst 0, 1) := by decide +kernel
theorem dX7_switchOn_6 : decode cX7_switchOn 6 = .ok (.istore_n 2, 1) := by decide +kernel
theorem dX7_switchOn_7 : decode cX7_switchOn 7 = .ok (.iload_n 2, 1) := by decide +kernel
theorem dX7_switchOn_8 : decode cX7_switchOn 8 = .ok (.iconst 2, 1) := by decide +kernel
theorem dX7_switchOn_9 : decode cX7_switchOn 9 = .ok (.if_icmp .ge 18, 3) := by decide +kernel
theorem dX7_switchOn_12 : decode cX7_switchOn 12 = .ok (.aload_n 1, 1) := by decide +kernel
theorem dX7_switchOn_13 : decode cX7_switchOn 13 = .ok (.getfield 255, 3) := by decide +kernel
theorem dX7_switchOn_16 : decode cX7_switchOn 16 = .ok (.iload_n 2, 1) := by decide +kernel
theorem dX7_switchOn_17 : decode cX7_switchOn 17 = .ok (.aaload, 1) := by decide +kernel
theorem dX7_switchOn_18 : decode cX7_switchOn 18 = .ok (.invokevirtual 307, 3) := by decide +kernel
theorem dX7_switchOn_21 : decode cX7_switchOn 21 = .ok (.iinc 2 1, 3) := by decide +kernel
theorem dX7_switchOn_24 : decode cX7_switchOn 24 = .ok (.goto (-17), 3) := by decide +kernel
theorem dX7_switchOn_27 : decode cX7_switchOn 27 = .ok (.return_, 1) := by decide +kernel
noncomputable def bX7_switchOn_0 (Q : Option Value → MM → Prop) (nx : Nat → Kt) : Kt := ldA 1 (cI 1 (tZ 0 3 (cI 0 (stI 2 (nx 7)))))
noncomputable def bX7_switchOn_7 (Q : Option Value → MM → Prop) (nx : Nat → Kt) : Kt := ldI 2 (cI 2 (ifc (fun x y => y ≤ x) (nx 27) (ldA 1 (gR 0 0 (ldI 2 (aR 17 (cV 0 5 wX5_becomeLit 0 0 0 0 (inc 2 1 (nx 7)))))))))
noncomputable def bX7_switchOn_27 (Q : Option Value → MM → Prop) (nx : Nat → Kt) : Kt := rV Q
noncomputable def kX7_switchOn (Q : Option Value → MM → Prop) (nx : Nat → Kt) : Nat → Kt := bse [(0, bX7_switchOn_0 Q nx), (7, bX7_switchOn_7 Q nx), (27, bX7_switchOn_27 Q nx)]
abbrev rX7_switchOn : Room := { frames := 2, cells := 0, slots := 0, locals := 42 }
noncomputable def wX7_switchOn : Mw := mw 3 kX7_switchOn
set_option maxRecDepth 20000 in
theorem oX7_switchOn_0 {T : Ct} {Q : Option Value → MM → Prop} (C : Cx T cX7_switchOn 3 RX7 0 0) (CR : CxR T 2 42) (hr : T.2.2.2.2.2.2.2.2.1.sig.returnType = none) (hnm : T.2.2.2.2.2.2.2.2.1.name = "switchOn") {nx : Nat → Kt} (hn : ∀ pc, Sd T 3 (QT T Q 0 0) 0 0 pc (nx pc)) : Sd T 3 (QT T Q 0 0) 0 0 0 (bX7_switchOn_0 Q nx) := x_al_n C dX7_switchOn_0 rfl (x_ic C dX7_switchOn_1 (by decide) (pf_X7_122 C dX7_switchOn_2 (x_ic C dX7_switchOn_5 (by decide) (x_is_n C dX7_switchOn_6 rfl (by decide) (hn 7)))))
set_option maxRecDepth 20000 in
theorem oX7_switchOn_7 {T : Ct} {Q : Option Value → MM → Prop} (C : Cx T cX7_switchOn 3 RX7 0 0) (CR : CxR T 2 42) (hr : T.2.2.2.2.2.2.2.2.1.sig.returnType = none) (hnm : T.2.2.2.2.2.2.2.2.1.name = "switchOn") {nx : Nat → Kt} (hn : ∀ pc, Sd T 3 (QT T Q 0 0) 0 0 pc (nx pc)) : Sd T 3 (QT T Q 0 0) 0 0 7 (bX7_switchOn_7 Q nx) := x_il_n C dX7_switchOn_7 rfl (x_ic C dX7_switchOn_8 (by decide) (x_ic_ge C (hn 27) dX7_switchOn_9 (by decide) (x_al_n C dX7_switchOn_12 rfl (gf_X7_255 C dX7_switchOn_13 (x_il_n C dX7_switchOn_16 rfl (x_aald C (kd := 17) (t0 := 7) (by decide) (by decide) (fun _ => rfl) dX7_switchOn_17 (x_cV C CR mX5_becomeLit ⟨co_X5_becomeLit, init_X5, md_X5_becomeLit, by decide, by decide⟩ (ci := 5) (TX := TX5) (N := 18) rfl (by decide) ml_X7_307 im_X5_becomeLit se_X5_becomeLit dX7_switchOn_18 (x_inc C dX7_switchOn_21 (by decide) (by decide) (x_goto C (hn 7) dX7_switchOn_24 (by decide))))))))))
set_option maxRecDepth 20000 in
theorem oX7_switchOn_27 {T : Ct} {Q : Option Value → MM → Prop} (C : Cx T cX7_switchOn 3 RX7 0 0) (CR : CxR T 2 42) (hr : T.2.2.2.2.2.2.2.2.1.sig.returnType = none) (hnm : T.2.2.2.2.2.2.2.2.1.name = "switchOn") {nx : Nat → Kt} (hn : ∀ pc, Sd T 3 (QT T Q 0 0) 0 0 pc (nx pc)) : Sd T 3 (QT T Q 0 0) 0 0 27 (bX7_switchOn_27 Q nx) := x_rV C hr dX7_switchOn_27
set_option maxRecDepth 20000 in
theorem mX7_switchOn (l : Launch) (D : va_G) (cA : Nat → ClassId) (base : Nat) : Mc l D cA base yX7_switchOn cX7_switchOn 3 none rX7_switchOn wX7_switchOn := mc_of (by decide +kernel) kX7_switchOn (fun T Q C CR hr hnm nx hn => bse_ok _ (List.forall_mem_cons.mpr ⟨oX7_switchOn_0 C CR hr hnm hn, List.forall_mem_cons.mpr ⟨oX7_switchOn_7 C CR hr hnm hn, List.forall_mem_cons.mpr ⟨oX7_switchOn_27 C CR hr hnm hn, fun _ h => nomatch h⟩⟩⟩))
theorem dX7_switchOff_0 : decode cX7_switchOff 0 = .ok (.aload_n 1, 1) := by decide +kernel
theorem dX7_switchOff_1 : decode cX7_switchOff 1 = .ok (.iconst 0, 1) := by decide +kernel
theorem dX7_switchOff_2 : decode cX7_switchOff 2 = .ok (.putfield 122, 3) := by decide +kernel
theorem dX7_switchOff_5 : decode cX7_switchOff 5 = .ok (.iconst 0, 1) := by decide +kernel
theorem dX7_switchOff_6 : decode cX7_switchOff 6 = .ok (.istore_n 2, 1) := by decide +kernel
theorem dX7_switchOff_7 : decode cX7_switchOff 7 = .ok (.iload_n 2, 1) := by decide +kernel
theorem dX7_switchOff_8 : decode cX7_switchOff 8 = .ok (.iconst 2, 1) := by decide +kernel
theorem dX7_switchOff_9 : decode cX7_switchOff 9 = .ok (.if_icmp .ge 61, 3) := by decide +kernel
theorem dX7_switchOff_12 : decode cX7_switchOff 12 = .ok (.aload_n 0, 1) := by decide +kernel
theorem dX7_switchOff_13 : decode cX7_switchOff 13 = .ok (.dup, 1) := by decide +kernel
theorem dX7_switchOff_14 : decode cX7_switchOff 14 = .ok (.getfield 275, 3) := by decide +kernel
theorem dX7_switchOff_17 : decode cX7_switchOff 17 = .ok (.aload_n 1, 1) := by decide +kernel
theorem dX7_switchOff_18 : decode cX7_switchOff 18 = .ok (.getfield 133, 3) := by decide +kernel
theorem dX7_switchOff_21 : decode cX7_switchOff 21 = .ok (.iload_n 2, 1) := by decide +kernel
theorem dX7_switchOff_22 : decode cX7_switchOff 22 = .ok (.aaload, 1) := by decide +kernel
theorem dX7_switchOff_23 : decode cX7_switchOff 23 = .ok (.getfield 259, 3) := by decide +kernel
theorem dX7_switchOff_26 : decode cX7_switchOff 26 = .ok (.iadd, 1) := by decide +kernel
theorem dX7_switchOff_27 : decode cX7_switchOff 27 = .ok (.putfield 275, 3) := by decide +kernel
theorem dX7_switchOff_30 : decode cX7_switchOff 30 = .ok (.aload_n 1, 1) := by decide +kernel
theorem dX7_switchOff_31 : decode cX7_switchOff 31 = .ok (.getfield 133, 3) := by decide +kernel
theorem dX7_switchOff_34 : decode cX7_switchOff 34 = .ok (.iload_n 2, 1) := by decide +kernel
theorem dX7_switchOff_35 : decode cX7_switchOff 35 = .ok (.aaload, 1) := by decide +kernel
theorem dX7_switchOff_36 : decode cX7_switchOff 36 = .ok (.invokevirtual 310, 3) := by decide +kernel
theorem dX7_switchOff_39 : decode cX7_switchOff 39 = .ok (.aload_n 0, 1) := by decide +kernel
theorem dX7_switchOff_40 : decode cX7_switchOff 40 = .ok (.getfield 11, 3) := by decide +kernel
theorem dX7_switchOff_43 : decode cX7_switchOff 43 = .ok (.iload_n 2, 1) := by decide +kernel
theorem dX7_switchOff_44 : decode cX7_switchOff 44 = .ok (.aaload, 1) := by decide +kernel
theorem dX7_switchOff_45 : decode cX7_switchOff 45 = .ok (.aload_n 1, 1) := by decide +kernel
theorem dX7_switchOff_46 : decode cX7_switchOff 46 = .ok (.getfield 255, 3) := by decide +kernel
theorem dX7_switchOff_49 : decode cX7_switchOff 49 = .ok (.iload_n 2, 1) := by decide +kernel
theorem dX7_switchOff_50 : decode cX7_switchOff 50 = .ok (.aaload, 1) := by decide +kernel
theorem dX7_switchOff_51 : decode cX7_switchOff 51 = .ok (.iconst 0, 1) := by decide +kernel
theorem dX7_switchOff_52 : decode cX7_switchOff 52 = .ok (.invokevirtual 313, 3) := by decide +kernel
theorem dX7_switchOff_55 : decode cX7_switchOff 55 = .ok (.aload_n 1, 1) := by decide +kernel
theorem dX7_switchOff_56 : decode cX7_switchOff 56 = .ok (.getfield 255, 3) := by decide +kernel
theorem dX7_switchOff_59 : decode cX7_switchOff 59 = .ok (.iload_n 2, 1) := by decide +kernel
theorem dX7_switchOff_60 : decode cX7_switchOff 60 = .ok (.aaload, 1) := by decide +kernel
theorem dX7_switchOff_61 : decode cX7_switchOff 61 = .ok (.invokevirtual 317, 3) := by decide +kernel
theorem dX7_switchOff_64 : decode cX7_switchOff 64 = .ok (.iinc 2 1, 3) := by decide +kernel
theorem dX7_switchOff_67 : decode cX7_switchOff 67 = .ok (.goto (-60), 3) := by decide +kernel
theorem dX7_switchOff_70 : decode cX7_switchOff 70 = .ok (.return_, 1) := by decide +kernel
noncomputable def bX7_switchOff_0 (Q : Option Value → MM → Prop) (nx : Nat → Kt) : Kt := ldA 1 (cI 0 (tZ 0 3 (cI 0 (stI 2 (nx 7)))))
noncomputable def bX7_switchOff_7 (Q : Option Value → MM → Prop) (nx : Nat → Kt) : Kt := ldI 2 (cI 2 (ifc (fun x y => y ≤ x) (nx 70) (ldA 0 (du (gI 7 5 (ldA 1 (gR 0 1 (ldI 2 (aR 15 (gI 3 5 (bop (fun x y => x + y) (tI 7 5 (ldA 1 (gR 0 1 (ldI 2 (aR 15 (cV 0 3 wX3_clear 0 0 0 0 (ldA 0 (gR 7 0 (ldI 2 (aR 13 (ldA 1 (gR 0 0 (ldI 2 (aR 17 (cI 0 (cV 2 1 wX1_moveTo 0 0 0 0 (ldA 1 (gR 0 0 (ldI 2 (aR 17 (cV 0 5 wX5_becomeDark 0 0 0 0 (inc 2 1 (nx 7))))))))))))))))))))))))))))))))))
noncomputable def bX7_switchOff_70 (Q : Option Value → MM → Prop) (nx : Nat → Kt) : Kt := rV Q
noncomputable def kX7_switchOff (Q : Option Value → MM → Prop) (nx : Nat → Kt) : Nat → Kt := bse [(0, bX7_switchOff_0 Q nx), (7, bX7_switchOff_7 Q nx), (70, bX7_switchOff_70 Q nx)]
abbrev rX7_switchOff : Room := { frames := 3, cells := 0, slots := 0, locals := 65 }
noncomputable def wX7_switchOff : Mw := mw 3 kX7_switchOff
set_option maxRecDepth 20000 in
theorem oX7_switchOff_0 {T : Ct} {Q : Option Value → MM → Prop} (C : Cx T cX7_switchOff 3 RX7 0 0) (CR : CxR T 3 65) (hr : T.2.2.2.2.2.2.2.2.1.sig.returnType = none) (hnm : T.2.2.2.2.2.2.2.2.1.name = "switchOff") {nx : Nat → Kt} (hn : ∀ pc, Sd T 3 (QT T Q 0 0) 0 0 pc (nx pc)) : Sd T 3 (QT T Q 0 0) 0 0 0 (bX7_switchOff_0 Q nx) := x_al_n C dX7_switchOff_0 rfl (x_ic C dX7_switchOff_1 (by decide) (pf_X7_122 C dX7_switchOff_2 (x_ic C dX7_switchOff_5 (by decide) (x_is_n C dX7_switchOff_6 rfl (by decide) (hn 7)))))
set_option maxRecDepth 20000 in
theorem oX7_switchOff_7 {T : Ct} {Q : Option Value → MM → Prop} (C : Cx T cX7_switchOff 3 RX7 0 0) (CR : CxR T 3 65) (hr : T.2.2.2.2.2.2.2.2.1.sig.returnType = none) (hnm : T.2.2.2.2.2.2.2.2.1.name = "switchOff") {nx : Nat → Kt} (hn : ∀ pc, Sd T 3 (QT T Q 0 0) 0 0 pc (nx pc)) : Sd T 3 (QT T Q 0 0) 0 0 7 (bX7_switchOff_7 Q nx) := x_il_n C dX7_switchOff_7 rfl (x_ic C dX7_switchOff_8 (by decide) (x_ic_ge C (hn 70) dX7_switchOff_9 (by decide) (x_al_n C dX7_switchOff_12 rfl (x_dup C dX7_switchOff_13 (gf_X7_275 C dX7_switchOff_14 (x_al_n C dX7_switchOff_17 rfl (gf_X7_133 C dX7_switchOff_18 (x_il_n C dX7_switchOff_21 rfl (x_aald C (kd := 15) (t0 := 5) (by decide) (by decide) (fun _ => rfl) dX7_switchOff_22 (gf_X7_259 C dX7_switchOff_23 (x_iadd C dX7_switchOff_26 (pf_X7_275 C dX7_switchOff_27 (x_al_n C dX7_switchOff_30 rfl (gf_X7_133 C dX7_switchOff_31 (x_il_n C dX7_switchOff_34 rfl (x_aald C (kd := 15) (t0 := 5) (by decide) (by decide) (fun _ => rfl) dX7_switchOff_35 (x_cV C CR mX3_clear ⟨co_X3_clear, init_X3, md_X3_clear, by decide, by decide⟩ (ci := 3) (TX := TX3) (N := 7) rfl (by decide) ml_X7_310 im_X3_clear se_X3_clear dX7_switchOff_36 (x_al_n C dX7_switchOff_39 rfl (gf_X7_11 C dX7_switchOff_40 (x_il_n C dX7_switchOff_43 rfl (x_aald C (kd := 13) (t0 := 3) (by decide) (by decide) (fun _ => rfl) dX7_switchOff_44 (x_al_n C dX7_switchOff_45 rfl (gf_X7_255 C dX7_switchOff_46 (x_il_n C dX7_switchOff_49 rfl (x_aald C (kd := 17) (t0 := 7) (by decide) (by decide) (fun _ => rfl) dX7_switchOff_50 (x_ic C dX7_switchOff_51 (by decide) (x_cV C CR mX1_moveTo ⟨co_X1_moveTo, init_X1, md_X1_moveTo, by decide, by decide⟩ (ci := 1) (TX := TX1) (N := 9) rfl (by decide) ml_X7_313 im_X1_moveTo se_X1_moveTo dX7_switchOff_52 (x_al_n C dX7_switchOff_55 rfl (gf_X7_255 C dX7_switchOff_56 (x_il_n C dX7_switchOff_59 rfl (x_aald C (kd := 17) (t0 := 7) (by decide) (by decide) (fun _ => rfl) dX7_switchOff_60 (x_cV C CR mX5_becomeDark ⟨co_X5_becomeDark, init_X5, md_X5_becomeDark, by decide, by decide⟩ (ci := 5) (TX := TX5) (N := 18) rfl (by decide) ml_X7_317 im_X5_becomeDark se_X5_becomeDark dX7_switchOff_61 (x_inc C dX7_switchOff_64 (by decide) (by decide) (x_goto C (hn 7) dX7_switchOff_67 (by decide)))))))))))))))))))))))))))))))))))
set_option maxRecDepth 20000 in
theorem oX7_switchOff_70 {T : Ct} {Q : Option Value → MM → Prop} (C : Cx T cX7_switchOff 3 RX7 0 0) (CR : CxR T 3 65) (hr : T.2.2.2.2.2.2.2.2.1.sig.returnType = none) (hnm : T.2.2.2.2.2.2.2.2.1.name = "switchOff") {nx : Nat → Kt} (hn : ∀ pc, Sd T 3 (QT T Q 0 0) 0 0 pc (nx pc)) : Sd T 3 (QT T Q 0 0) 0 0 70 (bX7_switchOff_70 Q nx) := x_rV C hr dX7_switchOff_70
set_option maxRecDepth 20000 in
theorem mX7_switchOff (l : Launch) (D : va_G) (cA : Nat → ClassId) (base : Nat) : Mc l D cA base yX7_switchOff cX7_switchOff 3 none rX7_switchOff wX7_switchOff := mc_of (by decide +kernel) kX7_switchOff (fun T Q C CR hr hnm nx hn => bse_ok _ (List.forall_mem_cons.mpr ⟨oX7_switchOff_0 C CR hr hnm hn, List.forall_mem_cons.mpr ⟨oX7_switchOff_7 C CR hr hnm hn, List.forall_mem_cons.mpr ⟨oX7_switchOff_70 C CR hr hnm hn, fun _ h => nomatch h⟩⟩⟩))
theorem dX7_takeOut_0 : decode cX7_takeOut 0 = .ok (.aload_n 1, 1) := by decide +kernel
theorem dX7_takeOut_1 : decode cX7_takeOut 1 = .ok (.invokevirtual 116, 3) := by decide +kernel
theorem dX7_takeOut_4 : decode cX7_takeOut 4 = .ok (.ifCond .ne 4, 3) := by decide +kernel
theorem dX7_takeOut_7 : decode cX7_takeOut 7 = .ok (.return_, 1) := by decide +kernel
theorem dX7_takeOut_8 : decode cX7_takeOut 8 = .ok (.aload_n 0, 1) := by decide +kernel
theorem dX7_takeOut_9 : decode cX7_takeOut 9 = .ok (.aload_n 1, 1) := by decide +kernel
theorem dX7_takeOut_10 : decode cX7_takeOut 10 = .ok (.invokevirtual 128, 3) := by decide +kernel
theorem dX7_takeOut_13 : decode cX7_takeOut 13 = .ok (.iconst 0, 1) := by decide +kernel
theorem dX7_takeOut_14 : decode cX7_takeOut 14 = .ok (.istore_n 2, 1) := by decide +kernel
theorem dX7_takeOut_15 : decode cX7_takeOut 15 = .ok (.iload_n 2, 1) := by decide +kernel
theorem dX7_takeOut_16 : decode cX7_takeOut 16 = .ok (.iconst 2, 1) := by decide +kernel
theorem dX7_takeOut_17 : decode cX7_takeOut 17 = .ok (.if_icmp .ge 26, 3) := by decide +kernel
theorem dX7_takeOut_20 : decode cX7_takeOut 20 = .ok (.aload_n 1, 1) := by decide +kernel
theorem dX7_takeOut_21 : decode cX7_takeOut 21 = .ok (.getfield 255, 3) := by decide +kernel
theorem dX7_takeOut_24 : decode cX7_takeOut 24 = .ok (.iload_n 2, 1) := by decide +kernel
theorem dX7_takeOut_25 : decode cX7_takeOut 25 = .ok (.aaload, 1) := by decide +kernel
theorem dX7_takeOut_26 : decode cX7_takeOut 26 = .ok (.iconst (-1), 1) := by decide +kernel
theorem dX7_takeOut_27 : decode cX7_takeOut 27 = .ok (.putfield 156, 3) := by decide +kernel
theorem dX7_takeOut_30 : decode cX7_takeOut 30 = .ok (.aload_n 1, 1) := by decide +kernel
theorem dX7_takeOut_31 : decode cX7_takeOut 31 = .ok (.getfield 255, 3) := by decide +kernel
theorem dX7_takeOut_34 : decode cX7_takeOut 34 = .ok (.iload_n 2, 1) := by decide +kernel
theorem dX7_takeOut_35 : decode cX7_takeOut 35 = .ok (.aconst_null, 1) := by decide +kernel
theorem dX7_takeOut_36 : decode cX7_takeOut 36 = .ok (.aastore, 1) := by decide +kernel
theorem dX7_takeOut_37 : decode cX7_takeOut 37 = .ok (.iinc 2 1, 3) := by decide +kernel
theorem dX7_takeOut_40 : decode cX7_takeOut 40 = .ok (.goto (-25), 3) := by decide +kernel
theorem dX7_takeOut_43 : decode cX7_takeOut 43 = .ok (.return_, 1) := by decide +kernel
noncomputable def bX7_takeOut_0 (Q : Option Value → MM → Prop) (nx : Nat → Kt) : Kt := ldA 1 (cV 0 0 wX0_isPlugged 0 0 0 0 (ifz (fun x => x = 0) (rV Q) (nx 8)))
noncomputable def bX7_takeOut_8 (Q : Option Value → MM → Prop) (nx : Nat → Kt) : Kt := ldA 0 (ldA 1 (cV 1 7 wX7_switchOff 0 0 0 0 (cI 0 (stI 2 (nx 15)))))
noncomputable def bX7_takeOut_15 (Q : Option Value → MM → Prop) (nx : Nat → Kt) : Kt := ldI 2 (cI 2 (ifc (fun x y => y ≤ x) (nx 43) (ldA 1 (gR 0 0 (ldI 2 (aR 17 (cI (-1) (tI 5 2 (ldA 1 (gR 0 0 (ldI 2 (nul (sAR 5 (inc 2 1 (nx 15)))))))))))))))
noncomputable def bX7_takeOut_43 (Q : Option Value → MM → Prop) (nx : Nat → Kt) : Kt := rV Q
noncomputable def kX7_takeOut (Q : Option Value → MM → Prop) (nx : Nat → Kt) : Nat → Kt := bse [(0, bX7_takeOut_0 Q nx), (8, bX7_takeOut_8 Q nx), (15, bX7_takeOut_15 Q nx), (43, bX7_takeOut_43 Q nx)]
abbrev rX7_takeOut : Room := { frames := 4, cells := 0, slots := 0, locals := 87 }
noncomputable def wX7_takeOut : Mw := mw 3 kX7_takeOut
set_option maxRecDepth 20000 in
theorem oX7_takeOut_0 {T : Ct} {Q : Option Value → MM → Prop} (C : Cx T cX7_takeOut 3 RX7 0 0) (CR : CxR T 4 87) (hr : T.2.2.2.2.2.2.2.2.1.sig.returnType = none) (hnm : T.2.2.2.2.2.2.2.2.1.name = "takeOut") {nx : Nat → Kt} (hn : ∀ pc, Sd T 3 (QT T Q 0 0) 0 0 pc (nx pc)) : Sd T 3 (QT T Q 0 0) 0 0 0 (bX7_takeOut_0 Q nx) := x_al_n C dX7_takeOut_0 rfl (x_cV C CR mX0_isPlugged ⟨co_X0_isPlugged, init_X0, md_X0_isPlugged, by decide, by decide⟩ (ci := 0) (TX := TX0) (N := 5) rfl (by decide) ml_X7_116 im_X0_isPlugged se_X0_isPlugged dX7_takeOut_1 (x_if_ne C (hn 8) dX7_takeOut_4 (by decide) (x_rV C hr dX7_takeOut_7)))
set_option maxRecDepth 20000 in
theorem oX7_takeOut_8 {T : Ct} {Q : Option Value → MM → Prop} (C : Cx T cX7_takeOut 3 RX7 0 0) (CR : CxR T 4 87) (hr : T.2.2.2.2.2.2.2.2.1.sig.returnType = none) (hnm : T.2.2.2.2.2.2.2.2.1.name = "takeOut") {nx : Nat → Kt} (hn : ∀ pc, Sd T 3 (QT T Q 0 0) 0 0 pc (nx pc)) : Sd T 3 (QT T Q 0 0) 0 0 8 (bX7_takeOut_8 Q nx) := x_al_n C dX7_takeOut_8 rfl (x_al_n C dX7_takeOut_9 rfl (x_cV C CR mX7_switchOff ⟨co_X7_switchOff, init_X7, md_X7_switchOff, by decide, by decide⟩ (ci := 7) (TX := TX7) (N := 9) rfl (by decide) ml_X7_128 im_X7_switchOff se_X7_switchOff dX7_takeOut_10 (x_ic C dX7_takeOut_13 (by decide) (x_is_n C dX7_takeOut_14 rfl (by decide) (hn 15)))))
set_option maxRecDepth 20000 in
theorem oX7_takeOut_15 {T : Ct} {Q : Option Value → MM → Prop} (C : Cx T cX7_takeOut 3 RX7 0 0) (CR : CxR T 4 87) (hr : T.2.2.2.2.2.2.2.2.1.sig.returnType = none) (hnm : T.2.2.2.2.2.2.2.2.1.name = "takeOut") {nx : Nat → Kt} (hn : ∀ pc, Sd T 3 (QT T Q 0 0) 0 0 pc (nx pc)) : Sd T 3 (QT T Q 0 0) 0 0 15 (bX7_takeOut_15 Q nx) := x_il_n C dX7_takeOut_15 rfl (x_ic C dX7_takeOut_16 (by decide) (x_ic_ge C (hn 43) dX7_takeOut_17 (by decide) (x_al_n C dX7_takeOut_20 rfl (gf_X7_255 C dX7_takeOut_21 (x_il_n C dX7_takeOut_24 rfl (x_aald C (kd := 17) (t0 := 7) (by decide) (by decide) (fun _ => rfl) dX7_takeOut_25 (x_ic C dX7_takeOut_26 (by decide) (pf_X7_156 C dX7_takeOut_27 (x_al_n C dX7_takeOut_30 rfl (gf_X7_255 C dX7_takeOut_31 (x_il_n C dX7_takeOut_34 rfl (x_null C dX7_takeOut_35 (x_aast C (ci := 5) (t0 := 7) (TX := TX5) (N := 18) (by decide) rfl (fun _ => rfl) dX7_takeOut_36 (x_inc C dX7_takeOut_37 (by decide) (by decide) (x_goto C (hn 15) dX7_takeOut_40 (by decide))))))))))))))))
set_option maxRecDepth 20000 in
theorem oX7_takeOut_43 {T : Ct} {Q : Option Value → MM → Prop} (C : Cx T cX7_takeOut 3 RX7 0 0) (CR : CxR T 4 87) (hr : T.2.2.2.2.2.2.2.2.1.sig.returnType = none) (hnm : T.2.2.2.2.2.2.2.2.1.name = "takeOut") {nx : Nat → Kt} (hn : ∀ pc, Sd T 3 (QT T Q 0 0) 0 0 pc (nx pc)) : Sd T 3 (QT T Q 0 0) 0 0 43 (bX7_takeOut_43 Q nx) := x_rV C hr dX7_takeOut_43
set_option maxRecDepth 20000 in
theorem mX7_takeOut (l : Launch) (D : va_G) (cA : Nat → ClassId) (base : Nat) : Mc l D cA base yX7_takeOut cX7_takeOut 3 none rX7_takeOut wX7_takeOut := mc_of (by decide +kernel) kX7_takeOut (fun T Q C CR hr hnm nx hn => bse_ok _ (List.forall_mem_cons.mpr ⟨oX7_takeOut_0 C CR hr hnm hn, List.forall_mem_cons.mpr ⟨oX7_takeOut_8 C CR hr hnm hn, List.forall_mem_cons.mpr ⟨oX7_takeOut_15 C CR hr hnm hn, List.forall_mem_cons.mpr ⟨oX7_takeOut_43 C CR hr hnm hn, fun _ h => nomatch h⟩⟩⟩⟩))
theorem dX7_receive_0 : decode cX7_receive 0 = .ok (.aload_n 0, 1) := by decide +kernel
theorem dX7_receive_1 : decode cX7_receive 1 = .ok (.getfield 11, 3) := by decide +kernel
theorem dX7_receive_4 : decode cX7_receive 4 = .ok (.iconst 1, 1) := by decide +kernel
theorem dX7_receive_5 : decode cX7_receive 5 = .ok (.iload_n 3, 1) := by decide +kernel
theorem dX7_receive_6 : decode cX7_receive 6 = .ok (.isub, 1) := by decide +kernel
theorem dX7_receive_7 : decode cX7_receive 7 = .ok (.aaload, 1) := by decide +kernel
theorem dX7_receive_8 : decode cX7_receive 8 = .ok (.aload_n 1, 1) := by decide +kernel
theorem dX7_receive_9 : decode cX7_receive 9 = .ok (.aload_n 2, 1) := by decide +kernel
theorem dX7_receive_10 : decode cX7_receive 10 = .ok (.getfield 69, 3) := by decide +kernel
theorem dX7_receive_13 : decode cX7_receive 13 = .ok (.getfield 205, 3) := by decide +kernel
theorem dX7_receive_16 : decode cX7_receive 16 = .ok (.aload_n 0, 1) := by decide +kernel
theorem dX7_receive_17 : decode cX7_receive 17 = .ok (.getfield 177, 3) := by decide +kernel
theorem dX7_receive_20 : decode cX7_receive 20 = .ok (.invokevirtual 363, 3) := by decide +kernel
theorem dX7_receive_23 : decode cX7_receive 23 = .ok (.aload_n 1, 1) := by decide +kernel
theorem dX7_receive_24 : decode cX7_receive 24 = .ok (.getfield 193, 3) := by decide +kernel
theorem dX7_receive_27 : decode cX7_receive 27 = .ok (.ifCond .eq 13, 3) := by decide +kernel
theorem dX7_receive_30 : decode cX7_receive 30 = .ok (.aload_n 0, 1) := by decide +kernel
theorem dX7_receive_31 : decode cX7_receive 31 = .ok (.dup, 1) := by decide +kernel
theorem dX7_receive_32 : decode cX7_receive 32 = .ok (.getfield 281, 3) := by decide +kernel
theorem dX7_receive_35 : decode cX7_receive 35 = .ok (.iconst 1, 1) := by decide +kernel
theorem dX7_receive_36 : decode cX7_receive 36 = .ok (.iadd, 1) := by decide +kernel
theorem dX7_receive_37 : decode cX7_receive 37 = .ok (.putfield 281, 3) := by decide +kernel
theorem dX7_receive_40 : decode cX7_receive 40 = .ok (.iconst 0, 1) := by decide +kernel
theorem dX7_receive_41 : decode cX7_receive 41 = .ok (.istore 4, 2) := by decide +kernel
theorem dX7_receive_43 : decode cX7_receive 43 = .ok (.iload 4, 2) := by decide +kernel
theorem dX7_receive_45 : decode cX7_receive 45 = .ok (.bipush 8, 2) := by decide +kernel
theorem dX7_receive_47 : decode cX7_receive 47 = .ok (.if_icmp .ge 25, 3) := by decide +kernel
theorem dX7_receive_50 : decode cX7_receive 50 = .ok (.aload_n 0, 1) := by decide +kernel
theorem dX7_receive_51 : decode cX7_receive 51 = .ok (.getfield 17, 3) := by decide +kernel
theorem dX7_receive_54 : decode cX7_receive 54 = .ok (.iload 4, 2) := by decide +kernel
theorem dX7_receive_56 : decode cX7_receive 56 = .ok (.aaload, 1) := by decide +kernel
theorem dX7_receive_57 : decode cX7_receive 57 = .ok (.getfield 133, 3) := by decide +kernel
theorem dX7_receive_60 : decode cX7_receive 60 = .ok (.iload_n 3, 1) := by decide +kernel
theorem dX7_receive_61 : decode cX7_receive 61 = .ok (.aaload, 1) := by decide +kernel
theorem dX7_receive_62 : decode cX7_receive 62 = .ok (.aload_n 1, 1) := by decide +kernel
theorem dX7_receive_63 : decode cX7_receive 63 = .ok (.invokevirtual 367, 3) := by decide +kernel
theorem dX7_receive_66 : decode cX7_receive 66 = .ok (.iinc 4 1, 3) := by decide +kernel
theorem dX7_receive_69 : decode cX7_receive 69 = .ok (.goto (-26), 3) := by decide +kernel
theorem dX7_receive_72 : decode cX7_receive 72 = .ok (.return_, 1) := by decide +kernel
noncomputable def bX7_receive_0 (Q : Option Value → MM → Prop) (nx : Nat → Kt) : Kt := ldA 0 (gR 7 0 (cI 1 (ldI 3 (bop (fun x y => x - y) (aR 13 (ldA 1 (ldA 2 (gR 5 0 (gI 6 3 (ldA 0 (gI 7 2 (cV 3 1 wX1_keep 0 0 0 0 (ldA 1 (gI 2 6 (ifz (fun x => x = 0) (nx 40) (ldA 0 (du (gI 7 8 (cI 1 (bop (fun x y => x + y) (tI 7 8 (nx 40))))))))))))))))))))))
noncomputable def bX7_receive_40 (Q : Option Value → MM → Prop) (nx : Nat → Kt) : Kt := cI 0 (stI 4 (nx 43))
noncomputable def bX7_receive_43 (Q : Option Value → MM → Prop) (nx : Nat → Kt) : Kt := ldI 4 (cI 8 (ifc (fun x y => y ≤ x) (nx 72) (ldA 0 (gR 7 1 (ldI 4 (aR 12 (gR 0 1 (ldI 3 (aR 15 (ldA 1 (cV 1 3 wX3_markOvertaken 0 0 0 0 (inc 4 1 (nx 43)))))))))))))
noncomputable def bX7_receive_72 (Q : Option Value → MM → Prop) (nx : Nat → Kt) : Kt := rV Q
noncomputable def kX7_receive (Q : Option Value → MM → Prop) (nx : Nat → Kt) : Nat → Kt := bse [(0, bX7_receive_0 Q nx), (40, bX7_receive_40 Q nx), (43, bX7_receive_43 Q nx), (72, bX7_receive_72 Q nx)]
abbrev rX7_receive : Room := { frames := 2, cells := 0, slots := 0, locals := 45 }
noncomputable def wX7_receive : Mw := mw 5 kX7_receive
set_option maxRecDepth 20000 in
theorem oX7_receive_0 {T : Ct} {Q : Option Value → MM → Prop} (C : Cx T cX7_receive 5 RX7 0 0) (CR : CxR T 2 45) (hr : T.2.2.2.2.2.2.2.2.1.sig.returnType = none) (hnm : T.2.2.2.2.2.2.2.2.1.name = "receive") {nx : Nat → Kt} (hn : ∀ pc, Sd T 5 (QT T Q 0 0) 0 0 pc (nx pc)) : Sd T 5 (QT T Q 0 0) 0 0 0 (bX7_receive_0 Q nx) := x_al_n C dX7_receive_0 rfl (gf_X7_11 C dX7_receive_1 (x_ic C dX7_receive_4 (by decide) (x_il_n C dX7_receive_5 rfl (x_isub C dX7_receive_6 (x_aald C (kd := 13) (t0 := 3) (by decide) (by decide) (fun _ => rfl) dX7_receive_7 (x_al_n C dX7_receive_8 rfl (x_al_n C dX7_receive_9 rfl (gf_X7_69 C dX7_receive_10 (gf_X7_205 C dX7_receive_13 (x_al_n C dX7_receive_16 rfl (gf_X7_177 C dX7_receive_17 (x_cV C CR mX1_keep ⟨co_X1_keep, init_X1, md_X1_keep, by decide, by decide⟩ (ci := 1) (TX := TX1) (N := 9) rfl (by decide) ml_X7_363 im_X1_keep se_X1_keep dX7_receive_20 (x_al_n C dX7_receive_23 rfl (gf_X7_193 C dX7_receive_24 (x_if_eq C (hn 40) dX7_receive_27 (by decide) (x_al_n C dX7_receive_30 rfl (x_dup C dX7_receive_31 (gf_X7_281 C dX7_receive_32 (x_ic C dX7_receive_35 (by decide) (x_iadd C dX7_receive_36 (pf_X7_281 C dX7_receive_37 (hn 40))))))))))))))))))))))
set_option maxRecDepth 20000 in
theorem oX7_receive_40 {T : Ct} {Q : Option Value → MM → Prop} (C : Cx T cX7_receive 5 RX7 0 0) (CR : CxR T 2 45) (hr : T.2.2.2.2.2.2.2.2.1.sig.returnType = none) (hnm : T.2.2.2.2.2.2.2.2.1.name = "receive") {nx : Nat → Kt} (hn : ∀ pc, Sd T 5 (QT T Q 0 0) 0 0 pc (nx pc)) : Sd T 5 (QT T Q 0 0) 0 0 40 (bX7_receive_40 Q nx) := x_ic C dX7_receive_40 (by decide) (x_is C dX7_receive_41 (by decide) (hn 43))
set_option maxRecDepth 20000 in
theorem oX7_receive_43 {T : Ct} {Q : Option Value → MM → Prop} (C : Cx T cX7_receive 5 RX7 0 0) (CR : CxR T 2 45) (hr : T.2.2.2.2.2.2.2.2.1.sig.returnType = none) (hnm : T.2.2.2.2.2.2.2.2.1.name = "receive") {nx : Nat → Kt} (hn : ∀ pc, Sd T 5 (QT T Q 0 0) 0 0 pc (nx pc)) : Sd T 5 (QT T Q 0 0) 0 0 43 (bX7_receive_43 Q nx) := x_il C dX7_receive_43 (x_bp C dX7_receive_45 (by decide) (x_ic_ge C (hn 72) dX7_receive_47 (by decide) (x_al_n C dX7_receive_50 rfl (gf_X7_17 C dX7_receive_51 (x_il C dX7_receive_54 (x_aald C (kd := 12) (t0 := 2) (by decide) (by decide) (fun _ => rfl) dX7_receive_56 (gf_X7_133 C dX7_receive_57 (x_il_n C dX7_receive_60 rfl (x_aald C (kd := 15) (t0 := 5) (by decide) (by decide) (fun _ => rfl) dX7_receive_61 (x_al_n C dX7_receive_62 rfl (x_cV C CR mX3_markOvertaken ⟨co_X3_markOvertaken, init_X3, md_X3_markOvertaken, by decide, by decide⟩ (ci := 3) (TX := TX3) (N := 7) rfl (by decide) ml_X7_367 im_X3_markOvertaken se_X3_markOvertaken dX7_receive_63 (x_inc C dX7_receive_66 (by decide) (by decide) (x_goto C (hn 43) dX7_receive_69 (by decide))))))))))))))
set_option maxRecDepth 20000 in
theorem oX7_receive_72 {T : Ct} {Q : Option Value → MM → Prop} (C : Cx T cX7_receive 5 RX7 0 0) (CR : CxR T 2 45) (hr : T.2.2.2.2.2.2.2.2.1.sig.returnType = none) (hnm : T.2.2.2.2.2.2.2.2.1.name = "receive") {nx : Nat → Kt} (hn : ∀ pc, Sd T 5 (QT T Q 0 0) 0 0 pc (nx pc)) : Sd T 5 (QT T Q 0 0) 0 0 72 (bX7_receive_72 Q nx) := x_rV C hr dX7_receive_72
set_option maxRecDepth 20000 in
theorem mX7_receive (l : Launch) (D : va_G) (cA : Nat → ClassId) (base : Nat) : Mc l D cA base yX7_receive cX7_receive 5 none rX7_receive wX7_receive := mc_of (by decide +kernel) kX7_receive (fun T Q C CR hr hnm nx hn => bse_ok _ (List.forall_mem_cons.mpr ⟨oX7_receive_0 C CR hr hnm hn, List.forall_mem_cons.mpr ⟨oX7_receive_40 C CR hr hnm hn, List.forall_mem_cons.mpr ⟨oX7_receive_43 C CR hr hnm hn, List.forall_mem_cons.mpr ⟨oX7_receive_72 C CR hr hnm hn, fun _ h => nomatch h⟩⟩⟩⟩))
theorem dX7_bringFrames_0 : decode cX7_bringFrames 0 = .ok (.iconst 0, 1) := by decide +kernel
theorem dX7_bringFrames_1 : decode cX7_bringFrames 1 = .ok (.istore 4, 2) := by decide +kernel
theorem dX7_bringFrames_3 : decode cX7_bringFrames 3 = .ok (.iload 4, 2) := by decide +kernel
theorem dX7_bringFrames_5 : decode cX7_bringFrames 5 = .ok (.sipush 200, 3) := by decide +kernel
theorem dX7_bringFrames_8 : decode cX7_bringFrames 8 = .ok (.if_icmp .ge 58, 3) := by decide +kernel
theorem dX7_bringFrames_11 : decode cX7_bringFrames 11 = .ok (.aload_n 1, 1) := by decide +kernel
theorem dX7_bringFrames_12 : decode cX7_bringFrames 12 = .ok (.aload_n 0, 1) := by decide +kernel
theorem dX7_bringFrames_13 : decode cX7_bringFrames 13 = .ok (.getfield 177, 3) := by decide +kernel
theorem dX7_bringFrames_16 : decode cX7_bringFrames 16 = .ok (.invokevirtual 355, 3) := by decide +kernel
theorem dX7_bringFrames_19 : decode cX7_bringFrames 19 = .ok (.astore 5, 2) := by decide +kernel
theorem dX7_bringFrames_21 : decode cX7_bringFrames 21 = .ok (.aload 5, 2) := by decide +kernel
theorem dX7_bringFrames_23 : decode cX7_bringFrames 23 = .ok (.ifnonnull 4, 3) := by decide +kernel
theorem dX7_bringFrames_26 : decode cX7_bringFrames 26 = .ok (.return_, 1) := by decide +kernel
theorem dX7_bringFrames_27 : decode cX7_bringFrames 27 = .ok (.aload_n 2, 1) := by decide +kernel
theorem dX7_bringFrames_28 : decode cX7_bringFrames 28 = .ok (.getfield 69, 3) := by decide +kernel
theorem dX7_bringFrames_31 : decode cX7_bringFrames 31 = .ok (.bipush 16, 2) := by decide +kernel
theorem dX7_bringFrames_33 : decode cX7_bringFrames 33 = .ok (.invokevirtual 199, 3) := by decide +kernel
theorem dX7_bringFrames_36 : decode cX7_bringFrames 36 = .ok (.ifCond .eq 14, 3) := by decide +kernel
theorem dX7_bringFrames_39 : decode cX7_bringFrames 39 = .ok (.aload_n 0, 1) := by decide +kernel
theorem dX7_bringFrames_40 : decode cX7_bringFrames 40 = .ok (.aload 5, 2) := by decide +kernel
theorem dX7_bringFrames_42 : decode cX7_bringFrames 42 = .ok (.aload_n 2, 1) := by decide +kernel
theorem dX7_bringFrames_43 : decode cX7_bringFrames 43 = .ok (.iload_n 3, 1) := by decide +kernel
theorem dX7_bringFrames_44 : decode cX7_bringFrames 44 = .ok (.invokevirtual 359, 3) := by decide +kernel
theorem dX7_bringFrames_47 : decode cX7_bringFrames 47 = .ok (.goto 13, 3) := by decide +kernel
theorem dX7_bringFrames_50 : decode cX7_bringFrames 50 = .ok (.aload_n 0, 1) := by decide +kernel
theorem dX7_bringFrames_51 : decode cX7_bringFrames 51 = .ok (.dup, 1) := by decide +kernel
theorem dX7_bringFrames_52 : decode cX7_bringFrames 52 = .ok (.getfield 272, 3) := by decide +kernel
theorem dX7_bringFrames_55 : decode cX7_bringFrames 55 = .ok (.iconst 1, 1) := by decide +kernel
theorem dX7_bringFrames_56 : decode cX7_bringFrames 56 = .ok (.iadd, 1) := by decide +kernel
theorem dX7_bringFrames_57 : decode cX7_bringFrames 57 = .ok (.putfield 272, 3) := by decide +kernel
theorem dX7_bringFrames_60 : decode cX7_bringFrames 60 = .ok (.iinc 4 1, 3) := by decide +kernel
theorem dX7_bringFrames_63 : decode cX7_bringFrames 63 = .ok (.goto (-60), 3) := by decide +kernel
theorem dX7_bringFrames_66 : decode cX7_bringFrames 66 = .ok (.return_, 1) := by decide +kernel
noncomputable def bX7_bringFrames_0 (Q : Option Value → MM → Prop) (nx : Nat → Kt) : Kt := cI 0 (stI 4 (nx 3))
noncomputable def bX7_bringFrames_3 (Q : Option Value → MM → Prop) (nx : Nat → Kt) : Kt := ldI 4 (cI 200 (ifc (fun x y => y ≤ x) (nx 66) (ldA 1 (ldA 0 (gI 7 2 (cV 1 3 wX3_takeDueFrame 0 0 0 0 (stA 5 (ldA 5 (ifn (rV Q) (nx 27))))))))))
noncomputable def bX7_bringFrames_27 (Q : Option Value → MM → Prop) (nx : Nat → Kt) : Kt := ldA 2 (gR 5 0 (cI 16 (cV 1 6 wX6_has 0 0 0 0 (ifz (fun x => x = 0) (nx 50) (ldA 0 (ldA 5 (ldA 2 (ldI 3 (cV 3 7 wX7_receive 0 0 0 0 (nx 60))))))))))
noncomputable def bX7_bringFrames_50 (Q : Option Value → MM → Prop) (nx : Nat → Kt) : Kt := ldA 0 (du (gI 7 4 (cI 1 (bop (fun x y => x + y) (tI 7 4 (nx 60))))))
noncomputable def bX7_bringFrames_60 (Q : Option Value → MM → Prop) (nx : Nat → Kt) : Kt := inc 4 1 (nx 3)
noncomputable def bX7_bringFrames_66 (Q : Option Value → MM → Prop) (nx : Nat → Kt) : Kt := rV Q
noncomputable def kX7_bringFrames (Q : Option Value → MM → Prop) (nx : Nat → Kt) : Nat → Kt := bse [(0, bX7_bringFrames_0 Q nx), (3, bX7_bringFrames_3 Q nx), (27, bX7_bringFrames_27 Q nx), (50, bX7_bringFrames_50 Q nx), (60, bX7_bringFrames_60 Q nx), (66, bX7_bringFrames_66 Q nx)]
abbrev rX7_bringFrames : Room := { frames := 3, cells := 0, slots := 0, locals := 69 }
noncomputable def wX7_bringFrames : Mw := mw 6 kX7_bringFrames
set_option maxRecDepth 20000 in
theorem oX7_bringFrames_0 {T : Ct} {Q : Option Value → MM → Prop} (C : Cx T cX7_bringFrames 6 RX7 0 0) (CR : CxR T 3 69) (hr : T.2.2.2.2.2.2.2.2.1.sig.returnType = none) (hnm : T.2.2.2.2.2.2.2.2.1.name = "bringFrames") {nx : Nat → Kt} (hn : ∀ pc, Sd T 6 (QT T Q 0 0) 0 0 pc (nx pc)) : Sd T 6 (QT T Q 0 0) 0 0 0 (bX7_bringFrames_0 Q nx) := x_ic C dX7_bringFrames_0 (by decide) (x_is C dX7_bringFrames_1 (by decide) (hn 3))
set_option maxRecDepth 20000 in
theorem oX7_bringFrames_3 {T : Ct} {Q : Option Value → MM → Prop} (C : Cx T cX7_bringFrames 6 RX7 0 0) (CR : CxR T 3 69) (hr : T.2.2.2.2.2.2.2.2.1.sig.returnType = none) (hnm : T.2.2.2.2.2.2.2.2.1.name = "bringFrames") {nx : Nat → Kt} (hn : ∀ pc, Sd T 6 (QT T Q 0 0) 0 0 pc (nx pc)) : Sd T 6 (QT T Q 0 0) 0 0 3 (bX7_bringFrames_3 Q nx) := x_il C dX7_bringFrames_3 (x_sp C dX7_bringFrames_5 (by decide) (x_ic_ge C (hn 66) dX7_bringFrames_8 (by decide) (x_al_n C dX7_bringFrames_11 rfl (x_al_n C dX7_bringFrames_12 rfl (gf_X7_177 C dX7_bringFrames_13 (x_cV C CR mX3_takeDueFrame ⟨co_X3_takeDueFrame, init_X3, md_X3_takeDueFrame, by decide, by decide⟩ (ci := 3) (TX := TX3) (N := 7) rfl (by decide) ml_X7_355 im_X3_takeDueFrame se_X3_takeDueFrame dX7_bringFrames_16 (x_as C dX7_bringFrames_19 (by decide) (x_al C dX7_bringFrames_21 (x_ifnonnull C (hn 27) dX7_bringFrames_23 (by decide) (x_rV C hr dX7_bringFrames_26))))))))))
set_option maxRecDepth 20000 in
theorem oX7_bringFrames_27 {T : Ct} {Q : Option Value → MM → Prop} (C : Cx T cX7_bringFrames 6 RX7 0 0) (CR : CxR T 3 69) (hr : T.2.2.2.2.2.2.2.2.1.sig.returnType = none) (hnm : T.2.2.2.2.2.2.2.2.1.name = "bringFrames") {nx : Nat → Kt} (hn : ∀ pc, Sd T 6 (QT T Q 0 0) 0 0 pc (nx pc)) : Sd T 6 (QT T Q 0 0) 0 0 27 (bX7_bringFrames_27 Q nx) := x_al_n C dX7_bringFrames_27 rfl (gf_X7_69 C dX7_bringFrames_28 (x_bp C dX7_bringFrames_31 (by decide) (x_cV C CR mX6_has ⟨co_X6_has, init_X6, md_X6_has, by decide, by decide⟩ (ci := 6) (TX := TX6) (N := 5) rfl (by decide) ml_X7_199 im_X6_has se_X6_has dX7_bringFrames_33 (x_if_eq C (hn 50) dX7_bringFrames_36 (by decide) (x_al_n C dX7_bringFrames_39 rfl (x_al C dX7_bringFrames_40 (x_al_n C dX7_bringFrames_42 rfl (x_il_n C dX7_bringFrames_43 rfl (x_cV C CR mX7_receive ⟨co_X7_receive, init_X7, md_X7_receive, by decide, by decide⟩ (ci := 7) (TX := TX7) (N := 9) rfl (by decide) ml_X7_359 im_X7_receive se_X7_receive dX7_bringFrames_44 (x_goto C (hn 60) dX7_bringFrames_47 (by decide)))))))))))
set_option maxRecDepth 20000 in
theorem oX7_bringFrames_50 {T : Ct} {Q : Option Value → MM → Prop} (C : Cx T cX7_bringFrames 6 RX7 0 0) (CR : CxR T 3 69) (hr : T.2.2.2.2.2.2.2.2.1.sig.returnType = none) (hnm : T.2.2.2.2.2.2.2.2.1.name = "bringFrames") {nx : Nat → Kt} (hn : ∀ pc, Sd T 6 (QT T Q 0 0) 0 0 pc (nx pc)) : Sd T 6 (QT T Q 0 0) 0 0 50 (bX7_bringFrames_50 Q nx) := x_al_n C dX7_bringFrames_50 rfl (x_dup C dX7_bringFrames_51 (gf_X7_272 C dX7_bringFrames_52 (x_ic C dX7_bringFrames_55 (by decide) (x_iadd C dX7_bringFrames_56 (pf_X7_272 C dX7_bringFrames_57 (hn 60))))))
set_option maxRecDepth 20000 in
theorem oX7_bringFrames_60 {T : Ct} {Q : Option Value → MM → Prop} (C : Cx T cX7_bringFrames 6 RX7 0 0) (CR : CxR T 3 69) (hr : T.2.2.2.2.2.2.2.2.1.sig.returnType = none) (hnm : T.2.2.2.2.2.2.2.2.1.name = "bringFrames") {nx : Nat → Kt} (hn : ∀ pc, Sd T 6 (QT T Q 0 0) 0 0 pc (nx pc)) : Sd T 6 (QT T Q 0 0) 0 0 60 (bX7_bringFrames_60 Q nx) := x_inc C dX7_bringFrames_60 (by decide) (by decide) (x_goto C (hn 3) dX7_bringFrames_63 (by decide))
set_option maxRecDepth 20000 in
theorem oX7_bringFrames_66 {T : Ct} {Q : Option Value → MM → Prop} (C : Cx T cX7_bringFrames 6 RX7 0 0) (CR : CxR T 3 69) (hr : T.2.2.2.2.2.2.2.2.1.sig.returnType = none) (hnm : T.2.2.2.2.2.2.2.2.1.name = "bringFrames") {nx : Nat → Kt} (hn : ∀ pc, Sd T 6 (QT T Q 0 0) 0 0 pc (nx pc)) : Sd T 6 (QT T Q 0 0) 0 0 66 (bX7_bringFrames_66 Q nx) := x_rV C hr dX7_bringFrames_66
set_option maxRecDepth 20000 in
theorem mX7_bringFrames (l : Launch) (D : va_G) (cA : Nat → ClassId) (base : Nat) : Mc l D cA base yX7_bringFrames cX7_bringFrames 6 none rX7_bringFrames wX7_bringFrames := mc_of (by decide +kernel) kX7_bringFrames (fun T Q C CR hr hnm nx hn => bse_ok _ (List.forall_mem_cons.mpr ⟨oX7_bringFrames_0 C CR hr hnm hn, List.forall_mem_cons.mpr ⟨oX7_bringFrames_3 C CR hr hnm hn, List.forall_mem_cons.mpr ⟨oX7_bringFrames_27 C CR hr hnm hn, List.forall_mem_cons.mpr ⟨oX7_bringFrames_50 C CR hr hnm hn, List.forall_mem_cons.mpr ⟨oX7_bringFrames_60 C CR hr hnm hn, List.forall_mem_cons.mpr ⟨oX7_bringFrames_66 C CR hr hnm hn, fun _ h => nomatch h⟩⟩⟩⟩⟩⟩))
theorem dX7_bringNotes_0 : decode cX7_bringNotes 0 = .ok (.iconst 0, 1) := by decide +kernel
theorem dX7_bringNotes_1 : decode cX7_bringNotes 1 = .ok (.istore_n 3, 1) := by decide +kernel
theorem dX7_bringNotes_2 : decode cX7_bringNotes 2 = .ok (.iload_n 3, 1) := by decide +kernel
theorem dX7_bringNotes_3 : decode cX7_bringNotes 3 = .ok (.bipush 8, 2) := by decide +kernel
theorem dX7_bringNotes_5 : decode cX7_bringNotes 5 = .ok (.if_icmp .ge 31, 3) := by decide +kernel
theorem dX7_bringNotes_8 : decode cX7_bringNotes 8 = .ok (.aload_n 1, 1) := by decide +kernel
theorem dX7_bringNotes_9 : decode cX7_bringNotes 9 = .ok (.aload_n 0, 1) := by decide +kernel
theorem dX7_bringNotes_10 : decode cX7_bringNotes 10 = .ok (.getfield 177, 3) := by decide +kernel
theorem dX7_bringNotes_13 : decode cX7_bringNotes 13 = .ok (.invokevirtual 347, 3) := by decide +kernel
theorem dX7_bringNotes_16 : decode cX7_bringNotes 16 = .ok (.astore 4, 2) := by decide +kernel
theorem dX7_bringNotes_18 : decode cX7_bringNotes 18 = .ok (.aload 4, 2) := by decide +kernel
theorem dX7_bringNotes_20 : decode cX7_bringNotes 20 = .ok (.ifnonnull 4, 3) := by decide +kernel
theorem dX7_bringNotes_23 : decode cX7_bringNotes 23 = .ok (.return_, 1) := by decide +kernel
theorem dX7_bringNotes_24 : decode cX7_bringNotes 24 = .ok (.aload_n 2, 1) := by decide +kernel
theorem dX7_bringNotes_25 : decode cX7_bringNotes 25 = .ok (.aload 4, 2) := by decide +kernel
theorem dX7_bringNotes_27 : decode cX7_bringNotes 27 = .ok (.invokevirtual 351, 3) := by decide +kernel
theorem dX7_bringNotes_30 : decode cX7_bringNotes 30 = .ok (.iinc 3 1, 3) := by decide +kernel
theorem dX7_bringNotes_33 : decode cX7_bringNotes 33 = .ok (.goto (-31), 3) := by decide +kernel
theorem dX7_bringNotes_36 : decode cX7_bringNotes 36 = .ok (.return_, 1) := by decide +kernel
noncomputable def bX7_bringNotes_0 (Q : Option Value → MM → Prop) (nx : Nat → Kt) : Kt := cI 0 (stI 3 (nx 2))
noncomputable def bX7_bringNotes_2 (Q : Option Value → MM → Prop) (nx : Nat → Kt) : Kt := ldI 3 (cI 8 (ifc (fun x y => y ≤ x) (nx 36) (ldA 1 (ldA 0 (gI 7 2 (cV 1 3 wX3_takeDueNote 0 0 0 0 (stA 4 (ldA 4 (ifn (rV Q) (nx 24))))))))))
noncomputable def bX7_bringNotes_24 (Q : Option Value → MM → Prop) (nx : Nat → Kt) : Kt := ldA 2 (ldA 4 (cV 1 5 wX5_hear 0 0 0 0 (inc 3 1 (nx 2))))
noncomputable def bX7_bringNotes_36 (Q : Option Value → MM → Prop) (nx : Nat → Kt) : Kt := rV Q
noncomputable def kX7_bringNotes (Q : Option Value → MM → Prop) (nx : Nat → Kt) : Nat → Kt := bse [(0, bX7_bringNotes_0 Q nx), (2, bX7_bringNotes_2 Q nx), (24, bX7_bringNotes_24 Q nx), (36, bX7_bringNotes_36 Q nx)]
abbrev rX7_bringNotes : Room := { frames := 3, cells := 0, slots := 0, locals := 64 }
noncomputable def wX7_bringNotes : Mw := mw 5 kX7_bringNotes
set_option maxRecDepth 20000 in
theorem oX7_bringNotes_0 {T : Ct} {Q : Option Value → MM → Prop} (C : Cx T cX7_bringNotes 5 RX7 0 0) (CR : CxR T 3 64) (hr : T.2.2.2.2.2.2.2.2.1.sig.returnType = none) (hnm : T.2.2.2.2.2.2.2.2.1.name = "bringNotes") {nx : Nat → Kt} (hn : ∀ pc, Sd T 5 (QT T Q 0 0) 0 0 pc (nx pc)) : Sd T 5 (QT T Q 0 0) 0 0 0 (bX7_bringNotes_0 Q nx) := x_ic C dX7_bringNotes_0 (by decide) (x_is_n C dX7_bringNotes_1 rfl (by decide) (hn 2))
set_option maxRecDepth 20000 in
theorem oX7_bringNotes_2 {T : Ct} {Q : Option Value → MM → Prop} (C : Cx T cX7_bringNotes 5 RX7 0 0) (CR : CxR T 3 64) (hr : T.2.2.2.2.2.2.2.2.1.sig.returnType = none) (hnm : T.2.2.2.2.2.2.2.2.1.name = "bringNotes") {nx : Nat → Kt} (hn : ∀ pc, Sd T 5 (QT T Q 0 0) 0 0 pc (nx pc)) : Sd T 5 (QT T Q 0 0) 0 0 2 (bX7_bringNotes_2 Q nx) := x_il_n C dX7_bringNotes_2 rfl (x_bp C dX7_bringNotes_3 (by decide) (x_ic_ge C (hn 36) dX7_bringNotes_5 (by decide) (x_al_n C dX7_bringNotes_8 rfl (x_al_n C dX7_bringNotes_9 rfl (gf_X7_177 C dX7_bringNotes_10 (x_cV C CR mX3_takeDueNote ⟨co_X3_takeDueNote, init_X3, md_X3_takeDueNote, by decide, by decide⟩ (ci := 3) (TX := TX3) (N := 7) rfl (by decide) ml_X7_347 im_X3_takeDueNote se_X3_takeDueNote dX7_bringNotes_13 (x_as C dX7_bringNotes_16 (by decide) (x_al C dX7_bringNotes_18 (x_ifnonnull C (hn 24) dX7_bringNotes_20 (by decide) (x_rV C hr dX7_bringNotes_23))))))))))
set_option maxRecDepth 20000 in
theorem oX7_bringNotes_24 {T : Ct} {Q : Option Value → MM → Prop} (C : Cx T cX7_bringNotes 5 RX7 0 0) (CR : CxR T 3 64) (hr : T.2.2.2.2.2.2.2.2.1.sig.returnType = none) (hnm : T.2.2.2.2.2.2.2.2.1.name = "bringNotes") {nx : Nat → Kt} (hn : ∀ pc, Sd T 5 (QT T Q 0 0) 0 0 pc (nx pc)) : Sd T 5 (QT T Q 0 0) 0 0 24 (bX7_bringNotes_24 Q nx) := x_al_n C dX7_bringNotes_24 rfl (x_al C dX7_bringNotes_25 (x_cV C CR mX5_hear ⟨co_X5_hear, init_X5, md_X5_hear, by decide, by decide⟩ (ci := 5) (TX := TX5) (N := 18) rfl (by decide) ml_X7_351 im_X5_hear se_X5_hear dX7_bringNotes_27 (x_inc C dX7_bringNotes_30 (by decide) (by decide) (x_goto C (hn 2) dX7_bringNotes_33 (by decide)))))
set_option maxRecDepth 20000 in
theorem oX7_bringNotes_36 {T : Ct} {Q : Option Value → MM → Prop} (C : Cx T cX7_bringNotes 5 RX7 0 0) (CR : CxR T 3 64) (hr : T.2.2.2.2.2.2.2.2.1.sig.returnType = none) (hnm : T.2.2.2.2.2.2.2.2.1.name = "bringNotes") {nx : Nat → Kt} (hn : ∀ pc, Sd T 5 (QT T Q 0 0) 0 0 pc (nx pc)) : Sd T 5 (QT T Q 0 0) 0 0 36 (bX7_bringNotes_36 Q nx) := x_rV C hr dX7_bringNotes_36
set_option maxRecDepth 20000 in
theorem mX7_bringNotes (l : Launch) (D : va_G) (cA : Nat → ClassId) (base : Nat) : Mc l D cA base yX7_bringNotes cX7_bringNotes 5 none rX7_bringNotes wX7_bringNotes := mc_of (by decide +kernel) kX7_bringNotes (fun T Q C CR hr hnm nx hn => bse_ok _ (List.forall_mem_cons.mpr ⟨oX7_bringNotes_0 C CR hr hnm hn, List.forall_mem_cons.mpr ⟨oX7_bringNotes_2 C CR hr hnm hn, List.forall_mem_cons.mpr ⟨oX7_bringNotes_24 C CR hr hnm hn, List.forall_mem_cons.mpr ⟨oX7_bringNotes_36 C CR hr hnm hn, fun _ h => nomatch h⟩⟩⟩⟩))
theorem dX7_bringAll_0 : decode cX7_bringAll 0 = .ok (.iconst 0, 1) := by decide +kernel
theorem dX7_bringAll_1 : decode cX7_bringAll 1 = .ok (.istore_n 1, 1) := by decide +kernel
theorem dX7_bringAll_2 : decode cX7_bringAll 2 = .ok (.iload_n 1, 1) := by decide +kernel
theorem dX7_bringAll_3 : decode cX7_bringAll 3 = .ok (.bipush 8, 2) := by decide +kernel
theorem dX7_bringAll_5 : decode cX7_bringAll 5 = .ok (.if_icmp .ge 80, 3) := by decide +kernel
theorem dX7_bringAll_8 : decode cX7_bringAll 8 = .ok (.aload_n 0, 1) := by decide +kernel
theorem dX7_bringAll_9 : decode cX7_bringAll 9 = .ok (.getfield 17, 3) := by decide +kernel
theorem dX7_bringAll_12 : decode cX7_bringAll 12 = .ok (.iload_n 1, 1) := by decide +kernel
theorem dX7_bringAll_13 : decode cX7_bringAll 13 = .ok (.aaload, 1) := by decide +kernel
theorem dX7_bringAll_14 : decode cX7_bringAll 14 = .ok (.astore_n 2, 1) := by decide +kernel
theorem dX7_bringAll_15 : decode cX7_bringAll 15 = .ok (.aload_n 2, 1) := by decide +kernel
theorem dX7_bringAll_16 : decode cX7_bringAll 16 = .ok (.getfield 122, 3) := by decide +kernel
theorem dX7_bringAll_19 : decode cX7_bringAll 19 = .ok (.ifCond .eq 60, 3) := by decide +kernel
theorem dX7_bringAll_22 : decode cX7_bringAll 22 = .ok (.aload_n 2, 1) := by decide +kernel
theorem dX7_bringAll_23 : decode cX7_bringAll 23 = .ok (.invokevirtual 116, 3) := by decide +kernel
theorem dX7_bringAll_26 : decode cX7_bringAll 26 = .ok (.ifCond .eq 53, 3) := by decide +kernel
theorem dX7_bringAll_29 : decode cX7_bringAll 29 = .ok (.iconst 0, 1) := by decide +kernel
theorem dX7_bringAll_30 : decode cX7_bringAll 30 = .ok (.istore_n 3, 1) := by decide +kernel
theorem dX7_bringAll_31 : decode cX7_bringAll 31 = .ok (.iload_n 3, 1) := by decide +kernel
theorem dX7_bringAll_32 : decode cX7_bringAll 32 = .ok (.iconst 2, 1) := by decide +kernel
theorem dX7_bringAll_33 : decode cX7_bringAll 33 = .ok (.if_icmp .ge 46, 3) := by decide +kernel
theorem dX7_bringAll_36 : decode cX7_bringAll 36 = .ok (.aload_n 0, 1) := by decide +kernel
theorem dX7_bringAll_37 : decode cX7_bringAll 37 = .ok (.aload_n 2, 1) := by decide +kernel
theorem dX7_bringAll_38 : decode cX7_bringAll 38 = .ok (.getfield 133, 3) := by decide +kernel
theorem dX7_bringAll_41 : decode cX7_bringAll 41 = .ok (.iload_n 3, 1) := by decide +kernel
theorem dX7_bringAll_42 : decode cX7_bringAll 42 = .ok (.aaload, 1) := by decide +kernel
theorem dX7_bringAll_43 : decode cX7_bringAll 43 = .ok (.aload_n 2, 1) := by decide +kernel
theorem dX7_bringAll_44 : decode cX7_bringAll 44 = .ok (.getfield 255, 3) := by decide +kernel
theorem dX7_bringAll_47 : decode cX7_bringAll 47 = .ok (.iconst 1, 1) := by decide +kernel
theorem dX7_bringAll_48 : decode cX7_bringAll 48 = .ok (.iload_n 3, 1) := by decide +kernel
theorem dX7_bringAll_49 : decode cX7_bringAll 49 = .ok (.isub, 1) := by decide +kernel
theorem dX7_bringAll_50 : decode cX7_bringAll 50 = .ok (.aaload, 1) := by decide +kernel
theorem dX7_bringAll_51 : decode cX7_bringAll 51 = .ok (.invokevirtual 339, 3) := by decide +kernel
theorem dX7_bringAll_54 : decode cX7_bringAll 54 = .ok (.aload_n 0, 1) := by decide +kernel
theorem dX7_bringAll_55 : decode cX7_bringAll 55 = .ok (.aload_n 2, 1) := by decide +kernel
theorem dX7_bringAll_56 : decode cX7_bringAll 56 = .ok (.getfield 133, 3) := by decide +kernel
theorem dX7_bringAll_59 : decode cX7_bringAll 59 = .ok (.iload_n 3, 1) := by decide +kernel
theorem dX7_bringAll_60 : decode cX7_bringAll 60 = .ok (.aaload, 1) := by decide +kernel
theorem dX7_bringAll_61 : decode cX7_bringAll 61 = .ok (.aload_n 2, 1) := by decide +kernel
theorem dX7_bringAll_62 : decode cX7_bringAll 62 = .ok (.getfield 255, 3) := by decide +kernel
theorem dX7_bringAll_65 : decode cX7_bringAll 65 = .ok (.iconst 1, 1) := by decide +kernel
theorem dX7_bringAll_66 : decode cX7_bringAll 66 = .ok (.iload_n 3, 1) := by decide +kernel
theorem dX7_bringAll_67 : decode cX7_bringAll 67 = .ok (.isub, 1) := by decide +kernel
theorem dX7_bringAll_68 : decode cX7_bringAll 68 = .ok (.aaload, 1) := by decide +kernel
theorem dX7_bringAll_69 : decode cX7_bringAll 69 = .ok (.iload_n 3, 1) := by decide +kernel
theorem dX7_bringAll_70 : decode cX7_bringAll 70 = .ok (.invokevirtual 343, 3) := by decide +kernel
theorem dX7_bringAll_73 : decode cX7_bringAll 73 = .ok (.iinc 3 1, 3) := by decide +kernel
theorem dX7_bringAll_76 : decode cX7_bringAll 76 = .ok (.goto (-45), 3) := by decide +kernel
theorem dX7_bringAll_79 : decode cX7_bringAll 79 = .ok (.iinc 1 1, 3) := by decide +kernel
theorem dX7_bringAll_82 : decode cX7_bringAll 82 = .ok (.goto (-80), 3) := by decide +kernel
theorem dX7_bringAll_85 : decode cX7_bringAll 85 = .ok (.return_, 1) := by decide +kernel
noncomputable def bX7_bringAll_0 (Q : Option Value → MM → Prop) (nx : Nat → Kt) : Kt := cI 0 (stI 1 (nx 2))
noncomputable def bX7_bringAll_2 (Q : Option Value → MM → Prop) (nx : Nat → Kt) : Kt := ldI 1 (cI 8 (ifc (fun x y => y ≤ x) (nx 85) (ldA 0 (gR 7 1 (ldI 1 (aR 12 (stA 2 (ldA 2 (gI 0 3 (ifz (fun x => x = 0) (nx 79) (ldA 2 (cV 0 0 wX0_isPlugged 0 0 0 0 (ifz (fun x => x = 0) (nx 79) (cI 0 (stI 3 (nx 31))))))))))))))))
noncomputable def bX7_bringAll_31 (Q : Option Value → MM → Prop) (nx : Nat → Kt) : Kt := ldI 3 (cI 2 (ifc (fun x y => y ≤ x) (nx 79) (ldA 0 (ldA 2 (gR 0 1 (ldI 3 (aR 15 (ldA 2 (gR 0 0 (cI 1 (ldI 3 (bop (fun x y => x - y) (aR 17 (cV 2 7 wX7_bringNotes 0 0 0 0 (ldA 0 (ldA 2 (gR 0 1 (ldI 3 (aR 15 (ldA 2 (gR 0 0 (cI 1 (ldI 3 (bop (fun x y => x - y) (aR 17 (ldI 3 (cV 3 7 wX7_bringFrames 0 0 0 0 (inc 3 1 (nx 31)))))))))))))))))))))))))))))
noncomputable def bX7_bringAll_79 (Q : Option Value → MM → Prop) (nx : Nat → Kt) : Kt := inc 1 1 (nx 2)
noncomputable def bX7_bringAll_85 (Q : Option Value → MM → Prop) (nx : Nat → Kt) : Kt := rV Q
noncomputable def kX7_bringAll (Q : Option Value → MM → Prop) (nx : Nat → Kt) : Nat → Kt := bse [(0, bX7_bringAll_0 Q nx), (2, bX7_bringAll_2 Q nx), (31, bX7_bringAll_31 Q nx), (79, bX7_bringAll_79 Q nx), (85, bX7_bringAll_85 Q nx)]
abbrev rX7_bringAll : Room := { frames := 4, cells := 0, slots := 0, locals := 94 }
noncomputable def wX7_bringAll : Mw := mw 4 kX7_bringAll
set_option maxRecDepth 20000 in
theorem oX7_bringAll_0 {T : Ct} {Q : Option Value → MM → Prop} (C : Cx T cX7_bringAll 4 RX7 0 0) (CR : CxR T 4 94) (hr : T.2.2.2.2.2.2.2.2.1.sig.returnType = none) (hnm : T.2.2.2.2.2.2.2.2.1.name = "bringAll") {nx : Nat → Kt} (hn : ∀ pc, Sd T 4 (QT T Q 0 0) 0 0 pc (nx pc)) : Sd T 4 (QT T Q 0 0) 0 0 0 (bX7_bringAll_0 Q nx) := x_ic C dX7_bringAll_0 (by decide) (x_is_n C dX7_bringAll_1 rfl (by decide) (hn 2))
set_option maxRecDepth 20000 in
theorem oX7_bringAll_2 {T : Ct} {Q : Option Value → MM → Prop} (C : Cx T cX7_bringAll 4 RX7 0 0) (CR : CxR T 4 94) (hr : T.2.2.2.2.2.2.2.2.1.sig.returnType = none) (hnm : T.2.2.2.2.2.2.2.2.1.name = "bringAll") {nx : Nat → Kt} (hn : ∀ pc, Sd T 4 (QT T Q 0 0) 0 0 pc (nx pc)) : Sd T 4 (QT T Q 0 0) 0 0 2 (bX7_bringAll_2 Q nx) := x_il_n C dX7_bringAll_2 rfl (x_bp C dX7_bringAll_3 (by decide) (x_ic_ge C (hn 85) dX7_bringAll_5 (by decide) (x_al_n C dX7_bringAll_8 rfl (gf_X7_17 C dX7_bringAll_9 (x_il_n C dX7_bringAll_12 rfl (x_aald C (kd := 12) (t0 := 2) (by decide) (by decide) (fun _ => rfl) dX7_bringAll_13 (x_as_n C dX7_bringAll_14 rfl (by decide) (x_al_n C dX7_bringAll_15 rfl (gf_X7_122 C dX7_bringAll_16 (x_if_eq C (hn 79) dX7_bringAll_19 (by decide) (x_al_n C dX7_bringAll_22 rfl (x_cV C CR mX0_isPlugged ⟨co_X0_isPlugged, init_X0, md_X0_isPlugged, by decide, by decide⟩ (ci := 0) (TX := TX0) (N := 5) rfl (by decide) ml_X7_116 im_X0_isPlugged se_X0_isPlugged dX7_bringAll_23 (x_if_eq C (hn 79) dX7_bringAll_26 (by decide) (x_ic C dX7_bringAll_29 (by decide) (x_is_n C dX7_bringAll_30 rfl (by decide) (hn 31))))))))))))))))
set_option maxRecDepth 20000 in
theorem oX7_bringAll_31 {T : Ct} {Q : Option Value → MM → Prop} (C : Cx T cX7_bringAll 4 RX7 0 0) (CR : CxR T 4 94) (hr : T.2.2.2.2.2.2.2.2.1.sig.returnType = none) (hnm : T.2.2.2.2.2.2.2.2.1.name = "bringAll") {nx : Nat → Kt} (hn : ∀ pc, Sd T 4 (QT T Q 0 0) 0 0 pc (nx pc)) : Sd T 4 (QT T Q 0 0) 0 0 31 (bX7_bringAll_31 Q nx) := x_il_n C dX7_bringAll_31 rfl (x_ic C dX7_bringAll_32 (by decide) (x_ic_ge C (hn 79) dX7_bringAll_33 (by decide) (x_al_n C dX7_bringAll_36 rfl (x_al_n C dX7_bringAll_37 rfl (gf_X7_133 C dX7_bringAll_38 (x_il_n C dX7_bringAll_41 rfl (x_aald C (kd := 15) (t0 := 5) (by decide) (by decide) (fun _ => rfl) dX7_bringAll_42 (x_al_n C dX7_bringAll_43 rfl (gf_X7_255 C dX7_bringAll_44 (x_ic C dX7_bringAll_47 (by decide) (x_il_n C dX7_bringAll_48 rfl (x_isub C dX7_bringAll_49 (x_aald C (kd := 17) (t0 := 7) (by decide) (by decide) (fun _ => rfl) dX7_bringAll_50 (x_cV C CR mX7_bringNotes ⟨co_X7_bringNotes, init_X7, md_X7_bringNotes, by decide, by decide⟩ (ci := 7) (TX := TX7) (N := 9) rfl (by decide) ml_X7_339 im_X7_bringNotes se_X7_bringNotes dX7_bringAll_51 (x_al_n C dX7_bringAll_54 rfl (x_al_n C dX7_bringAll_55 rfl (gf_X7_133 C dX7_bringAll_56 (x_il_n C dX7_bringAll_59 rfl (x_aald C (kd := 15) (t0 := 5) (by decide) (by decide) (fun _ => rfl) dX7_bringAll_60 (x_al_n C dX7_bringAll_61 rfl (gf_X7_255 C dX7_bringAll_62 (x_ic C dX7_bringAll_65 (by decide) (x_il_n C dX7_bringAll_66 rfl (x_isub C dX7_bringAll_67 (x_aald C (kd := 17) (t0 := 7) (by decide) (by decide) (fun _ => rfl) dX7_bringAll_68 (x_il_n C dX7_bringAll_69 rfl (x_cV C CR mX7_bringFrames ⟨co_X7_bringFrames, init_X7, md_X7_bringFrames, by decide, by decide⟩ (ci := 7) (TX := TX7) (N := 9) rfl (by decide) ml_X7_343 im_X7_bringFrames se_X7_bringFrames dX7_bringAll_70 (x_inc C dX7_bringAll_73 (by decide) (by decide) (x_goto C (hn 31) dX7_bringAll_76 (by decide))))))))))))))))))))))))))))))
set_option maxRecDepth 20000 in
theorem oX7_bringAll_79 {T : Ct} {Q : Option Value → MM → Prop} (C : Cx T cX7_bringAll 4 RX7 0 0) (CR : CxR T 4 94) (hr : T.2.2.2.2.2.2.2.2.1.sig.returnType = none) (hnm : T.2.2.2.2.2.2.2.2.1.name = "bringAll") {nx : Nat → Kt} (hn : ∀ pc, Sd T 4 (QT T Q 0 0) 0 0 pc (nx pc)) : Sd T 4 (QT T Q 0 0) 0 0 79 (bX7_bringAll_79 Q nx) := x_inc C dX7_bringAll_79 (by decide) (by decide) (x_goto C (hn 2) dX7_bringAll_82 (by decide))
set_option maxRecDepth 20000 in
theorem oX7_bringAll_85 {T : Ct} {Q : Option Value → MM → Prop} (C : Cx T cX7_bringAll 4 RX7 0 0) (CR : CxR T 4 94) (hr : T.2.2.2.2.2.2.2.2.1.sig.returnType = none) (hnm : T.2.2.2.2.2.2.2.2.1.name = "bringAll") {nx : Nat → Kt} (hn : ∀ pc, Sd T 4 (QT T Q 0 0) 0 0 pc (nx pc)) : Sd T 4 (QT T Q 0 0) 0 0 85 (bX7_bringAll_85 Q nx) := x_rV C hr dX7_bringAll_85
set_option maxRecDepth 20000 in
theorem mX7_bringAll (l : Launch) (D : va_G) (cA : Nat → ClassId) (base : Nat) : Mc l D cA base yX7_bringAll cX7_bringAll 4 none rX7_bringAll wX7_bringAll := mc_of (by decide +kernel) kX7_bringAll (fun T Q C CR hr hnm nx hn => bse_ok _ (List.forall_mem_cons.mpr ⟨oX7_bringAll_0 C CR hr hnm hn, List.forall_mem_cons.mpr ⟨oX7_bringAll_2 C CR hr hnm hn, List.forall_mem_cons.mpr ⟨oX7_bringAll_31 C CR hr hnm hn, List.forall_mem_cons.mpr ⟨oX7_bringAll_79 C CR hr hnm hn, List.forall_mem_cons.mpr ⟨oX7_bringAll_85 C CR hr hnm hn, fun _ h => nomatch h⟩⟩⟩⟩⟩))
theorem dX7_ageAll_0 : decode cX7_ageAll 0 = .ok (.iconst 0, 1) := by decide +kernel
theorem dX7_ageAll_1 : decode cX7_ageAll 1 = .ok (.istore_n 1, 1) := by decide +kernel
theorem dX7_ageAll_2 : decode cX7_ageAll 2 = .ok (.iload_n 1, 1) := by decide +kernel
theorem dX7_ageAll_3 : decode cX7_ageAll 3 = .ok (.iconst 2, 1) := by decide +kernel
theorem dX7_ageAll_4 : decode cX7_ageAll 4 = .ok (.if_icmp .ge 37, 3) := by decide +kernel
theorem dX7_ageAll_7 : decode cX7_ageAll 7 = .ok (.iconst 0, 1) := by decide +kernel
theorem dX7_ageAll_8 : decode cX7_ageAll 8 = .ok (.istore_n 2, 1) := by decide +kernel
theorem dX7_ageAll_9 : decode cX7_ageAll 9 = .ok (.iload_n 2, 1) := by decide +kernel
theorem dX7_ageAll_10 : decode cX7_ageAll 10 = .ok (.bipush 8, 2) := by decide +kernel
theorem dX7_ageAll_12 : decode cX7_ageAll 12 = .ok (.if_icmp .ge 23, 3) := by decide +kernel
theorem dX7_ageAll_15 : decode cX7_ageAll 15 = .ok (.aload_n 0, 1) := by decide +kernel
theorem dX7_ageAll_16 : decode cX7_ageAll 16 = .ok (.getfield 11, 3) := by decide +kernel
theorem dX7_ageAll_19 : decode cX7_ageAll 19 = .ok (.iload_n 1, 1) := by decide +kernel
theorem dX7_ageAll_20 : decode cX7_ageAll 20 = .ok (.aaload, 1) := by decide +kernel
theorem dX7_ageAll_21 : decode cX7_ageAll 21 = .ok (.getfield 65, 3) := by decide +kernel
theorem dX7_ageAll_24 : decode cX7_ageAll 24 = .ok (.iload_n 2, 1) := by decide +kernel
theorem dX7_ageAll_25 : decode cX7_ageAll 25 = .ok (.aaload, 1) := by decide +kernel
theorem dX7_ageAll_26 : decode cX7_ageAll 26 = .ok (.invokevirtual 371, 3) := by decide +kernel
theorem dX7_ageAll_29 : decode cX7_ageAll 29 = .ok (.iinc 2 1, 3) := by decide +kernel
theorem dX7_ageAll_32 : decode cX7_ageAll 32 = .ok (.goto (-23), 3) := by decide +kernel
theorem dX7_ageAll_35 : decode cX7_ageAll 35 = .ok (.iinc 1 1, 3) := by decide +kernel
theorem dX7_ageAll_38 : decode cX7_ageAll 38 = .ok (.goto (-36), 3) := by decide +kernel
theorem dX7_ageAll_41 : decode cX7_ageAll 41 = .ok (.return_, 1) := by decide +kernel
noncomputable def bX7_ageAll_0 (Q : Option Value → MM → Prop) (nx : Nat → Kt) : Kt := cI 0 (stI 1 (nx 2))
noncomputable def bX7_ageAll_2 (Q : Option Value → MM → Prop) (nx : Nat → Kt) : Kt := ldI 1 (cI 2 (ifc (fun x y => y ≤ x) (nx 41) (cI 0 (stI 2 (nx 9)))))
noncomputable def bX7_ageAll_9 (Q : Option Value → MM → Prop) (nx : Nat → Kt) : Kt := ldI 2 (cI 8 (ifc (fun x y => y ≤ x) (nx 35) (ldA 0 (gR 7 0 (ldI 1 (aR 13 (gR 1 0 (ldI 2 (aR 17 (cV 0 5 wX5_age 0 0 0 0 (inc 2 1 (nx 9))))))))))))
noncomputable def bX7_ageAll_35 (Q : Option Value → MM → Prop) (nx : Nat → Kt) : Kt := inc 1 1 (nx 2)
noncomputable def bX7_ageAll_41 (Q : Option Value → MM → Prop) (nx : Nat → Kt) : Kt := rV Q
noncomputable def kX7_ageAll (Q : Option Value → MM → Prop) (nx : Nat → Kt) : Nat → Kt := bse [(0, bX7_ageAll_0 Q nx), (2, bX7_ageAll_2 Q nx), (9, bX7_ageAll_9 Q nx), (35, bX7_ageAll_35 Q nx), (41, bX7_ageAll_41 Q nx)]
abbrev rX7_ageAll : Room := { frames := 2, cells := 0, slots := 0, locals := 43 }
noncomputable def wX7_ageAll : Mw := mw 3 kX7_ageAll
set_option maxRecDepth 20000 in
theorem oX7_ageAll_0 {T : Ct} {Q : Option Value → MM → Prop} (C : Cx T cX7_ageAll 3 RX7 0 0) (CR : CxR T 2 43) (hr : T.2.2.2.2.2.2.2.2.1.sig.returnType = none) (hnm : T.2.2.2.2.2.2.2.2.1.name = "ageAll") {nx : Nat → Kt} (hn : ∀ pc, Sd T 3 (QT T Q 0 0) 0 0 pc (nx pc)) : Sd T 3 (QT T Q 0 0) 0 0 0 (bX7_ageAll_0 Q nx) := x_ic C dX7_ageAll_0 (by decide) (x_is_n C dX7_ageAll_1 rfl (by decide) (hn 2))
set_option maxRecDepth 20000 in
theorem oX7_ageAll_2 {T : Ct} {Q : Option Value → MM → Prop} (C : Cx T cX7_ageAll 3 RX7 0 0) (CR : CxR T 2 43) (hr : T.2.2.2.2.2.2.2.2.1.sig.returnType = none) (hnm : T.2.2.2.2.2.2.2.2.1.name = "ageAll") {nx : Nat → Kt} (hn : ∀ pc, Sd T 3 (QT T Q 0 0) 0 0 pc (nx pc)) : Sd T 3 (QT T Q 0 0) 0 0 2 (bX7_ageAll_2 Q nx) := x_il_n C dX7_ageAll_2 rfl (x_ic C dX7_ageAll_3 (by decide) (x_ic_ge C (hn 41) dX7_ageAll_4 (by decide) (x_ic C dX7_ageAll_7 (by decide) (x_is_n C dX7_ageAll_8 rfl (by decide) (hn 9)))))
set_option maxRecDepth 20000 in
theorem oX7_ageAll_9 {T : Ct} {Q : Option Value → MM → Prop} (C : Cx T cX7_ageAll 3 RX7 0 0) (CR : CxR T 2 43) (hr : T.2.2.2.2.2.2.2.2.1.sig.returnType = none) (hnm : T.2.2.2.2.2.2.2.2.1.name = "ageAll") {nx : Nat → Kt} (hn : ∀ pc, Sd T 3 (QT T Q 0 0) 0 0 pc (nx pc)) : Sd T 3 (QT T Q 0 0) 0 0 9 (bX7_ageAll_9 Q nx) := x_il_n C dX7_ageAll_9 rfl (x_bp C dX7_ageAll_10 (by decide) (x_ic_ge C (hn 35) dX7_ageAll_12 (by decide) (x_al_n C dX7_ageAll_15 rfl (gf_X7_11 C dX7_ageAll_16 (x_il_n C dX7_ageAll_19 rfl (x_aald C (kd := 13) (t0 := 3) (by decide) (by decide) (fun _ => rfl) dX7_ageAll_20 (gf_X7_65 C dX7_ageAll_21 (x_il_n C dX7_ageAll_24 rfl (x_aald C (kd := 17) (t0 := 7) (by decide) (by decide) (fun _ => rfl) dX7_ageAll_25 (x_cV C CR mX5_age ⟨co_X5_age, init_X5, md_X5_age, by decide, by decide⟩ (ci := 5) (TX := TX5) (N := 18) rfl (by decide) ml_X7_371 im_X5_age se_X5_age dX7_ageAll_26 (x_inc C dX7_ageAll_29 (by decide) (by decide) (x_goto C (hn 9) dX7_ageAll_32 (by decide)))))))))))))
set_option maxRecDepth 20000 in
theorem oX7_ageAll_35 {T : Ct} {Q : Option Value → MM → Prop} (C : Cx T cX7_ageAll 3 RX7 0 0) (CR : CxR T 2 43) (hr : T.2.2.2.2.2.2.2.2.1.sig.returnType = none) (hnm : T.2.2.2.2.2.2.2.2.1.name = "ageAll") {nx : Nat → Kt} (hn : ∀ pc, Sd T 3 (QT T Q 0 0) 0 0 pc (nx pc)) : Sd T 3 (QT T Q 0 0) 0 0 35 (bX7_ageAll_35 Q nx) := x_inc C dX7_ageAll_35 (by decide) (by decide) (x_goto C (hn 2) dX7_ageAll_38 (by decide))
set_option maxRecDepth 20000 in
theorem oX7_ageAll_41 {T : Ct} {Q : Option Value → MM → Prop} (C : Cx T cX7_ageAll 3 RX7 0 0) (CR : CxR T 2 43) (hr : T.2.2.2.2.2.2.2.2.1.sig.returnType = none) (hnm : T.2.2.2.2.2.2.2.2.1.name = "ageAll") {nx : Nat → Kt} (hn : ∀ pc, Sd T 3 (QT T Q 0 0) 0 0 pc (nx pc)) : Sd T 3 (QT T Q 0 0) 0 0 41 (bX7_ageAll_41 Q nx) := x_rV C hr dX7_ageAll_41
set_option maxRecDepth 20000 in
theorem mX7_ageAll (l : Launch) (D : va_G) (cA : Nat → ClassId) (base : Nat) : Mc l D cA base yX7_ageAll cX7_ageAll 3 none rX7_ageAll wX7_ageAll := mc_of (by decide +kernel) kX7_ageAll (fun T Q C CR hr hnm nx hn => bse_ok _ (List.forall_mem_cons.mpr ⟨oX7_ageAll_0 C CR hr hnm hn, List.forall_mem_cons.mpr ⟨oX7_ageAll_2 C CR hr hnm hn, List.forall_mem_cons.mpr ⟨oX7_ageAll_9 C CR hr hnm hn, List.forall_mem_cons.mpr ⟨oX7_ageAll_35 C CR hr hnm hn, List.forall_mem_cons.mpr ⟨oX7_ageAll_41 C CR hr hnm hn, fun _ h => nomatch h⟩⟩⟩⟩⟩))
theorem dX7_stepAll_0 : decode cX7_stepAll 0 = .ok (.iconst 0, 1) := by decide +kernel
theorem dX7_stepAll_1 : decode cX7_stepAll 1 = .ok (.istore_n 1, 1) := by decide +kernel
theorem dX7_stepAll_2 : decode cX7_stepAll 2 = .ok (.iload_n 1, 1) := by decide +kernel
theorem dX7_stepAll_3 : decode cX7_stepAll 3 = .ok (.iconst 2, 1) := by decide +kernel
theorem dX7_stepAll_4 : decode cX7_stepAll 4 = .ok (.if_icmp .ge 56, 3) := by decide +kernel
theorem dX7_stepAll_7 : decode cX7_stepAll 7 = .ok (.iconst 0, 1) := by decide +kernel
theorem dX7_stepAll_8 : decode cX7_stepAll 8 = .ok (.istore_n 2, 1) := by decide +kernel
theorem dX7_stepAll_9 : decode cX7_stepAll 9 = .ok (.iload_n 2, 1) := by decide +kernel
theorem dX7_stepAll_10 : decode cX7_stepAll 10 = .ok (.bipush 8, 2) := by decide +kernel
theorem dX7_stepAll_12 : decode cX7_stepAll 12 = .ok (.if_icmp .ge 42, 3) := by decide +kernel
theorem dX7_stepAll_15 : decode cX7_stepAll 15 = .ok (.aload_n 0, 1) := by decide +kernel
theorem dX7_stepAll_16 : decode cX7_stepAll 16 = .ok (.getfield 11, 3) := by decide +kernel
theorem dX7_stepAll_19 : decode cX7_stepAll 19 = .ok (.iload_n 1, 1) := by decide +kernel
theorem dX7_stepAll_20 : decode cX7_stepAll 20 = .ok (.aaload, 1) := by decide +kernel
theorem dX7_stepAll_21 : decode cX7_stepAll 21 = .ok (.getfield 65, 3) := by decide +kernel
theorem dX7_stepAll_24 : decode cX7_stepAll 24 = .ok (.iload_n 2, 1) := by decide +kernel
theorem dX7_stepAll_25 : decode cX7_stepAll 25 = .ok (.aaload, 1) := by decide +kernel
theorem dX7_stepAll_26 : decode cX7_stepAll 26 = .ok (.astore_n 3, 1) := by decide +kernel
theorem dX7_stepAll_27 : decode cX7_stepAll 27 = .ok (.aload_n 3, 1) := by decide +kernel
theorem dX7_stepAll_28 : decode cX7_stepAll 28 = .ok (.invokevirtual 241, 3) := by decide +kernel
theorem dX7_stepAll_31 : decode cX7_stepAll 31 = .ok (.ifCond .eq 17, 3) := by decide +kernel
theorem dX7_stepAll_34 : decode cX7_stepAll 34 = .ok (.aload_n 0, 1) := by decide +kernel
theorem dX7_stepAll_35 : decode cX7_stepAll 35 = .ok (.getfield 11, 3) := by decide +kernel
theorem dX7_stepAll_38 : decode cX7_stepAll 38 = .ok (.iload_n 1, 1) := by decide +kernel
theorem dX7_stepAll_39 : decode cX7_stepAll 39 = .ok (.aaload, 1) := by decide +kernel
theorem dX7_stepAll_40 : decode cX7_stepAll 40 = .ok (.aload_n 3, 1) := by decide +kernel
theorem dX7_stepAll_41 : decode cX7_stepAll 41 = .ok (.aload_n 3, 1) := by decide +kernel
theorem dX7_stepAll_42 : decode cX7_stepAll 42 = .ok (.invokevirtual 374, 3) := by decide +kernel
theorem dX7_stepAll_45 : decode cX7_stepAll 45 = .ok (.invokevirtual 313, 3) := by decide +kernel
theorem dX7_stepAll_48 : decode cX7_stepAll 48 = .ok (.iinc 2 1, 3) := by decide +kernel
theorem dX7_stepAll_51 : decode cX7_stepAll 51 = .ok (.goto (-42), 3) := by decide +kernel
theorem dX7_stepAll_54 : decode cX7_stepAll 54 = .ok (.iinc 1 1, 3) := by decide +kernel
theorem dX7_stepAll_57 : decode cX7_stepAll 57 = .ok (.goto (-55), 3) := by decide +kernel
theorem dX7_stepAll_60 : decode cX7_stepAll 60 = .ok (.return_, 1) := by decide +kernel
noncomputable def bX7_stepAll_0 (Q : Option Value → MM → Prop) (nx : Nat → Kt) : Kt := cI 0 (stI 1 (nx 2))
noncomputable def bX7_stepAll_2 (Q : Option Value → MM → Prop) (nx : Nat → Kt) : Kt := ldI 1 (cI 2 (ifc (fun x y => y ≤ x) (nx 60) (cI 0 (stI 2 (nx 9)))))
noncomputable def bX7_stepAll_9 (Q : Option Value → MM → Prop) (nx : Nat → Kt) : Kt := ldI 2 (cI 8 (ifc (fun x y => y ≤ x) (nx 54) (ldA 0 (gR 7 0 (ldI 1 (aR 13 (gR 1 0 (ldI 2 (aR 17 (stA 3 (ldA 3 (cV 0 5 wX5_isLit 0 0 0 0 (ifz (fun x => x = 0) (nx 48) (ldA 0 (gR 7 0 (ldI 1 (aR 13 (ldA 3 (ldA 3 (cV 0 5 wX5_step 0 0 0 0 (cV 2 1 wX1_moveTo 0 0 0 0 (nx 48))))))))))))))))))))))
noncomputable def bX7_stepAll_48 (Q : Option Value → MM → Prop) (nx : Nat → Kt) : Kt := inc 2 1 (nx 9)
noncomputable def bX7_stepAll_54 (Q : Option Value → MM → Prop) (nx : Nat → Kt) : Kt := inc 1 1 (nx 2)
noncomputable def bX7_stepAll_60 (Q : Option Value → MM → Prop) (nx : Nat → Kt) : Kt := rV Q
noncomputable def kX7_stepAll (Q : Option Value → MM → Prop) (nx : Nat → Kt) : Nat → Kt := bse [(0, bX7_stepAll_0 Q nx), (2, bX7_stepAll_2 Q nx), (9, bX7_stepAll_9 Q nx), (48, bX7_stepAll_48 Q nx), (54, bX7_stepAll_54 Q nx), (60, bX7_stepAll_60 Q nx)]
abbrev rX7_stepAll : Room := { frames := 3, cells := 0, slots := 0, locals := 65 }
noncomputable def wX7_stepAll : Mw := mw 4 kX7_stepAll
set_option maxRecDepth 20000 in
theorem oX7_stepAll_0 {T : Ct} {Q : Option Value → MM → Prop} (C : Cx T cX7_stepAll 4 RX7 0 0) (CR : CxR T 3 65) (hr : T.2.2.2.2.2.2.2.2.1.sig.returnType = none) (hnm : T.2.2.2.2.2.2.2.2.1.name = "stepAll") {nx : Nat → Kt} (hn : ∀ pc, Sd T 4 (QT T Q 0 0) 0 0 pc (nx pc)) : Sd T 4 (QT T Q 0 0) 0 0 0 (bX7_stepAll_0 Q nx) := x_ic C dX7_stepAll_0 (by decide) (x_is_n C dX7_stepAll_1 rfl (by decide) (hn 2))
set_option maxRecDepth 20000 in
theorem oX7_stepAll_2 {T : Ct} {Q : Option Value → MM → Prop} (C : Cx T cX7_stepAll 4 RX7 0 0) (CR : CxR T 3 65) (hr : T.2.2.2.2.2.2.2.2.1.sig.returnType = none) (hnm : T.2.2.2.2.2.2.2.2.1.name = "stepAll") {nx : Nat → Kt} (hn : ∀ pc, Sd T 4 (QT T Q 0 0) 0 0 pc (nx pc)) : Sd T 4 (QT T Q 0 0) 0 0 2 (bX7_stepAll_2 Q nx) := x_il_n C dX7_stepAll_2 rfl (x_ic C dX7_stepAll_3 (by decide) (x_ic_ge C (hn 60) dX7_stepAll_4 (by decide) (x_ic C dX7_stepAll_7 (by decide) (x_is_n C dX7_stepAll_8 rfl (by decide) (hn 9)))))
set_option maxRecDepth 20000 in
theorem oX7_stepAll_9 {T : Ct} {Q : Option Value → MM → Prop} (C : Cx T cX7_stepAll 4 RX7 0 0) (CR : CxR T 3 65) (hr : T.2.2.2.2.2.2.2.2.1.sig.returnType = none) (hnm : T.2.2.2.2.2.2.2.2.1.name = "stepAll") {nx : Nat → Kt} (hn : ∀ pc, Sd T 4 (QT T Q 0 0) 0 0 pc (nx pc)) : Sd T 4 (QT T Q 0 0) 0 0 9 (bX7_stepAll_9 Q nx) := x_il_n C dX7_stepAll_9 rfl (x_bp C dX7_stepAll_10 (by decide) (x_ic_ge C (hn 54) dX7_stepAll_12 (by decide) (x_al_n C dX7_stepAll_15 rfl (gf_X7_11 C dX7_stepAll_16 (x_il_n C dX7_stepAll_19 rfl (x_aald C (kd := 13) (t0 := 3) (by decide) (by decide) (fun _ => rfl) dX7_stepAll_20 (gf_X7_65 C dX7_stepAll_21 (x_il_n C dX7_stepAll_24 rfl (x_aald C (kd := 17) (t0 := 7) (by decide) (by decide) (fun _ => rfl) dX7_stepAll_25 (x_as_n C dX7_stepAll_26 rfl (by decide) (x_al_n C dX7_stepAll_27 rfl (x_cV C CR mX5_isLit ⟨co_X5_isLit, init_X5, md_X5_isLit, by decide, by decide⟩ (ci := 5) (TX := TX5) (N := 18) rfl (by decide) ml_X7_241 im_X5_isLit se_X5_isLit dX7_stepAll_28 (x_if_eq C (hn 48) dX7_stepAll_31 (by decide) (x_al_n C dX7_stepAll_34 rfl (gf_X7_11 C dX7_stepAll_35 (x_il_n C dX7_stepAll_38 rfl (x_aald C (kd := 13) (t0 := 3) (by decide) (by decide) (fun _ => rfl) dX7_stepAll_39 (x_al_n C dX7_stepAll_40 rfl (x_al_n C dX7_stepAll_41 rfl (x_cV C CR mX5_step ⟨co_X5_step, init_X5, md_X5_step, by decide, by decide⟩ (ci := 5) (TX := TX5) (N := 18) rfl (by decide) ml_X7_374 im_X5_step se_X5_step dX7_stepAll_42 (x_cV C CR mX1_moveTo ⟨co_X1_moveTo, init_X1, md_X1_moveTo, by decide, by decide⟩ (ci := 1) (TX := TX1) (N := 9) rfl (by decide) ml_X7_313 im_X1_moveTo se_X1_moveTo dX7_stepAll_45 (hn 48))))))))))))))))))))))
set_option maxRecDepth 20000 in
theorem oX7_stepAll_48 {T : Ct} {Q : Option Value → MM → Prop} (C : Cx T cX7_stepAll 4 RX7 0 0) (CR : CxR T 3 65) (hr : T.2.2.2.2.2.2.2.2.1.sig.returnType = none) (hnm : T.2.2.2.2.2.2.2.2.1.name = "stepAll") {nx : Nat → Kt} (hn : ∀ pc, Sd T 4 (QT T Q 0 0) 0 0 pc (nx pc)) : Sd T 4 (QT T Q 0 0) 0 0 48 (bX7_stepAll_48 Q nx) := x_inc C dX7_stepAll_48 (by decide) (by decide) (x_goto C (hn 9) dX7_stepAll_51 (by decide))
set_option maxRecDepth 20000 in
theorem oX7_stepAll_54 {T : Ct} {Q : Option Value → MM → Prop} (C : Cx T cX7_stepAll 4 RX7 0 0) (CR : CxR T 3 65) (hr : T.2.2.2.2.2.2.2.2.1.sig.returnType = none) (hnm : T.2.2.2.2.2.2.2.2.1.name = "stepAll") {nx : Nat → Kt} (hn : ∀ pc, Sd T 4 (QT T Q 0 0) 0 0 pc (nx pc)) : Sd T 4 (QT T Q 0 0) 0 0 54 (bX7_stepAll_54 Q nx) := x_inc C dX7_stepAll_54 (by decide) (by decide) (x_goto C (hn 2) dX7_stepAll_57 (by decide))
set_option maxRecDepth 20000 in
theorem oX7_stepAll_60 {T : Ct} {Q : Option Value → MM → Prop} (C : Cx T cX7_stepAll 4 RX7 0 0) (CR : CxR T 3 65) (hr : T.2.2.2.2.2.2.2.2.1.sig.returnType = none) (hnm : T.2.2.2.2.2.2.2.2.1.name = "stepAll") {nx : Nat → Kt} (hn : ∀ pc, Sd T 4 (QT T Q 0 0) 0 0 pc (nx pc)) : Sd T 4 (QT T Q 0 0) 0 0 60 (bX7_stepAll_60 Q nx) := x_rV C hr dX7_stepAll_60
set_option maxRecDepth 20000 in
theorem mX7_stepAll (l : Launch) (D : va_G) (cA : Nat → ClassId) (base : Nat) : Mc l D cA base yX7_stepAll cX7_stepAll 4 none rX7_stepAll wX7_stepAll := mc_of (by decide +kernel) kX7_stepAll (fun T Q C CR hr hnm nx hn => bse_ok _ (List.forall_mem_cons.mpr ⟨oX7_stepAll_0 C CR hr hnm hn, List.forall_mem_cons.mpr ⟨oX7_stepAll_2 C CR hr hnm hn, List.forall_mem_cons.mpr ⟨oX7_stepAll_9 C CR hr hnm hn, List.forall_mem_cons.mpr ⟨oX7_stepAll_48 C CR hr hnm hn, List.forall_mem_cons.mpr ⟨oX7_stepAll_54 C CR hr hnm hn, List.forall_mem_cons.mpr ⟨oX7_stepAll_60 C CR hr hnm hn, fun _ h => nomatch h⟩⟩⟩⟩⟩⟩))
theorem dX7_tellFrom_0 : decode cX7_tellFrom 0 = .ok (.aload_n 2, 1) := by decide +kernel
theorem dX7_tellFrom_1 : decode cX7_tellFrom 1 = .ok (.getfield 156, 3) := by decide +kernel
theorem dX7_tellFrom_4 : decode cX7_tellFrom 4 = .ok (.invokestatic 89, 3) := by decide +kernel
theorem dX7_tellFrom_7 : decode cX7_tellFrom 7 = .ok (.ifCond .ne 5, 3) := by decide +kernel
theorem dX7_tellFrom_10 : decode cX7_tellFrom 10 = .ok (.iconst 1, 1) := by decide +kernel
theorem dX7_tellFrom_11 : decode cX7_tellFrom 11 = .ok (.ireturn, 1) := by decide +kernel
theorem dX7_tellFrom_12 : decode cX7_tellFrom 12 = .ok (.aload_n 0, 1) := by decide +kernel
theorem dX7_tellFrom_13 : decode cX7_tellFrom 13 = .ok (.getfield 17, 3) := by decide +kernel
theorem dX7_tellFrom_16 : decode cX7_tellFrom 16 = .ok (.aload_n 2, 1) := by decide +kernel
theorem dX7_tellFrom_17 : decode cX7_tellFrom 17 = .ok (.getfield 156, 3) := by decide +kernel
theorem dX7_tellFrom_20 : decode cX7_tellFrom 20 = .ok (.aaload, 1) := by decide +kernel
theorem dX7_tellFrom_21 : decode cX7_tellFrom 21 = .ok (.astore_n 3, 1) := by decide +kernel
theorem dX7_tellFrom_22 : decode cX7_tellFrom 22 = .ok (.aload_n 3, 1) := by decide +kernel
theorem dX7_tellFrom_23 : decode cX7_tellFrom 23 = .ok (.getfield 133, 3) := by decide +kernel
theorem dX7_tellFrom_26 : decode cX7_tellFrom 26 = .ok (.iload_n 1, 1) := by decide +kernel
theorem dX7_tellFrom_27 : decode cX7_tellFrom 27 = .ok (.aaload, 1) := by decide +kernel
theorem dX7_tellFrom_28 : decode cX7_tellFrom 28 = .ok (.astore 4, 2) := by decide +kernel
theorem dX7_tellFrom_30 : decode cX7_tellFrom 30 = .ok (.aload_n 2, 1) := by decide +kernel
theorem dX7_tellFrom_31 : decode cX7_tellFrom 31 = .ok (.aload_n 0, 1) := by decide +kernel
theorem dX7_tellFrom_32 : decode cX7_tellFrom 32 = .ok (.getfield 177, 3) := by decide +kernel
theorem dX7_tellFrom_35 : decode cX7_tellFrom 35 = .ok (.invokevirtual 384, 3) := by decide +kernel
theorem dX7_tellFrom_38 : decode cX7_tellFrom 38 = .ok (.aload 4, 2) := by decide +kernel
theorem dX7_tellFrom_40 : decode cX7_tellFrom 40 = .ok (.getfield 137, 3) := by decide +kernel
theorem dX7_tellFrom_43 : decode cX7_tellFrom 43 = .ok (.ifCond .le 16, 3) := by decide +kernel
theorem dX7_tellFrom_46 : decode cX7_tellFrom 46 = .ok (.aload 4, 2) := by decide +kernel
theorem dX7_tellFrom_48 : decode cX7_tellFrom 48 = .ok (.dup, 1) := by decide +kernel
theorem dX7_tellFrom_49 : decode cX7_tellFrom 49 = .ok (.getfield 137, 3) := by decide +kernel
theorem dX7_tellFrom_52 : decode cX7_tellFrom 52 = .ok (.iconst 1, 1) := by decide +kernel
theorem dX7_tellFrom_53 : decode cX7_tellFrom 53 = .ok (.isub, 1) := by decide +kernel
theorem dX7_tellFrom_54 : decode cX7_tellFrom 54 = .ok (.putfield 137, 3) := by decide +kernel
theorem dX7_tellFrom_57 : decode cX7_tellFrom 57 = .ok (.iconst 0, 1) := by decide +kernel
theorem dX7_tellFrom_58 : decode cX7_tellFrom 58 = .ok (.ireturn, 1) := by decide +kernel
theorem dX7_tellFrom_59 : decode cX7_tellFrom 59 = .ok (.aload 4, 2) := by decide +kernel
theorem dX7_tellFrom_61 : decode cX7_tellFrom 61 = .ok (.aload_n 2, 1) := by decide +kernel
theorem dX7_tellFrom_62 : decode cX7_tellFrom 62 = .ok (.aload_n 0, 1) := by decide +kernel
theorem dX7_tellFrom_63 : decode cX7_tellFrom 63 = .ok (.getfield 177, 3) := by decide +kernel
theorem dX7_tellFrom_66 : decode cX7_tellFrom 66 = .ok (.aload_n 3, 1) := by decide +kernel
theorem dX7_tellFrom_67 : decode cX7_tellFrom 67 = .ok (.getfield 108, 3) := by decide +kernel
theorem dX7_tellFrom_70 : decode cX7_tellFrom 70 = .ok (.iadd, 1) := by decide +kernel
theorem dX7_tellFrom_71 : decode cX7_tellFrom 71 = .ok (.invokevirtual 387, 3) := by decide +kernel
theorem dX7_tellFrom_74 : decode cX7_tellFrom 74 = .ok (.iconst 1, 1) := by decide +kernel
theorem dX7_tellFrom_75 : decode cX7_tellFrom 75 = .ok (.ireturn, 1) := by decide +kernel
noncomputable def bX7_tellFrom_0 (Q : Option Value → MM → Prop) (nx : Nat → Kt) : Kt := ldA 2 (gI 5 2 (cS 1 wX7_isCable 0 0 0 0 (ifz (fun x => x = 0) (cI 1 (rZ Q)) (nx 12))))
noncomputable def bX7_tellFrom_12 (Q : Option Value → MM → Prop) (nx : Nat → Kt) : Kt := ldA 0 (gR 7 1 (ldA 2 (gI 5 2 (aR 12 (stA 3 (ldA 3 (gR 0 1 (ldI 1 (aR 15 (stA 4 (ldA 2 (ldA 0 (gI 7 2 (cV 1 5 wX5_rememberTelling 0 0 0 0 (ldA 4 (gI 3 6 (ifz (fun x => x ≤ 0) (nx 59) (ldA 4 (du (gI 3 6 (cI 1 (bop (fun x y => x - y) (tI 3 6 (cI 0 (rZ Q)))))))))))))))))))))))))
noncomputable def bX7_tellFrom_59 (Q : Option Value → MM → Prop) (nx : Nat → Kt) : Kt := ldA 4 (ldA 2 (ldA 0 (gI 7 2 (ldA 3 (gI 0 2 (bop (fun x y => x + y) (cV 2 3 wX3_addNote 0 0 0 0 (cI 1 (rZ Q)))))))))
noncomputable def kX7_tellFrom (Q : Option Value → MM → Prop) (nx : Nat → Kt) : Nat → Kt := bse [(0, bX7_tellFrom_0 Q nx), (12, bX7_tellFrom_12 Q nx), (59, bX7_tellFrom_59 Q nx)]
abbrev rX7_tellFrom : Room := { frames := 2, cells := 0, slots := 0, locals := 44 }
noncomputable def wX7_tellFrom : Mw := mw 5 kX7_tellFrom
set_option maxRecDepth 20000 in
theorem oX7_tellFrom_0 {T : Ct} {Q : Option Value → MM → Prop} (C : Cx T cX7_tellFrom 5 RX7 0 0) (CR : CxR T 2 44) (hr : T.2.2.2.2.2.2.2.2.1.sig.returnType = (some .boolean)) (hnm : T.2.2.2.2.2.2.2.2.1.name = "tellFrom") {nx : Nat → Kt} (hn : ∀ pc, Sd T 5 (QT T Q 0 0) 0 0 pc (nx pc)) : Sd T 5 (QT T Q 0 0) 0 0 0 (bX7_tellFrom_0 Q nx) := x_al_n C dX7_tellFrom_0 rfl (gf_X7_156 C dX7_tellFrom_1 (x_cS C CR mX7_isCable ⟨co_X7_isCable, init_X7, md_X7_isCable, by decide, by decide⟩ ml_X7_89 sm_X7_isCable dX7_tellFrom_4 (x_if_ne C (hn 12) dX7_tellFrom_7 (by decide) (x_ic C dX7_tellFrom_10 (by decide) (x_rZ C hr dX7_tellFrom_11)))))
set_option maxRecDepth 20000 in
theorem oX7_tellFrom_12 {T : Ct} {Q : Option Value → MM → Prop} (C : Cx T cX7_tellFrom 5 RX7 0 0) (CR : CxR T 2 44) (hr : T.2.2.2.2.2.2.2.2.1.sig.returnType = (some .boolean)) (hnm : T.2.2.2.2.2.2.2.2.1.name = "tellFrom") {nx : Nat → Kt} (hn : ∀ pc, Sd T 5 (QT T Q 0 0) 0 0 pc (nx pc)) : Sd T 5 (QT T Q 0 0) 0 0 12 (bX7_tellFrom_12 Q nx) := x_al_n C dX7_tellFrom_12 rfl (gf_X7_17 C dX7_tellFrom_13 (x_al_n C dX7_tellFrom_16 rfl (gf_X7_156 C dX7_tellFrom_17 (x_aald C (kd := 12) (t0 := 2) (by decide) (by decide) (fun _ => rfl) dX7_tellFrom_20 (x_as_n C dX7_tellFrom_21 rfl (by decide) (x_al_n C dX7_tellFrom_22 rfl (gf_X7_133 C dX7_tellFrom_23 (x_il_n C dX7_tellFrom_26 rfl (x_aald C (kd := 15) (t0 := 5) (by decide) (by decide) (fun _ => rfl) dX7_tellFrom_27 (x_as C dX7_tellFrom_28 (by decide) (x_al_n C dX7_tellFrom_30 rfl (x_al_n C dX7_tellFrom_31 rfl (gf_X7_177 C dX7_tellFrom_32 (x_cV C CR mX5_rememberTelling ⟨co_X5_rememberTelling, init_X5, md_X5_rememberTelling, by decide, by decide⟩ (ci := 5) (TX := TX5) (N := 18) rfl (by decide) ml_X7_384 im_X5_rememberTelling se_X5_rememberTelling dX7_tellFrom_35 (x_al C dX7_tellFrom_38 (gf_X7_137 C dX7_tellFrom_40 (x_if_le C (hn 59) dX7_tellFrom_43 (by decide) (x_al C dX7_tellFrom_46 (x_dup C dX7_tellFrom_48 (gf_X7_137 C dX7_tellFrom_49 (x_ic C dX7_tellFrom_52 (by decide) (x_isub C dX7_tellFrom_53 (pf_X7_137 C dX7_tellFrom_54 (x_ic C dX7_tellFrom_57 (by decide) (x_rZ C hr dX7_tellFrom_58)))))))))))))))))))))))))
set_option maxRecDepth 20000 in
theorem oX7_tellFrom_59 {T : Ct} {Q : Option Value → MM → Prop} (C : Cx T cX7_tellFrom 5 RX7 0 0) (CR : CxR T 2 44) (hr : T.2.2.2.2.2.2.2.2.1.sig.returnType = (some .boolean)) (hnm : T.2.2.2.2.2.2.2.2.1.name = "tellFrom") {nx : Nat → Kt} (hn : ∀ pc, Sd T 5 (QT T Q 0 0) 0 0 pc (nx pc)) : Sd T 5 (QT T Q 0 0) 0 0 59 (bX7_tellFrom_59 Q nx) := x_al C dX7_tellFrom_59 (x_al_n C dX7_tellFrom_61 rfl (x_al_n C dX7_tellFrom_62 rfl (gf_X7_177 C dX7_tellFrom_63 (x_al_n C dX7_tellFrom_66 rfl (gf_X7_108 C dX7_tellFrom_67 (x_iadd C dX7_tellFrom_70 (x_cV C CR mX3_addNote ⟨co_X3_addNote, init_X3, md_X3_addNote, by decide, by decide⟩ (ci := 3) (TX := TX3) (N := 7) rfl (by decide) ml_X7_387 im_X3_addNote se_X3_addNote dX7_tellFrom_71 (x_ic C dX7_tellFrom_74 (by decide) (x_rZ C hr dX7_tellFrom_75)))))))))
set_option maxRecDepth 20000 in
theorem mX7_tellFrom (l : Launch) (D : va_G) (cA : Nat → ClassId) (base : Nat) : Mc l D cA base yX7_tellFrom cX7_tellFrom 5 (some .boolean) rX7_tellFrom wX7_tellFrom := mc_of (by decide +kernel) kX7_tellFrom (fun T Q C CR hr hnm nx hn => bse_ok _ (List.forall_mem_cons.mpr ⟨oX7_tellFrom_0 C CR hr hnm hn, List.forall_mem_cons.mpr ⟨oX7_tellFrom_12 C CR hr hnm hn, List.forall_mem_cons.mpr ⟨oX7_tellFrom_59 C CR hr hnm hn, fun _ h => nomatch h⟩⟩⟩))
theorem dX7_tellAll_0 : decode cX7_tellAll 0 = .ok (.iconst 0, 1) := by decide +kernel
theorem dX7_tellAll_1 : decode cX7_tellAll 1 = .ok (.istore_n 1, 1) := by decide +kernel
theorem dX7_tellAll_2 : decode cX7_tellAll 2 = .ok (.iconst 0, 1) := by decide +kernel
theorem dX7_tellAll_3 : decode cX7_tellAll 3 = .ok (.istore_n 2, 1) := by decide +kernel
theorem dX7_tellAll_4 : decode cX7_tellAll 4 = .ok (.iload_n 2, 1) := by decide +kernel
theorem dX7_tellAll_5 : decode cX7_tellAll 5 = .ok (.iconst 2, 1) := by decide +kernel
theorem dX7_tellAll_6 : decode cX7_tellAll 6 = .ok (.if_icmp .ge 60, 3) := by decide +kernel
theorem dX7_tellAll_9 : decode cX7_tellAll 9 = .ok (.iconst 0, 1) := by decide +kernel
theorem dX7_tellAll_10 : decode cX7_tellAll 10 = .ok (.istore_n 3, 1) := by decide +kernel
theorem dX7_tellAll_11 : decode cX7_tellAll 11 = .ok (.iload_n 3, 1) := by decide +kernel
theorem dX7_tellAll_12 : decode cX7_tellAll 12 = .ok (.bipush 8, 2) := by decide +kernel
theorem dX7_tellAll_14 : decode cX7_tellAll 14 = .ok (.if_icmp .ge 46, 3) := by decide +kernel
theorem dX7_tellAll_17 : decode cX7_tellAll 17 = .ok (.aload_n 0, 1) := by decide +kernel
theorem dX7_tellAll_18 : decode cX7_tellAll 18 = .ok (.getfield 11, 3) := by decide +kernel
theorem dX7_tellAll_21 : decode cX7_tellAll 21 = .ok (.iload_n 2, 1) := by decide +kernel
theorem dX7_tellAll_22 : decode cX7_tellAll 22 = .ok (.aaload, 1) := by decide +kernel
theorem dX7_tellAll_23 : decode cX7_tellAll 23 = .ok (.getfield 65, 3) := by decide +kernel
theorem dX7_tellAll_26 : decode cX7_tellAll 26 = .ok (.iload_n 3, 1) := by decide +kernel
theorem dX7_tellAll_27 : decode cX7_tellAll 27 = .ok (.aaload, 1) := by decide +kernel
theorem dX7_tellAll_28 : decode cX7_tellAll 28 = .ok (.astore 4, 2) := by decide +kernel
theorem dX7_tellAll_30 : decode cX7_tellAll 30 = .ok (.aload 4, 2) := by decide +kernel
theorem dX7_tellAll_32 : decode cX7_tellAll 32 = .ok (.aload_n 0, 1) := by decide +kernel
theorem dX7_tellAll_33 : decode cX7_tellAll 33 = .ok (.getfield 177, 3) := by decide +kernel
theorem dX7_tellAll_36 : decode cX7_tellAll 36 = .ok (.invokevirtual 377, 3) := by decide +kernel
theorem dX7_tellAll_39 : decode cX7_tellAll 39 = .ok (.ifCond .eq 15, 3) := by decide +kernel
theorem dX7_tellAll_42 : decode cX7_tellAll 42 = .ok (.aload_n 0, 1) := by decide +kernel
theorem dX7_tellAll_43 : decode cX7_tellAll 43 = .ok (.iload_n 2, 1) := by decide +kernel
theorem dX7_tellAll_44 : decode cX7_tellAll 44 = .ok (.aload 4, 2) := by decide +kernel
theorem dX7_tellAll_46 : decode cX7_tellAll 46 = .ok (.invokevirtual 380, 3) := by decide +kernel
theorem dX7_tellAll_49 : decode cX7_tellAll 49 = .ok (.ifCond .ne 5, 3) := by decide +kernel
theorem dX7_tellAll_52 : decode cX7_tellAll 52 = .ok (.iconst 1, 1) := by decide +kernel
theorem dX7_tellAll_53 : decode cX7_tellAll 53 = .ok (.istore_n 1, 1) := by decide +kernel
theorem dX7_tellAll_54 : decode cX7_tellAll 54 = .ok (.iinc 3 1, 3) := by decide +kernel
theorem dX7_tellAll_57 : decode cX7_tellAll 57 = .ok (.goto (-46), 3) := by decide +kernel
theorem dX7_tellAll_60 : decode cX7_tellAll 60 = .ok (.iinc 2 1, 3) := by decide +kernel
theorem dX7_tellAll_63 : decode cX7_tellAll 63 = .ok (.goto (-59), 3) := by decide +kernel
theorem dX7_tellAll_66 : decode cX7_tellAll 66 = .ok (.iload_n 1, 1) := by decide +kernel
theorem dX7_tellAll_67 : decode cX7_tellAll 67 = .ok (.ireturn, 1) := by decide +kernel
noncomputable def bX7_tellAll_0 (Q : Option Value → MM → Prop) (nx : Nat → Kt) : Kt := cI 0 (stI 1 (cI 0 (stI 2 (nx 4))))
noncomputable def bX7_tellAll_4 (Q : Option Value → MM → Prop) (nx : Nat → Kt) : Kt := ldI 2 (cI 2 (ifc (fun x y => y ≤ x) (nx 66) (cI 0 (stI 3 (nx 11)))))
noncomputable def bX7_tellAll_11 (Q : Option Value → MM → Prop) (nx : Nat → Kt) : Kt := ldI 3 (cI 8 (ifc (fun x y => y ≤ x) (nx 60) (ldA 0 (gR 7 0 (ldI 2 (aR 13 (gR 1 0 (ldI 3 (aR 17 (stA 4 (ldA 4 (ldA 0 (gI 7 2 (cV 1 5 wX5_mustTell 0 0 0 0 (ifz (fun x => x = 0) (nx 54) (ldA 0 (ldI 2 (ldA 4 (cV 2 7 wX7_tellFrom 0 0 0 0 (ifz (fun x => x = 0) (cI 1 (stI 1 (nx 54))) (nx 54)))))))))))))))))))))
noncomputable def bX7_tellAll_54 (Q : Option Value → MM → Prop) (nx : Nat → Kt) : Kt := inc 3 1 (nx 11)
noncomputable def bX7_tellAll_60 (Q : Option Value → MM → Prop) (nx : Nat → Kt) : Kt := inc 2 1 (nx 4)
noncomputable def bX7_tellAll_66 (Q : Option Value → MM → Prop) (nx : Nat → Kt) : Kt := ldI 1 (rZ Q)
noncomputable def kX7_tellAll (Q : Option Value → MM → Prop) (nx : Nat → Kt) : Nat → Kt := bse [(0, bX7_tellAll_0 Q nx), (4, bX7_tellAll_4 Q nx), (11, bX7_tellAll_11 Q nx), (54, bX7_tellAll_54 Q nx), (60, bX7_tellAll_60 Q nx), (66, bX7_tellAll_66 Q nx)]
abbrev rX7_tellAll : Room := { frames := 3, cells := 0, slots := 0, locals := 68 }
noncomputable def wX7_tellAll : Mw := mw 5 kX7_tellAll
set_option maxRecDepth 20000 in
theorem oX7_tellAll_0 {T : Ct} {Q : Option Value → MM → Prop} (C : Cx T cX7_tellAll 5 RX7 0 0) (CR : CxR T 3 68) (hr : T.2.2.2.2.2.2.2.2.1.sig.returnType = (some .boolean)) (hnm : T.2.2.2.2.2.2.2.2.1.name = "tellAll") {nx : Nat → Kt} (hn : ∀ pc, Sd T 5 (QT T Q 0 0) 0 0 pc (nx pc)) : Sd T 5 (QT T Q 0 0) 0 0 0 (bX7_tellAll_0 Q nx) := x_ic C dX7_tellAll_0 (by decide) (x_is_n C dX7_tellAll_1 rfl (by decide) (x_ic C dX7_tellAll_2 (by decide) (x_is_n C dX7_tellAll_3 rfl (by decide) (hn 4))))
set_option maxRecDepth 20000 in
theorem oX7_tellAll_4 {T : Ct} {Q : Option Value → MM → Prop} (C : Cx T cX7_tellAll 5 RX7 0 0) (CR : CxR T 3 68) (hr : T.2.2.2.2.2.2.2.2.1.sig.returnType = (some .boolean)) (hnm : T.2.2.2.2.2.2.2.2.1.name = "tellAll") {nx : Nat → Kt} (hn : ∀ pc, Sd T 5 (QT T Q 0 0) 0 0 pc (nx pc)) : Sd T 5 (QT T Q 0 0) 0 0 4 (bX7_tellAll_4 Q nx) := x_il_n C dX7_tellAll_4 rfl (x_ic C dX7_tellAll_5 (by decide) (x_ic_ge C (hn 66) dX7_tellAll_6 (by decide) (x_ic C dX7_tellAll_9 (by decide) (x_is_n C dX7_tellAll_10 rfl (by decide) (hn 11)))))
set_option maxRecDepth 20000 in
theorem oX7_tellAll_11 {T : Ct} {Q : Option Value → MM → Prop} (C : Cx T cX7_tellAll 5 RX7 0 0) (CR : CxR T 3 68) (hr : T.2.2.2.2.2.2.2.2.1.sig.returnType = (some .boolean)) (hnm : T.2.2.2.2.2.2.2.2.1.name = "tellAll") {nx : Nat → Kt} (hn : ∀ pc, Sd T 5 (QT T Q 0 0) 0 0 pc (nx pc)) : Sd T 5 (QT T Q 0 0) 0 0 11 (bX7_tellAll_11 Q nx) := x_il_n C dX7_tellAll_11 rfl (x_bp C dX7_tellAll_12 (by decide) (x_ic_ge C (hn 60) dX7_tellAll_14 (by decide) (x_al_n C dX7_tellAll_17 rfl (gf_X7_11 C dX7_tellAll_18 (x_il_n C dX7_tellAll_21 rfl (x_aald C (kd := 13) (t0 := 3) (by decide) (by decide) (fun _ => rfl) dX7_tellAll_22 (gf_X7_65 C dX7_tellAll_23 (x_il_n C dX7_tellAll_26 rfl (x_aald C (kd := 17) (t0 := 7) (by decide) (by decide) (fun _ => rfl) dX7_tellAll_27 (x_as C dX7_tellAll_28 (by decide) (x_al C dX7_tellAll_30 (x_al_n C dX7_tellAll_32 rfl (gf_X7_177 C dX7_tellAll_33 (x_cV C CR mX5_mustTell ⟨co_X5_mustTell, init_X5, md_X5_mustTell, by decide, by decide⟩ (ci := 5) (TX := TX5) (N := 18) rfl (by decide) ml_X7_377 im_X5_mustTell se_X5_mustTell dX7_tellAll_36 (x_if_eq C (hn 54) dX7_tellAll_39 (by decide) (x_al_n C dX7_tellAll_42 rfl (x_il_n C dX7_tellAll_43 rfl (x_al C dX7_tellAll_44 (x_cV C CR mX7_tellFrom ⟨co_X7_tellFrom, init_X7, md_X7_tellFrom, by decide, by decide⟩ (ci := 7) (TX := TX7) (N := 9) rfl (by decide) ml_X7_380 im_X7_tellFrom se_X7_tellFrom dX7_tellAll_46 (x_if_ne C (hn 54) dX7_tellAll_49 (by decide) (x_ic C dX7_tellAll_52 (by decide) (x_is_n C dX7_tellAll_53 rfl (by decide) (hn 54)))))))))))))))))))))))
set_option maxRecDepth 20000 in
theorem oX7_tellAll_54 {T : Ct} {Q : Option Value → MM → Prop} (C : Cx T cX7_tellAll 5 RX7 0 0) (CR : CxR T 3 68) (hr : T.2.2.2.2.2.2.2.2.1.sig.returnType = (some .boolean)) (hnm : T.2.2.2.2.2.2.2.2.1.name = "tellAll") {nx : Nat → Kt} (hn : ∀ pc, Sd T 5 (QT T Q 0 0) 0 0 pc (nx pc)) : Sd T 5 (QT T Q 0 0) 0 0 54 (bX7_tellAll_54 Q nx) := x_inc C dX7_tellAll_54 (by decide) (by decide) (x_goto C (hn 11) dX7_tellAll_57 (by decide))
set_option maxRecDepth 20000 in
theorem oX7_tellAll_60 {T : Ct} {Q : Option Value → MM → Prop} (C : Cx T cX7_tellAll 5 RX7 0 0) (CR : CxR T 3 68) (hr : T.2.2.2.2.2.2.2.2.1.sig.returnType = (some .boolean)) (hnm : T.2.2.2.2.2.2.2.2.1.name = "tellAll") {nx : Nat → Kt} (hn : ∀ pc, Sd T 5 (QT T Q 0 0) 0 0 pc (nx pc)) : Sd T 5 (QT T Q 0 0) 0 0 60 (bX7_tellAll_60 Q nx) := x_inc C dX7_tellAll_60 (by decide) (by decide) (x_goto C (hn 4) dX7_tellAll_63 (by decide))
set_option maxRecDepth 20000 in
theorem oX7_tellAll_66 {T : Ct} {Q : Option Value → MM → Prop} (C : Cx T cX7_tellAll 5 RX7 0 0) (CR : CxR T 3 68) (hr : T.2.2.2.2.2.2.2.2.1.sig.returnType = (some .boolean)) (hnm : T.2.2.2.2.2.2.2.2.1.name = "tellAll") {nx : Nat → Kt} (hn : ∀ pc, Sd T 5 (QT T Q 0 0) 0 0 pc (nx pc)) : Sd T 5 (QT T Q 0 0) 0 0 66 (bX7_tellAll_66 Q nx) := x_il_n C dX7_tellAll_66 rfl (x_rZ C hr dX7_tellAll_67)
set_option maxRecDepth 20000 in
theorem mX7_tellAll (l : Launch) (D : va_G) (cA : Nat → ClassId) (base : Nat) : Mc l D cA base yX7_tellAll cX7_tellAll 5 (some .boolean) rX7_tellAll wX7_tellAll := mc_of (by decide +kernel) kX7_tellAll (fun T Q C CR hr hnm nx hn => bse_ok _ (List.forall_mem_cons.mpr ⟨oX7_tellAll_0 C CR hr hnm hn, List.forall_mem_cons.mpr ⟨oX7_tellAll_4 C CR hr hnm hn, List.forall_mem_cons.mpr ⟨oX7_tellAll_11 C CR hr hnm hn, List.forall_mem_cons.mpr ⟨oX7_tellAll_54 C CR hr hnm hn, List.forall_mem_cons.mpr ⟨oX7_tellAll_60 C CR hr hnm hn, List.forall_mem_cons.mpr ⟨oX7_tellAll_66 C CR hr hnm hn, fun _ h => nomatch h⟩⟩⟩⟩⟩⟩))
theorem dX7_isSettled_0 : decode cX7_isSettled 0 = .ok (.iconst 0, 1) := by decide +kernel
theorem dX7_isSettled_1 : decode cX7_isSettled 1 = .ok (.istore_n 1, 1) := by decide +kernel
theorem dX7_isSettled_2 : decode cX7_isSettled 2 = .ok (.iload_n 1, 1) := by decide +kernel
theorem dX7_isSettled_3 : decode cX7_isSettled 3 = .ok (.bipush 8, 2) := by decide +kernel
theorem dX7_isSettled_5 : decode cX7_isSettled 5 = .ok (.if_icmp .ge 23, 3) := by decide +kernel
theorem dX7_isSettled_8 : decode cX7_isSettled 8 = .ok (.aload_n 0, 1) := by decide +kernel
theorem dX7_isSettled_9 : decode cX7_isSettled 9 = .ok (.getfield 17, 3) := by decide +kernel
theorem dX7_isSettled_12 : decode cX7_isSettled 12 = .ok (.iload_n 1, 1) := by decide +kernel
theorem dX7_isSettled_13 : decode cX7_isSettled 13 = .ok (.aaload, 1) := by decide +kernel
theorem dX7_isSettled_14 : decode cX7_isSettled 14 = .ok (.invokevirtual 390, 3) := by decide +kernel
theorem dX7_isSettled_17 : decode cX7_isSettled 17 = .ok (.ifCond .ne 5, 3) := by decide +kernel
theorem dX7_isSettled_20 : decode cX7_isSettled 20 = .ok (.iconst 0, 1) := by decide +kernel
theorem dX7_isSettled_21 : decode cX7_isSettled 21 = .ok (.ireturn, 1) := by decide +kernel
theorem dX7_isSettled_22 : decode cX7_isSettled 22 = .ok (.iinc 1 1, 3) := by decide +kernel
theorem dX7_isSettled_25 : decode cX7_isSettled 25 = .ok (.goto (-23), 3) := by decide +kernel
theorem dX7_isSettled_28 : decode cX7_isSettled 28 = .ok (.iconst 1, 1) := by decide +kernel
theorem dX7_isSettled_29 : decode cX7_isSettled 29 = .ok (.ireturn, 1) := by decide +kernel
noncomputable def bX7_isSettled_0 (Q : Option Value → MM → Prop) (nx : Nat → Kt) : Kt := cI 0 (stI 1 (nx 2))
noncomputable def bX7_isSettled_2 (Q : Option Value → MM → Prop) (nx : Nat → Kt) : Kt := ldI 1 (cI 8 (ifc (fun x y => y ≤ x) (nx 28) (ldA 0 (gR 7 1 (ldI 1 (aR 12 (cV 0 0 wX0_isSettled 0 0 0 0 (ifz (fun x => x = 0) (cI 0 (rZ Q)) (nx 22)))))))))
noncomputable def bX7_isSettled_22 (Q : Option Value → MM → Prop) (nx : Nat → Kt) : Kt := inc 1 1 (nx 2)
noncomputable def bX7_isSettled_28 (Q : Option Value → MM → Prop) (nx : Nat → Kt) : Kt := cI 1 (rZ Q)
noncomputable def kX7_isSettled (Q : Option Value → MM → Prop) (nx : Nat → Kt) : Nat → Kt := bse [(0, bX7_isSettled_0 Q nx), (2, bX7_isSettled_2 Q nx), (22, bX7_isSettled_22 Q nx), (28, bX7_isSettled_28 Q nx)]
abbrev rX7_isSettled : Room := { frames := 2, cells := 0, slots := 0, locals := 40 }
noncomputable def wX7_isSettled : Mw := mw 2 kX7_isSettled
set_option maxRecDepth 20000 in
theorem oX7_isSettled_0 {T : Ct} {Q : Option Value → MM → Prop} (C : Cx T cX7_isSettled 2 RX7 0 0) (CR : CxR T 2 40) (hr : T.2.2.2.2.2.2.2.2.1.sig.returnType = (some .boolean)) (hnm : T.2.2.2.2.2.2.2.2.1.name = "isSettled") {nx : Nat → Kt} (hn : ∀ pc, Sd T 2 (QT T Q 0 0) 0 0 pc (nx pc)) : Sd T 2 (QT T Q 0 0) 0 0 0 (bX7_isSettled_0 Q nx) := x_ic C dX7_isSettled_0 (by decide) (x_is_n C dX7_isSettled_1 rfl (by decide) (hn 2))
set_option maxRecDepth 20000 in
theorem oX7_isSettled_2 {T : Ct} {Q : Option Value → MM → Prop} (C : Cx T cX7_isSettled 2 RX7 0 0) (CR : CxR T 2 40) (hr : T.2.2.2.2.2.2.2.2.1.sig.returnType = (some .boolean)) (hnm : T.2.2.2.2.2.2.2.2.1.name = "isSettled") {nx : Nat → Kt} (hn : ∀ pc, Sd T 2 (QT T Q 0 0) 0 0 pc (nx pc)) : Sd T 2 (QT T Q 0 0) 0 0 2 (bX7_isSettled_2 Q nx) := x_il_n C dX7_isSettled_2 rfl (x_bp C dX7_isSettled_3 (by decide) (x_ic_ge C (hn 28) dX7_isSettled_5 (by decide) (x_al_n C dX7_isSettled_8 rfl (gf_X7_17 C dX7_isSettled_9 (x_il_n C dX7_isSettled_12 rfl (x_aald C (kd := 12) (t0 := 2) (by decide) (by decide) (fun _ => rfl) dX7_isSettled_13 (x_cV C CR mX0_isSettled ⟨co_X0_isSettled, init_X0, md_X0_isSettled, by decide, by decide⟩ (ci := 0) (TX := TX0) (N := 5) rfl (by decide) ml_X7_390 im_X0_isSettled se_X0_isSettled dX7_isSettled_14 (x_if_ne C (hn 22) dX7_isSettled_17 (by decide) (x_ic C dX7_isSettled_20 (by decide) (x_rZ C hr dX7_isSettled_21))))))))))
set_option maxRecDepth 20000 in
theorem oX7_isSettled_22 {T : Ct} {Q : Option Value → MM → Prop} (C : Cx T cX7_isSettled 2 RX7 0 0) (CR : CxR T 2 40) (hr : T.2.2.2.2.2.2.2.2.1.sig.returnType = (some .boolean)) (hnm : T.2.2.2.2.2.2.2.2.1.name = "isSettled") {nx : Nat → Kt} (hn : ∀ pc, Sd T 2 (QT T Q 0 0) 0 0 pc (nx pc)) : Sd T 2 (QT T Q 0 0) 0 0 22 (bX7_isSettled_22 Q nx) := x_inc C dX7_isSettled_22 (by decide) (by decide) (x_goto C (hn 2) dX7_isSettled_25 (by decide))
set_option maxRecDepth 20000 in
theorem oX7_isSettled_28 {T : Ct} {Q : Option Value → MM → Prop} (C : Cx T cX7_isSettled 2 RX7 0 0) (CR : CxR T 2 40) (hr : T.2.2.2.2.2.2.2.2.1.sig.returnType = (some .boolean)) (hnm : T.2.2.2.2.2.2.2.2.1.name = "isSettled") {nx : Nat → Kt} (hn : ∀ pc, Sd T 2 (QT T Q 0 0) 0 0 pc (nx pc)) : Sd T 2 (QT T Q 0 0) 0 0 28 (bX7_isSettled_28 Q nx) := x_ic C dX7_isSettled_28 (by decide) (x_rZ C hr dX7_isSettled_29)
set_option maxRecDepth 20000 in
theorem mX7_isSettled (l : Launch) (D : va_G) (cA : Nat → ClassId) (base : Nat) : Mc l D cA base yX7_isSettled cX7_isSettled 2 (some .boolean) rX7_isSettled wX7_isSettled := mc_of (by decide +kernel) kX7_isSettled (fun T Q C CR hr hnm nx hn => bse_ok _ (List.forall_mem_cons.mpr ⟨oX7_isSettled_0 C CR hr hnm hn, List.forall_mem_cons.mpr ⟨oX7_isSettled_2 C CR hr hnm hn, List.forall_mem_cons.mpr ⟨oX7_isSettled_22 C CR hr hnm hn, List.forall_mem_cons.mpr ⟨oX7_isSettled_28 C CR hr hnm hn, fun _ h => nomatch h⟩⟩⟩⟩))
theorem dX7_runTick_0 : decode cX7_runTick 0 = .ok (.aload_n 0, 1) := by decide +kernel
theorem dX7_runTick_1 : decode cX7_runTick 1 = .ok (.invokevirtual 320, 3) := by decide +kernel
theorem dX7_runTick_4 : decode cX7_runTick 4 = .ok (.aload_n 0, 1) := by decide +kernel
theorem dX7_runTick_5 : decode cX7_runTick 5 = .ok (.invokevirtual 323, 3) := by decide +kernel
theorem dX7_runTick_8 : decode cX7_runTick 8 = .ok (.aload_n 0, 1) := by decide +kernel
theorem dX7_runTick_9 : decode cX7_runTick 9 = .ok (.invokevirtual 295, 3) := by decide +kernel
theorem dX7_runTick_12 : decode cX7_runTick 12 = .ok (.istore_n 1, 1) := by decide +kernel
theorem dX7_runTick_13 : decode cX7_runTick 13 = .ok (.iconst 0, 1) := by decide +kernel
theorem dX7_runTick_14 : decode cX7_runTick 14 = .ok (.istore_n 2, 1) := by decide +kernel
theorem dX7_runTick_15 : decode cX7_runTick 15 = .ok (.iload_n 2, 1) := by decide +kernel
theorem dX7_runTick_16 : decode cX7_runTick 16 = .ok (.iconst 2, 1) := by decide +kernel
theorem dX7_runTick_17 : decode cX7_runTick 17 = .ok (.if_icmp .ge 28, 3) := by decide +kernel
theorem dX7_runTick_20 : decode cX7_runTick 20 = .ok (.aload_n 0, 1) := by decide +kernel
theorem dX7_runTick_21 : decode cX7_runTick 21 = .ok (.getfield 11, 3) := by decide +kernel
theorem dX7_runTick_24 : decode cX7_runTick 24 = .ok (.iload_n 2, 1) := by decide +kernel
theorem dX7_runTick_25 : decode cX7_runTick 25 = .ok (.aaload, 1) := by decide +kernel
theorem dX7_runTick_26 : decode cX7_runTick 26 = .ok (.iload_n 2, 1) := by decide +kernel
theorem dX7_runTick_27 : decode cX7_runTick 27 = .ok (.iload_n 1, 1) := by decide +kernel
theorem dX7_runTick_28 : decode cX7_runTick 28 = .ok (.if_icmp .ne 7, 3) := by decide +kernel
theorem dX7_runTick_31 : decode cX7_runTick 31 = .ok (.iconst 1, 1) := by decide +kernel
theorem dX7_runTick_32 : decode cX7_runTick 32 = .ok (.goto 4, 3) := by decide +kernel
theorem dX7_runTick_35 : decode cX7_runTick 35 = .ok (.iconst 0, 1) := by decide +kernel
theorem dX7_runTick_36 : decode cX7_runTick 36 = .ok (.invokevirtual 326, 3) := by decide +kernel
theorem dX7_runTick_39 : decode cX7_runTick 39 = .ok (.iinc 2 1, 3) := by decide +kernel
theorem dX7_runTick_42 : decode cX7_runTick 42 = .ok (.goto (-27), 3) := by decide +kernel
theorem dX7_runTick_45 : decode cX7_runTick 45 = .ok (.aload_n 0, 1) := by decide +kernel
theorem dX7_runTick_46 : decode cX7_runTick 46 = .ok (.invokevirtual 330, 3) := by decide +kernel
theorem dX7_runTick_49 : decode cX7_runTick 49 = .ok (.aload_n 0, 1) := by decide +kernel
theorem dX7_runTick_50 : decode cX7_runTick 50 = .ok (.invokevirtual 333, 3) := by decide +kernel
theorem dX7_runTick_53 : decode cX7_runTick 53 = .ok (.istore_n 2, 1) := by decide +kernel
theorem dX7_runTick_54 : decode cX7_runTick 54 = .ok (.aload_n 0, 1) := by decide +kernel
theorem dX7_runTick_55 : decode cX7_runTick 55 = .ok (.dup, 1) := by decide +kernel
theorem dX7_runTick_56 : decode cX7_runTick 56 = .ok (.getfield 177, 3) := by decide +kernel
theorem dX7_runTick_59 : decode cX7_runTick 59 = .ok (.iconst 1, 1) := by decide +kernel
theorem dX7_runTick_60 : decode cX7_runTick 60 = .ok (.iadd, 1) := by decide +kernel
theorem dX7_runTick_61 : decode cX7_runTick 61 = .ok (.putfield 177, 3) := by decide +kernel
theorem dX7_runTick_64 : decode cX7_runTick 64 = .ok (.aload_n 0, 1) := by decide +kernel
theorem dX7_runTick_65 : decode cX7_runTick 65 = .ok (.iload_n 2, 1) := by decide +kernel
theorem dX7_runTick_66 : decode cX7_runTick 66 = .ok (.ifCond .eq 7, 3) := by decide +kernel
theorem dX7_runTick_69 : decode cX7_runTick 69 = .ok (.iconst 0, 1) := by decide +kernel
theorem dX7_runTick_70 : decode cX7_runTick 70 = .ok (.goto 9, 3) := by decide +kernel
theorem dX7_runTick_73 : decode cX7_runTick 73 = .ok (.aload_n 0, 1) := by decide +kernel
theorem dX7_runTick_74 : decode cX7_runTick 74 = .ok (.getfield 269, 3) := by decide +kernel
theorem dX7_runTick_77 : decode cX7_runTick 77 = .ok (.iconst 1, 1) := by decide +kernel
theorem dX7_runTick_78 : decode cX7_runTick 78 = .ok (.iadd, 1) := by decide +kernel
theorem dX7_runTick_79 : decode cX7_runTick 79 = .ok (.putfield 269, 3) := by decide +kernel
theorem dX7_runTick_82 : decode cX7_runTick 82 = .ok (.aload_n 0, 1) := by decide +kernel
theorem dX7_runTick_83 : decode cX7_runTick 83 = .ok (.getfield 269, 3) := by decide +kernel
theorem dX7_runTick_86 : decode cX7_runTick 86 = .ok (.sipush 300, 3) := by decide +kernel
theorem dX7_runTick_89 : decode cX7_runTick 89 = .ok (.if_icmp .lt 20, 3) := by decide +kernel
theorem dX7_runTick_92 : decode cX7_runTick 92 = .ok (.aload_n 0, 1) := by decide +kernel
theorem dX7_runTick_93 : decode cX7_runTick 93 = .ok (.invokevirtual 336, 3) := by decide +kernel
theorem dX7_runTick_96 : decode cX7_runTick 96 = .ok (.ifCond .ne 13, 3) := by decide +kernel
theorem dX7_runTick_99 : decode cX7_runTick 99 = .ok (.aload_n 0, 1) := by decide +kernel
theorem dX7_runTick_100 : decode cX7_runTick 100 = .ok (.dup, 1) := by decide +kernel
theorem dX7_runTick_101 : decode cX7_runTick 101 = .ok (.getfield 278, 3) := by decide +kernel
theorem dX7_runTick_104 : decode cX7_runTick 104 = .ok (.iconst 1, 1) := by decide +kernel
theorem dX7_runTick_105 : decode cX7_runTick 105 = .ok (.iadd, 1) := by decide +kernel
theorem dX7_runTick_106 : decode cX7_runTick 106 = .ok (.putfield 278, 3) := by decide +kernel
theorem dX7_runTick_109 : decode cX7_runTick 109 = .ok (.return_, 1) := by decide +kernel
noncomputable def bX7_runTick_0 (Q : Option Value → MM → Prop) (nx : Nat → Kt) : Kt := ldA 0 (cV 0 7 wX7_bringAll 0 0 0 0 (ldA 0 (cV 0 7 wX7_ageAll 0 0 0 0 (ldA 0 (cV 0 7 wX7_strongerEnd 0 0 0 0 (stI 1 (cI 0 (stI 2 (nx 15)))))))))
noncomputable def bX7_runTick_15 (Q : Option Value → MM → Prop) (nx : Nat → Kt) : Kt := ldI 2 (cI 2 (ifc (fun x y => y ≤ x) (nx 45) (ldA 0 (gR 7 0 (ldI 2 (aR 13 (ldI 2 (ldI 1 (ifc (fun x y => x = y) (cI 1 (nx 36)) (nx 35))))))))))
noncomputable def bX7_runTick_35 (Q : Option Value → MM → Prop) (nx : Nat → Kt) : Kt := cI 0 (nx 36)
noncomputable def bX7_runTick_36 (Q : Option Value → MM → Prop) (nx : Nat → Kt) : Kt := cV 1 1 wX1_formBundles 0 0 0 0 (inc 2 1 (nx 15))
noncomputable def bX7_runTick_45 (Q : Option Value → MM → Prop) (nx : Nat → Kt) : Kt := ldA 0 (cV 0 7 wX7_stepAll 0 0 0 0 (ldA 0 (cV 0 7 wX7_tellAll 0 0 0 0 (stI 2 (ldA 0 (du (gI 7 2 (cI 1 (bop (fun x y => x + y) (tI 7 2 (ldA 0 (ldI 2 (ifz (fun x => x = 0) (nx 73) (cI 0 (nx 79)))))))))))))))
noncomputable def bX7_runTick_73 (Q : Option Value → MM → Prop) (nx : Nat → Kt) : Kt := ldA 0 (gI 7 3 (cI 1 (bop (fun x y => x + y) (nx 79))))
noncomputable def bX7_runTick_79 (Q : Option Value → MM → Prop) (nx : Nat → Kt) : Kt := tI 7 3 (ldA 0 (gI 7 3 (cI 300 (ifc (fun x y => x < y) (nx 109) (ldA 0 (cV 0 7 wX7_isSettled 0 0 0 0 (ifz (fun x => x = 0) (ldA 0 (du (gI 7 6 (cI 1 (bop (fun x y => x + y) (tI 7 6 (nx 109))))))) (nx 109))))))))
noncomputable def bX7_runTick_109 (Q : Option Value → MM → Prop) (nx : Nat → Kt) : Kt := rV Q
noncomputable def kX7_runTick (Q : Option Value → MM → Prop) (nx : Nat → Kt) : Nat → Kt := bse [(0, bX7_runTick_0 Q nx), (15, bX7_runTick_15 Q nx), (35, bX7_runTick_35 Q nx), (36, bX7_runTick_36 Q nx), (45, bX7_runTick_45 Q nx), (73, bX7_runTick_73 Q nx), (79, bX7_runTick_79 Q nx), (109, bX7_runTick_109 Q nx)]
abbrev rX7_runTick : Room := { frames := 5, cells := 0, slots := 0, locals := 117 }
noncomputable def wX7_runTick : Mw := mw 3 kX7_runTick
set_option maxRecDepth 20000 in
theorem oX7_runTick_0 {T : Ct} {Q : Option Value → MM → Prop} (C : Cx T cX7_runTick 3 RX7 0 0) (CR : CxR T 5 117) (hr : T.2.2.2.2.2.2.2.2.1.sig.returnType = none) (hnm : T.2.2.2.2.2.2.2.2.1.name = "runTick") {nx : Nat → Kt} (hn : ∀ pc, Sd T 3 (QT T Q 0 0) 0 0 pc (nx pc)) : Sd T 3 (QT T Q 0 0) 0 0 0 (bX7_runTick_0 Q nx) := x_al_n C dX7_runTick_0 rfl (x_cV C CR mX7_bringAll ⟨co_X7_bringAll, init_X7, md_X7_bringAll, by decide, by decide⟩ (ci := 7) (TX := TX7) (N := 9) rfl (by decide) ml_X7_320 im_X7_bringAll se_X7_bringAll dX7_runTick_1 (x_al_n C dX7_runTick_4 rfl (x_cV C CR mX7_ageAll ⟨co_X7_ageAll, init_X7, md_X7_ageAll, by decide, by decide⟩ (ci := 7) (TX := TX7) (N := 9) rfl (by decide) ml_X7_323 im_X7_ageAll se_X7_ageAll dX7_runTick_5 (x_al_n C dX7_runTick_8 rfl (x_cV C CR mX7_strongerEnd ⟨co_X7_strongerEnd, init_X7, md_X7_strongerEnd, by decide, by decide⟩ (ci := 7) (TX := TX7) (N := 9) rfl (by decide) ml_X7_295 im_X7_strongerEnd se_X7_strongerEnd dX7_runTick_9 (x_is_n C dX7_runTick_12 rfl (by decide) (x_ic C dX7_runTick_13 (by decide) (x_is_n C dX7_runTick_14 rfl (by decide) (hn 15)))))))))
set_option maxRecDepth 20000 in
theorem oX7_runTick_15 {T : Ct} {Q : Option Value → MM → Prop} (C : Cx T cX7_runTick 3 RX7 0 0) (CR : CxR T 5 117) (hr : T.2.2.2.2.2.2.2.2.1.sig.returnType = none) (hnm : T.2.2.2.2.2.2.2.2.1.name = "runTick") {nx : Nat → Kt} (hn : ∀ pc, Sd T 3 (QT T Q 0 0) 0 0 pc (nx pc)) : Sd T 3 (QT T Q 0 0) 0 0 15 (bX7_runTick_15 Q nx) := x_il_n C dX7_runTick_15 rfl (x_ic C dX7_runTick_16 (by decide) (x_ic_ge C (hn 45) dX7_runTick_17 (by decide) (x_al_n C dX7_runTick_20 rfl (gf_X7_11 C dX7_runTick_21 (x_il_n C dX7_runTick_24 rfl (x_aald C (kd := 13) (t0 := 3) (by decide) (by decide) (fun _ => rfl) dX7_runTick_25 (x_il_n C dX7_runTick_26 rfl (x_il_n C dX7_runTick_27 rfl (x_ic_ne C (hn 35) dX7_runTick_28 (by decide) (x_ic C dX7_runTick_31 (by decide) (x_goto C (hn 36) dX7_runTick_32 (by decide))))))))))))
set_option maxRecDepth 20000 in
theorem oX7_runTick_35 {T : Ct} {Q : Option Value → MM → Prop} (C : Cx T cX7_runTick 3 RX7 0 0) (CR : CxR T 5 117) (hr : T.2.2.2.2.2.2.2.2.1.sig.returnType = none) (hnm : T.2.2.2.2.2.2.2.2.1.name = "runTick") {nx : Nat → Kt} (hn : ∀ pc, Sd T 3 (QT T Q 0 0) 0 0 pc (nx pc)) : Sd T 3 (QT T Q 0 0) 0 0 35 (bX7_runTick_35 Q nx) := x_ic C dX7_runTick_35 (by decide) (hn 36)
set_option maxRecDepth 20000 in
theorem oX7_runTick_36 {T : Ct} {Q : Option Value → MM → Prop} (C : Cx T cX7_runTick 3 RX7 0 0) (CR : CxR T 5 117) (hr : T.2.2.2.2.2.2.2.2.1.sig.returnType = none) (hnm : T.2.2.2.2.2.2.2.2.1.name = "runTick") {nx : Nat → Kt} (hn : ∀ pc, Sd T 3 (QT T Q 0 0) 0 0 pc (nx pc)) : Sd T 3 (QT T Q 0 0) 0 0 36 (bX7_runTick_36 Q nx) := x_cV C CR mX1_formBundles ⟨co_X1_formBundles, init_X1, md_X1_formBundles, by decide, by decide⟩ (ci := 1) (TX := TX1) (N := 9) rfl (by decide) ml_X7_326 im_X1_formBundles se_X1_formBundles dX7_runTick_36 (x_inc C dX7_runTick_39 (by decide) (by decide) (x_goto C (hn 15) dX7_runTick_42 (by decide)))
set_option maxRecDepth 20000 in
theorem oX7_runTick_45 {T : Ct} {Q : Option Value → MM → Prop} (C : Cx T cX7_runTick 3 RX7 0 0) (CR : CxR T 5 117) (hr : T.2.2.2.2.2.2.2.2.1.sig.returnType = none) (hnm : T.2.2.2.2.2.2.2.2.1.name = "runTick") {nx : Nat → Kt} (hn : ∀ pc, Sd T 3 (QT T Q 0 0) 0 0 pc (nx pc)) : Sd T 3 (QT T Q 0 0) 0 0 45 (bX7_runTick_45 Q nx) := x_al_n C dX7_runTick_45 rfl (x_cV C CR mX7_stepAll ⟨co_X7_stepAll, init_X7, md_X7_stepAll, by decide, by decide⟩ (ci := 7) (TX := TX7) (N := 9) rfl (by decide) ml_X7_330 im_X7_stepAll se_X7_stepAll dX7_runTick_46 (x_al_n C dX7_runTick_49 rfl (x_cV C CR mX7_tellAll ⟨co_X7_tellAll, init_X7, md_X7_tellAll, by decide, by decide⟩ (ci := 7) (TX := TX7) (N := 9) rfl (by decide) ml_X7_333 im_X7_tellAll se_X7_tellAll dX7_runTick_50 (x_is_n C dX7_runTick_53 rfl (by decide) (x_al_n C dX7_runTick_54 rfl (x_dup C dX7_runTick_55 (gf_X7_177 C dX7_runTick_56 (x_ic C dX7_runTick_59 (by decide) (x_iadd C dX7_runTick_60 (pf_X7_177 C dX7_runTick_61 (x_al_n C dX7_runTick_64 rfl (x_il_n C dX7_runTick_65 rfl (x_if_eq C (hn 73) dX7_runTick_66 (by decide) (x_ic C dX7_runTick_69 (by decide) (x_goto C (hn 79) dX7_runTick_70 (by decide))))))))))))))))
set_option maxRecDepth 20000 in
theorem oX7_runTick_73 {T : Ct} {Q : Option Value → MM → Prop} (C : Cx T cX7_runTick 3 RX7 0 0) (CR : CxR T 5 117) (hr : T.2.2.2.2.2.2.2.2.1.sig.returnType = none) (hnm : T.2.2.2.2.2.2.2.2.1.name = "runTick") {nx : Nat → Kt} (hn : ∀ pc, Sd T 3 (QT T Q 0 0) 0 0 pc (nx pc)) : Sd T 3 (QT T Q 0 0) 0 0 73 (bX7_runTick_73 Q nx) := x_al_n C dX7_runTick_73 rfl (gf_X7_269 C dX7_runTick_74 (x_ic C dX7_runTick_77 (by decide) (x_iadd C dX7_runTick_78 (hn 79))))
set_option maxRecDepth 20000 in
theorem oX7_runTick_79 {T : Ct} {Q : Option Value → MM → Prop} (C : Cx T cX7_runTick 3 RX7 0 0) (CR : CxR T 5 117) (hr : T.2.2.2.2.2.2.2.2.1.sig.returnType = none) (hnm : T.2.2.2.2.2.2.2.2.1.name = "runTick") {nx : Nat → Kt} (hn : ∀ pc, Sd T 3 (QT T Q 0 0) 0 0 pc (nx pc)) : Sd T 3 (QT T Q 0 0) 0 0 79 (bX7_runTick_79 Q nx) := pf_X7_269 C dX7_runTick_79 (x_al_n C dX7_runTick_82 rfl (gf_X7_269 C dX7_runTick_83 (x_sp C dX7_runTick_86 (by decide) (x_ic_lt C (hn 109) dX7_runTick_89 (by decide) (x_al_n C dX7_runTick_92 rfl (x_cV C CR mX7_isSettled ⟨co_X7_isSettled, init_X7, md_X7_isSettled, by decide, by decide⟩ (ci := 7) (TX := TX7) (N := 9) rfl (by decide) ml_X7_336 im_X7_isSettled se_X7_isSettled dX7_runTick_93 (x_if_ne C (hn 109) dX7_runTick_96 (by decide) (x_al_n C dX7_runTick_99 rfl (x_dup C dX7_runTick_100 (gf_X7_278 C dX7_runTick_101 (x_ic C dX7_runTick_104 (by decide) (x_iadd C dX7_runTick_105 (pf_X7_278 C dX7_runTick_106 (hn 109))))))))))))))
set_option maxRecDepth 20000 in
theorem oX7_runTick_109 {T : Ct} {Q : Option Value → MM → Prop} (C : Cx T cX7_runTick 3 RX7 0 0) (CR : CxR T 5 117) (hr : T.2.2.2.2.2.2.2.2.1.sig.returnType = none) (hnm : T.2.2.2.2.2.2.2.2.1.name = "runTick") {nx : Nat → Kt} (hn : ∀ pc, Sd T 3 (QT T Q 0 0) 0 0 pc (nx pc)) : Sd T 3 (QT T Q 0 0) 0 0 109 (bX7_runTick_109 Q nx) := x_rV C hr dX7_runTick_109
set_option maxRecDepth 20000 in
theorem mX7_runTick (l : Launch) (D : va_G) (cA : Nat → ClassId) (base : Nat) : Mc l D cA base yX7_runTick cX7_runTick 3 none rX7_runTick wX7_runTick := mc_of (by decide +kernel) kX7_runTick (fun T Q C CR hr hnm nx hn => bse_ok _ (List.forall_mem_cons.mpr ⟨oX7_runTick_0 C CR hr hnm hn, List.forall_mem_cons.mpr ⟨oX7_runTick_15 C CR hr hnm hn, List.forall_mem_cons.mpr ⟨oX7_runTick_35 C CR hr hnm hn, List.forall_mem_cons.mpr ⟨oX7_runTick_36 C CR hr hnm hn, List.forall_mem_cons.mpr ⟨oX7_runTick_45 C CR hr hnm hn, List.forall_mem_cons.mpr ⟨oX7_runTick_73 C CR hr hnm hn, List.forall_mem_cons.mpr ⟨oX7_runTick_79 C CR hr hnm hn, List.forall_mem_cons.mpr ⟨oX7_runTick_109 C CR hr hnm hn, fun _ h => nomatch h⟩⟩⟩⟩⟩⟩⟩⟩))
theorem dX7_note_0 : decode cX7_note 0 = .ok (.iload_n 1, 1) := by decide +kernel
theorem dX7_note_1 : decode cX7_note 1 = .ok (.invokestatic 25, 3) := by decide +kernel
theorem dX7_note_4 : decode cX7_note 4 = .ok (.ifCond .eq 20, 3) := by decide +kernel
theorem dX7_note_7 : decode cX7_note 7 = .ok (.iload_n 2, 1) := by decide +kernel
theorem dX7_note_8 : decode cX7_note 8 = .ok (.invokestatic 57, 3) := by decide +kernel
theorem dX7_note_11 : decode cX7_note 11 = .ok (.ifCond .eq 13, 3) := by decide +kernel
theorem dX7_note_14 : decode cX7_note 14 = .ok (.iload_n 3, 1) := by decide +kernel
theorem dX7_note_15 : decode cX7_note 15 = .ok (.ifCond .lt 9, 3) := by decide +kernel
theorem dX7_note_18 : decode cX7_note 18 = .ok (.iload_n 3, 1) := by decide +kernel
theorem dX7_note_19 : decode cX7_note 19 = .ok (.bipush 22, 2) := by decide +kernel
theorem dX7_note_21 : decode cX7_note 21 = .ok (.if_icmp .lt 5, 3) := by decide +kernel
theorem dX7_note_24 : decode cX7_note 24 = .ok (.iconst (-1), 1) := by decide +kernel
theorem dX7_note_25 : decode cX7_note 25 = .ok (.ireturn, 1) := by decide +kernel
theorem dX7_note_26 : decode cX7_note 26 = .ok (.aload_n 0, 1) := by decide +kernel
theorem dX7_note_27 : decode cX7_note 27 = .ok (.getfield 11, 3) := by decide +kernel
theorem dX7_note_30 : decode cX7_note 30 = .ok (.iload_n 1, 1) := by decide +kernel
theorem dX7_note_31 : decode cX7_note 31 = .ok (.aaload, 1) := by decide +kernel
theorem dX7_note_32 : decode cX7_note 32 = .ok (.getfield 65, 3) := by decide +kernel
theorem dX7_note_35 : decode cX7_note 35 = .ok (.iload_n 2, 1) := by decide +kernel
theorem dX7_note_36 : decode cX7_note 36 = .ok (.aaload, 1) := by decide +kernel
theorem dX7_note_37 : decode cX7_note 37 = .ok (.astore 4, 2) := by decide +kernel
theorem dX7_note_39 : decode cX7_note 39 = .ok (.iload_n 3, 1) := by decide +kernel
theorem dX7_note_40 : decode cX7_note 40 = .ok (.bipush 11, 2) := by decide +kernel
theorem dX7_note_42 : decode cX7_note 42 = .ok (.if_icmp .ge 15, 3) := by decide +kernel
theorem dX7_note_45 : decode cX7_note 45 = .ok (.aload 4, 2) := by decide +kernel
theorem dX7_note_47 : decode cX7_note 47 = .ok (.getfield 69, 3) := by decide +kernel
theorem dX7_note_50 : decode cX7_note 50 = .ok (.iload_n 3, 1) := by decide +kernel
theorem dX7_note_51 : decode cX7_note 51 = .ok (.invokevirtual 265, 3) := by decide +kernel
theorem dX7_note_54 : decode cX7_note 54 = .ok (.goto 15, 3) := by decide +kernel
theorem dX7_note_57 : decode cX7_note 57 = .ok (.aload 4, 2) := by decide +kernel
theorem dX7_note_59 : decode cX7_note 59 = .ok (.getfield 196, 3) := by decide +kernel
theorem dX7_note_62 : decode cX7_note 62 = .ok (.iload_n 3, 1) := by decide +kernel
theorem dX7_note_63 : decode cX7_note 63 = .ok (.bipush 11, 2) := by decide +kernel
theorem dX7_note_65 : decode cX7_note 65 = .ok (.isub, 1) := by decide +kernel
theorem dX7_note_66 : decode cX7_note 66 = .ok (.invokevirtual 265, 3) := by decide +kernel
theorem dX7_note_69 : decode cX7_note 69 = .ok (.ireturn, 1) := by decide +kernel
noncomputable def bX7_note_0 (Q : Option Value → MM → Prop) (nx : Nat → Kt) : Kt := ldI 1 (cS 1 wX7_isEnd 0 0 0 0 (ifz (fun x => x = 0) (nx 24) (ldI 2 (cS 1 wX7_isPort 0 0 0 0 (ifz (fun x => x = 0) (nx 24) (ldI 3 (ifz (fun x => x < 0) (nx 24) (ldI 3 (cI 22 (ifc (fun x y => x < y) (nx 26) (nx 24)))))))))))
noncomputable def bX7_note_24 (Q : Option Value → MM → Prop) (nx : Nat → Kt) : Kt := cI (-1) (rI Q)
noncomputable def bX7_note_26 (Q : Option Value → MM → Prop) (nx : Nat → Kt) : Kt := ldA 0 (gR 7 0 (ldI 1 (aR 13 (gR 1 0 (ldI 2 (aR 17 (stA 4 (ldI 3 (cI 11 (ifc (fun x y => y ≤ x) (nx 57) (ldA 4 (gR 5 0 (ldI 3 (cV 1 6 wX6_byteAt 0 0 0 0 (nx 69)))))))))))))))
noncomputable def bX7_note_57 (Q : Option Value → MM → Prop) (nx : Nat → Kt) : Kt := ldA 4 (gR 5 1 (ldI 3 (cI 11 (bop (fun x y => x - y) (cV 1 6 wX6_byteAt 0 0 0 0 (nx 69))))))
noncomputable def bX7_note_69 (Q : Option Value → MM → Prop) (nx : Nat → Kt) : Kt := rI Q
noncomputable def kX7_note (Q : Option Value → MM → Prop) (nx : Nat → Kt) : Nat → Kt := bse [(0, bX7_note_0 Q nx), (24, bX7_note_24 Q nx), (26, bX7_note_26 Q nx), (57, bX7_note_57 Q nx), (69, bX7_note_69 Q nx)]
abbrev rX7_note : Room := { frames := 1, cells := 0, slots := 0, locals := 22 }
noncomputable def wX7_note : Mw := mw 5 kX7_note
set_option maxRecDepth 20000 in
theorem oX7_note_0 {T : Ct} {Q : Option Value → MM → Prop} (C : Cx T cX7_note 5 RX7 0 0) (CR : CxR T 1 22) (hr : T.2.2.2.2.2.2.2.2.1.sig.returnType = (some .int)) (hnm : T.2.2.2.2.2.2.2.2.1.name = "note") {nx : Nat → Kt} (hn : ∀ pc, Sd T 5 (QT T Q 0 0) 0 0 pc (nx pc)) : Sd T 5 (QT T Q 0 0) 0 0 0 (bX7_note_0 Q nx) := x_il_n C dX7_note_0 rfl (x_cS C CR mX7_isEnd ⟨co_X7_isEnd, init_X7, md_X7_isEnd, by decide, by decide⟩ ml_X7_25 sm_X7_isEnd dX7_note_1 (x_if_eq C (hn 24) dX7_note_4 (by decide) (x_il_n C dX7_note_7 rfl (x_cS C CR mX7_isPort ⟨co_X7_isPort, init_X7, md_X7_isPort, by decide, by decide⟩ ml_X7_57 sm_X7_isPort dX7_note_8 (x_if_eq C (hn 24) dX7_note_11 (by decide) (x_il_n C dX7_note_14 rfl (x_if_lt C (hn 24) dX7_note_15 (by decide) (x_il_n C dX7_note_18 rfl (x_bp C dX7_note_19 (by decide) (x_ic_lt C (hn 26) dX7_note_21 (by decide) (hn 24)))))))))))
set_option maxRecDepth 20000 in
theorem oX7_note_24 {T : Ct} {Q : Option Value → MM → Prop} (C : Cx T cX7_note 5 RX7 0 0) (CR : CxR T 1 22) (hr : T.2.2.2.2.2.2.2.2.1.sig.returnType = (some .int)) (hnm : T.2.2.2.2.2.2.2.2.1.name = "note") {nx : Nat → Kt} (hn : ∀ pc, Sd T 5 (QT T Q 0 0) 0 0 pc (nx pc)) : Sd T 5 (QT T Q 0 0) 0 0 24 (bX7_note_24 Q nx) := x_ic C dX7_note_24 (by decide) (x_rI C hr dX7_note_25)
set_option maxRecDepth 20000 in
theorem oX7_note_26 {T : Ct} {Q : Option Value → MM → Prop} (C : Cx T cX7_note 5 RX7 0 0) (CR : CxR T 1 22) (hr : T.2.2.2.2.2.2.2.2.1.sig.returnType = (some .int)) (hnm : T.2.2.2.2.2.2.2.2.1.name = "note") {nx : Nat → Kt} (hn : ∀ pc, Sd T 5 (QT T Q 0 0) 0 0 pc (nx pc)) : Sd T 5 (QT T Q 0 0) 0 0 26 (bX7_note_26 Q nx) := x_al_n C dX7_note_26 rfl (gf_X7_11 C dX7_note_27 (x_il_n C dX7_note_30 rfl (x_aald C (kd := 13) (t0 := 3) (by decide) (by decide) (fun _ => rfl) dX7_note_31 (gf_X7_65 C dX7_note_32 (x_il_n C dX7_note_35 rfl (x_aald C (kd := 17) (t0 := 7) (by decide) (by decide) (fun _ => rfl) dX7_note_36 (x_as C dX7_note_37 (by decide) (x_il_n C dX7_note_39 rfl (x_bp C dX7_note_40 (by decide) (x_ic_ge C (hn 57) dX7_note_42 (by decide) (x_al C dX7_note_45 (gf_X7_69 C dX7_note_47 (x_il_n C dX7_note_50 rfl (x_cV C CR mX6_byteAt ⟨co_X6_byteAt, init_X6, md_X6_byteAt, by decide, by decide⟩ (ci := 6) (TX := TX6) (N := 5) rfl (by decide) ml_X7_265 im_X6_byteAt se_X6_byteAt dX7_note_51 (x_goto C (hn 69) dX7_note_54 (by decide))))))))))))))))
set_option maxRecDepth 20000 in
theorem oX7_note_57 {T : Ct} {Q : Option Value → MM → Prop} (C : Cx T cX7_note 5 RX7 0 0) (CR : CxR T 1 22) (hr : T.2.2.2.2.2.2.2.2.1.sig.returnType = (some .int)) (hnm : T.2.2.2.2.2.2.2.2.1.name = "note") {nx : Nat → Kt} (hn : ∀ pc, Sd T 5 (QT T Q 0 0) 0 0 pc (nx pc)) : Sd T 5 (QT T Q 0 0) 0 0 57 (bX7_note_57 Q nx) := x_al C dX7_note_57 (gf_X7_196 C dX7_note_59 (x_il_n C dX7_note_62 rfl (x_bp C dX7_note_63 (by decide) (x_isub C dX7_note_65 (x_cV C CR mX6_byteAt ⟨co_X6_byteAt, init_X6, md_X6_byteAt, by decide, by decide⟩ (ci := 6) (TX := TX6) (N := 5) rfl (by decide) ml_X7_265 im_X6_byteAt se_X6_byteAt dX7_note_66 (hn 69))))))
set_option maxRecDepth 20000 in
theorem oX7_note_69 {T : Ct} {Q : Option Value → MM → Prop} (C : Cx T cX7_note 5 RX7 0 0) (CR : CxR T 1 22) (hr : T.2.2.2.2.2.2.2.2.1.sig.returnType = (some .int)) (hnm : T.2.2.2.2.2.2.2.2.1.name = "note") {nx : Nat → Kt} (hn : ∀ pc, Sd T 5 (QT T Q 0 0) 0 0 pc (nx pc)) : Sd T 5 (QT T Q 0 0) 0 0 69 (bX7_note_69 Q nx) := x_rI C hr dX7_note_69
set_option maxRecDepth 20000 in
theorem mX7_note (l : Launch) (D : va_G) (cA : Nat → ClassId) (base : Nat) : Mc l D cA base yX7_note cX7_note 5 (some .int) rX7_note wX7_note := mc_of (by decide +kernel) kX7_note (fun T Q C CR hr hnm nx hn => bse_ok _ (List.forall_mem_cons.mpr ⟨oX7_note_0 C CR hr hnm hn, List.forall_mem_cons.mpr ⟨oX7_note_24 C CR hr hnm hn, List.forall_mem_cons.mpr ⟨oX7_note_26 C CR hr hnm hn, List.forall_mem_cons.mpr ⟨oX7_note_57 C CR hr hnm hn, List.forall_mem_cons.mpr ⟨oX7_note_69 C CR hr hnm hn, fun _ h => nomatch h⟩⟩⟩⟩⟩))
theorem dX7_count_0 : decode cX7_count 0 = .ok (.iload_n 1, 1) := by decide +kernel
theorem dX7_count_1 : decode cX7_count 1 = .ok (.tableswitch 162 0 12 #[67, 72, 77, 87, 97, 107, 117, 127, 137, 142, 147, 152, 157], 67) := by decide +kernel
theorem dX7_count_68 : decode cX7_count 68 = .ok (.aload_n 0, 1) := by decide +kernel
theorem dX7_count_69 : decode cX7_count 69 = .ok (.getfield 177, 3) := by decide +kernel
theorem dX7_count_72 : decode cX7_count 72 = .ok (.ireturn, 1) := by decide +kernel
theorem dX7_count_73 : decode cX7_count 73 = .ok (.aload_n 0, 1) := by decide +kernel
theorem dX7_count_74 : decode cX7_count 74 = .ok (.getfield 269, 3) := by decide +kernel
theorem dX7_count_77 : decode cX7_count 77 = .ok (.ireturn, 1) := by decide +kernel
theorem dX7_count_78 : decode cX7_count 78 = .ok (.aload_n 0, 1) := by decide +kernel
theorem dX7_count_79 : decode cX7_count 79 = .ok (.getfield 11, 3) := by decide +kernel
theorem dX7_count_82 : decode cX7_count 82 = .ok (.iconst 0, 1) := by decide +kernel
theorem dX7_count_83 : decode cX7_count 83 = .ok (.aaload, 1) := by decide +kernel
theorem dX7_count_84 : decode cX7_count 84 = .ok (.getfield 37, 3) := by decide +kernel
theorem dX7_count_87 : decode cX7_count 87 = .ok (.ireturn, 1) := by decide +kernel
theorem dX7_count_88 : decode cX7_count 88 = .ok (.aload_n 0, 1) := by decide +kernel
theorem dX7_count_89 : decode cX7_count 89 = .ok (.getfield 11, 3) := by decide +kernel
theorem dX7_count_92 : decode cX7_count 92 = .ok (.iconst 1, 1) := by decide +kernel
theorem dX7_count_93 : decode cX7_count 93 = .ok (.aaload, 1) := by decide +kernel
theorem dX7_count_94 : decode cX7_count 94 = .ok (.getfield 37, 3) := by decide +kernel
theorem dX7_count_97 : decode cX7_count 97 = .ok (.ireturn, 1) := by decide +kernel
theorem dX7_count_98 : decode cX7_count 98 = .ok (.aload_n 0, 1) := by decide +kernel
theorem dX7_count_99 : decode cX7_count 99 = .ok (.getfield 11, 3) := by decide +kernel
theorem dX7_count_102 : decode cX7_count 102 = .ok (.iconst 0, 1) := by decide +kernel
theorem dX7_count_103 : decode cX7_count 103 = .ok (.aaload, 1) := by decide +kernel
theorem dX7_count_104 : decode cX7_count 104 = .ok (.getfield 54, 3) := by decide +kernel
theorem dX7_count_107 : decode cX7_count 107 = .ok (.ireturn, 1) := by decide +kernel
theorem dX7_count_108 : decode cX7_count 108 = .ok (.aload_n 0, 1) := by decide +kernel
theorem dX7_count_109 : decode cX7_count 109 = .ok (.getfield 11, 3) := by decide +kernel
theorem dX7_count_112 : decode cX7_count 112 = .ok (.iconst 1, 1) := by decide +kernel
theorem dX7_count_113 : decode cX7_count 113 = .ok (.aaload, 1) := by decide +kernel
theorem dX7_count_114 : decode cX7_count 114 = .ok (.getfield 54, 3) := by decide +kernel
theorem dX7_count_117 : decode cX7_count 117 = .ok (.ireturn, 1) := by decide +kernel
theorem dX7_count_118 : decode cX7_count 118 = .ok (.aload_n 0, 1) := by decide +kernel
theorem dX7_count_119 : decode cX7_count 119 = .ok (.getfield 11, 3) := by decide +kernel
theorem dX7_count_122 : decode cX7_count 122 = .ok (.iconst 0, 1) := by decide +kernel
theorem dX7_count_123 : decode cX7_count 123 = .ok (.aaload, 1) := by decide +kernel
theorem dX7_count_124 : decode cX7_count 124 = .ok (.getfield 144, 3) := by decide +kernel
theorem dX7_count_127 : decode cX7_count 127 = .ok (.ireturn, 1) := by decide +kernel
theorem dX7_count_128 : decode cX7_count 128 = .ok (.aload_n 0, 1) := by decide +kernel
theorem dX7_count_129 : decode cX7_count 129 = .ok (.getfield 11, 3) := by decide +kernel
theorem dX7_count_132 : decode cX7_count 132 = .ok (.iconst 1, 1) := by decide +kernel
theorem dX7_count_133 : decode cX7_count 133 = .ok (.aaload, 1) := by decide +kernel
theorem dX7_count_134 : decode cX7_count 134 = .ok (.getfield 144, 3) := by decide +kernel
theorem dX7_count_137 : decode cX7_count 137 = .ok (.ireturn, 1) := by decide +kernel
theorem dX7_count_138 : decode cX7_count 138 = .ok (.aload_n 0, 1) := by decide +kernel
theorem dX7_count_139 : decode cX7_count 139 = .ok (.getfield 272, 3) := by decide +kernel
theorem dX7_count_142 : decode cX7_count 142 = .ok (.ireturn, 1) := by decide +kernel
theorem dX7_count_143 : decode cX7_count 143 = .ok (.aload_n 0, 1) := by decide +kernel
theorem dX7_count_144 : decode cX7_count 144 = .ok (.getfield 275, 3) := by decide +kernel
theorem dX7_count_147 : decode cX7_count 147 = .ok (.ireturn, 1) := by decide +kernel
theorem dX7_count_148 : decode cX7_count 148 = .ok (.aload_n 0, 1) := by decide +kernel
theorem dX7_count_149 : decode cX7_count 149 = .ok (.getfield 278, 3) := by decide +kernel
theorem dX7_count_152 : decode cX7_count 152 = .ok (.ireturn, 1) := by decide +kernel
theorem dX7_count_153 : decode cX7_count 153 = .ok (.aload_n 0, 1) := by decide +kernel
theorem dX7_count_154 : decode cX7_count 154 = .ok (.getfield 202, 3) := by decide +kernel
theorem dX7_count_157 : decode cX7_count 157 = .ok (.ireturn, 1) := by decide +kernel
theorem dX7_count_158 : decode cX7_count 158 = .ok (.aload_n 0, 1) := by decide +kernel
theorem dX7_count_159 : decode cX7_count 159 = .ok (.getfield 281, 3) := by decide +kernel
theorem dX7_count_162 : decode cX7_count 162 = .ok (.ireturn, 1) := by decide +kernel
theorem dX7_count_163 : decode cX7_count 163 = .ok (.iconst (-1), 1) := by decide +kernel
theorem dX7_count_164 : decode cX7_count 164 = .ok (.ireturn, 1) := by decide +kernel
noncomputable def bX7_count_0 (Q : Option Value → MM → Prop) (nx : Nat → Kt) : Kt := ldI 1 (swt 0 12 (fun j => nx (([68, 73, 78, 88, 98, 108, 118, 128, 138, 143, 148, 153, 158] : List Nat).getD j 0)) (nx 163))
noncomputable def bX7_count_68 (Q : Option Value → MM → Prop) (nx : Nat → Kt) : Kt := ldA 0 (gI 7 2 (rI Q))
noncomputable def bX7_count_73 (Q : Option Value → MM → Prop) (nx : Nat → Kt) : Kt := ldA 0 (gI 7 3 (rI Q))
noncomputable def bX7_count_78 (Q : Option Value → MM → Prop) (nx : Nat → Kt) : Kt := ldA 0 (gR 7 0 (cI 0 (aR 13 (gI 1 1 (rI Q)))))
noncomputable def bX7_count_88 (Q : Option Value → MM → Prop) (nx : Nat → Kt) : Kt := ldA 0 (gR 7 0 (cI 1 (aR 13 (gI 1 1 (rI Q)))))
noncomputable def bX7_count_98 (Q : Option Value → MM → Prop) (nx : Nat → Kt) : Kt := ldA 0 (gR 7 0 (cI 0 (aR 13 (gI 1 2 (rI Q)))))
noncomputable def bX7_count_108 (Q : Option Value → MM → Prop) (nx : Nat → Kt) : Kt := ldA 0 (gR 7 0 (cI 1 (aR 13 (gI 1 2 (rI Q)))))
noncomputable def bX7_count_118 (Q : Option Value → MM → Prop) (nx : Nat → Kt) : Kt := ldA 0 (gR 7 0 (cI 0 (aR 13 (gI 1 3 (rI Q)))))
noncomputable def bX7_count_128 (Q : Option Value → MM → Prop) (nx : Nat → Kt) : Kt := ldA 0 (gR 7 0 (cI 1 (aR 13 (gI 1 3 (rI Q)))))
noncomputable def bX7_count_138 (Q : Option Value → MM → Prop) (nx : Nat → Kt) : Kt := ldA 0 (gI 7 4 (rI Q))
noncomputable def bX7_count_143 (Q : Option Value → MM → Prop) (nx : Nat → Kt) : Kt := ldA 0 (gI 7 5 (rI Q))
noncomputable def bX7_count_148 (Q : Option Value → MM → Prop) (nx : Nat → Kt) : Kt := ldA 0 (gI 7 6 (rI Q))
noncomputable def bX7_count_153 (Q : Option Value → MM → Prop) (nx : Nat → Kt) : Kt := ldA 0 (gI 7 7 (rI Q))
noncomputable def bX7_count_158 (Q : Option Value → MM → Prop) (nx : Nat → Kt) : Kt := ldA 0 (gI 7 8 (rI Q))
noncomputable def bX7_count_163 (Q : Option Value → MM → Prop) (nx : Nat → Kt) : Kt := cI (-1) (rI Q)
noncomputable def kX7_count (Q : Option Value → MM → Prop) (nx : Nat → Kt) : Nat → Kt := bse [(0, bX7_count_0 Q nx), (68, bX7_count_68 Q nx), (73, bX7_count_73 Q nx), (78, bX7_count_78 Q nx), (88, bX7_count_88 Q nx), (98, bX7_count_98 Q nx), (108, bX7_count_108 Q nx), (118, bX7_count_118 Q nx), (128, bX7_count_128 Q nx), (138, bX7_count_138 Q nx), (143, bX7_count_143 Q nx), (148, bX7_count_148 Q nx), (153, bX7_count_153 Q nx), (158, bX7_count_158 Q nx), (163, bX7_count_163 Q nx)]
abbrev rX7_count : Room := { frames := 0, cells := 0, slots := 0, locals := 0 }
noncomputable def wX7_count : Mw := mw 2 kX7_count
set_option maxRecDepth 20000 in
theorem oX7_count_0 {T : Ct} {Q : Option Value → MM → Prop} (C : Cx T cX7_count 2 RX7 0 0) (CR : CxR T 0 0) (hr : T.2.2.2.2.2.2.2.2.1.sig.returnType = (some .int)) (hnm : T.2.2.2.2.2.2.2.2.1.name = "count") {nx : Nat → Kt} (hn : ∀ pc, Sd T 2 (QT T Q 0 0) 0 0 pc (nx pc)) : Sd T 2 (QT T Q 0 0) 0 0 0 (bX7_count_0 Q nx) := x_il_n C dX7_count_0 rfl (x_sw C (tl := [68, 73, 78, 88, 98, 108, 118, 128, 138, 143, 148, 153, 158]) hn dX7_count_1 (by decide) (by decide) (by decide))
set_option maxRecDepth 20000 in
theorem oX7_count_68 {T : Ct} {Q : Option Value → MM → Prop} (C : Cx T cX7_count 2 RX7 0 0) (CR : CxR T 0 0) (hr : T.2.2.2.2.2.2.2.2.1.sig.returnType = (some .int)) (hnm : T.2.2.2.2.2.2.2.2.1.name = "count") {nx : Nat → Kt} (hn : ∀ pc, Sd T 2 (QT T Q 0 0) 0 0 pc (nx pc)) : Sd T 2 (QT T Q 0 0) 0 0 68 (bX7_count_68 Q nx) := x_al_n C dX7_count_68 rfl (gf_X7_177 C dX7_count_69 (x_rI C hr dX7_count_72))
set_option maxRecDepth 20000 in
theorem oX7_count_73 {T : Ct} {Q : Option Value → MM → Prop} (C : Cx T cX7_count 2 RX7 0 0) (CR : CxR T 0 0) (hr : T.2.2.2.2.2.2.2.2.1.sig.returnType = (some .int)) (hnm : T.2.2.2.2.2.2.2.2.1.name = "count") {nx : Nat → Kt} (hn : ∀ pc, Sd T 2 (QT T Q 0 0) 0 0 pc (nx pc)) : Sd T 2 (QT T Q 0 0) 0 0 73 (bX7_count_73 Q nx) := x_al_n C dX7_count_73 rfl (gf_X7_269 C dX7_count_74 (x_rI C hr dX7_count_77))
set_option maxRecDepth 20000 in
theorem oX7_count_78 {T : Ct} {Q : Option Value → MM → Prop} (C : Cx T cX7_count 2 RX7 0 0) (CR : CxR T 0 0) (hr : T.2.2.2.2.2.2.2.2.1.sig.returnType = (some .int)) (hnm : T.2.2.2.2.2.2.2.2.1.name = "count") {nx : Nat → Kt} (hn : ∀ pc, Sd T 2 (QT T Q 0 0) 0 0 pc (nx pc)) : Sd T 2 (QT T Q 0 0) 0 0 78 (bX7_count_78 Q nx) := x_al_n C dX7_count_78 rfl (gf_X7_11 C dX7_count_79 (x_ic C dX7_count_82 (by decide) (x_aald C (kd := 13) (t0 := 3) (by decide) (by decide) (fun _ => rfl) dX7_count_83 (gf_X7_37 C dX7_count_84 (x_rI C hr dX7_count_87)))))
set_option maxRecDepth 20000 in
theorem oX7_count_88 {T : Ct} {Q : Option Value → MM → Prop} (C : Cx T cX7_count 2 RX7 0 0) (CR : CxR T 0 0) (hr : T.2.2.2.2.2.2.2.2.1.sig.returnType = (some .int)) (hnm : T.2.2.2.2.2.2.2.2.1.name = "count") {nx : Nat → Kt} (hn : ∀ pc, Sd T 2 (QT T Q 0 0) 0 0 pc (nx pc)) : Sd T 2 (QT T Q 0 0) 0 0 88 (bX7_count_88 Q nx) := x_al_n C dX7_count_88 rfl (gf_X7_11 C dX7_count_89 (x_ic C dX7_count_92 (by decide) (x_aald C (kd := 13) (t0 := 3) (by decide) (by decide) (fun _ => rfl) dX7_count_93 (gf_X7_37 C dX7_count_94 (x_rI C hr dX7_count_97)))))
set_option maxRecDepth 20000 in
theorem oX7_count_98 {T : Ct} {Q : Option Value → MM → Prop} (C : Cx T cX7_count 2 RX7 0 0) (CR : CxR T 0 0) (hr : T.2.2.2.2.2.2.2.2.1.sig.returnType = (some .int)) (hnm : T.2.2.2.2.2.2.2.2.1.name = "count") {nx : Nat → Kt} (hn : ∀ pc, Sd T 2 (QT T Q 0 0) 0 0 pc (nx pc)) : Sd T 2 (QT T Q 0 0) 0 0 98 (bX7_count_98 Q nx) := x_al_n C dX7_count_98 rfl (gf_X7_11 C dX7_count_99 (x_ic C dX7_count_102 (by decide) (x_aald C (kd := 13) (t0 := 3) (by decide) (by decide) (fun _ => rfl) dX7_count_103 (gf_X7_54 C dX7_count_104 (x_rI C hr dX7_count_107)))))
set_option maxRecDepth 20000 in
theorem oX7_count_108 {T : Ct} {Q : Option Value → MM → Prop} (C : Cx T cX7_count 2 RX7 0 0) (CR : CxR T 0 0) (hr : T.2.2.2.2.2.2.2.2.1.sig.returnType = (some .int)) (hnm : T.2.2.2.2.2.2.2.2.1.name = "count") {nx : Nat → Kt} (hn : ∀ pc, Sd T 2 (QT T Q 0 0) 0 0 pc (nx pc)) : Sd T 2 (QT T Q 0 0) 0 0 108 (bX7_count_108 Q nx) := x_al_n C dX7_count_108 rfl (gf_X7_11 C dX7_count_109 (x_ic C dX7_count_112 (by decide) (x_aald C (kd := 13) (t0 := 3) (by decide) (by decide) (fun _ => rfl) dX7_count_113 (gf_X7_54 C dX7_count_114 (x_rI C hr dX7_count_117)))))
set_option maxRecDepth 20000 in
theorem oX7_count_118 {T : Ct} {Q : Option Value → MM → Prop} (C : Cx T cX7_count 2 RX7 0 0) (CR : CxR T 0 0) (hr : T.2.2.2.2.2.2.2.2.1.sig.returnType = (some .int)) (hnm : T.2.2.2.2.2.2.2.2.1.name = "count") {nx : Nat → Kt} (hn : ∀ pc, Sd T 2 (QT T Q 0 0) 0 0 pc (nx pc)) : Sd T 2 (QT T Q 0 0) 0 0 118 (bX7_count_118 Q nx) := x_al_n C dX7_count_118 rfl (gf_X7_11 C dX7_count_119 (x_ic C dX7_count_122 (by decide) (x_aald C (kd := 13) (t0 := 3) (by decide) (by decide) (fun _ => rfl) dX7_count_123 (gf_X7_144 C dX7_count_124 (x_rI C hr dX7_count_127)))))
set_option maxRecDepth 20000 in
theorem oX7_count_128 {T : Ct} {Q : Option Value → MM → Prop} (C : Cx T cX7_count 2 RX7 0 0) (CR : CxR T 0 0) (hr : T.2.2.2.2.2.2.2.2.1.sig.returnType = (some .int)) (hnm : T.2.2.2.2.2.2.2.2.1.name = "count") {nx : Nat → Kt} (hn : ∀ pc, Sd T 2 (QT T Q 0 0) 0 0 pc (nx pc)) : Sd T 2 (QT T Q 0 0) 0 0 128 (bX7_count_128 Q nx) := x_al_n C dX7_count_128 rfl (gf_X7_11 C dX7_count_129 (x_ic C dX7_count_132 (by decide) (x_aald C (kd := 13) (t0 := 3) (by decide) (by decide) (fun _ => rfl) dX7_count_133 (gf_X7_144 C dX7_count_134 (x_rI C hr dX7_count_137)))))
set_option maxRecDepth 20000 in
theorem oX7_count_138 {T : Ct} {Q : Option Value → MM → Prop} (C : Cx T cX7_count 2 RX7 0 0) (CR : CxR T 0 0) (hr : T.2.2.2.2.2.2.2.2.1.sig.returnType = (some .int)) (hnm : T.2.2.2.2.2.2.2.2.1.name = "count") {nx : Nat → Kt} (hn : ∀ pc, Sd T 2 (QT T Q 0 0) 0 0 pc (nx pc)) : Sd T 2 (QT T Q 0 0) 0 0 138 (bX7_count_138 Q nx) := x_al_n C dX7_count_138 rfl (gf_X7_272 C dX7_count_139 (x_rI C hr dX7_count_142))
set_option maxRecDepth 20000 in
theorem oX7_count_143 {T : Ct} {Q : Option Value → MM → Prop} (C : Cx T cX7_count 2 RX7 0 0) (CR : CxR T 0 0) (hr : T.2.2.2.2.2.2.2.2.1.sig.returnType = (some .int)) (hnm : T.2.2.2.2.2.2.2.2.1.name = "count") {nx : Nat → Kt} (hn : ∀ pc, Sd T 2 (QT T Q 0 0) 0 0 pc (nx pc)) : Sd T 2 (QT T Q 0 0) 0 0 143 (bX7_count_143 Q nx) := x_al_n C dX7_count_143 rfl (gf_X7_275 C dX7_count_144 (x_rI C hr dX7_count_147))
set_option maxRecDepth 20000 in
theorem oX7_count_148 {T : Ct} {Q : Option Value → MM → Prop} (C : Cx T cX7_count 2 RX7 0 0) (CR : CxR T 0 0) (hr : T.2.2.2.2.2.2.2.2.1.sig.returnType = (some .int)) (hnm : T.2.2.2.2.2.2.2.2.1.name = "count") {nx : Nat → Kt} (hn : ∀ pc, Sd T 2 (QT T Q 0 0) 0 0 pc (nx pc)) : Sd T 2 (QT T Q 0 0) 0 0 148 (bX7_count_148 Q nx) := x_al_n C dX7_count_148 rfl (gf_X7_278 C dX7_count_149 (x_rI C hr dX7_count_152))
set_option maxRecDepth 20000 in
theorem oX7_count_153 {T : Ct} {Q : Option Value → MM → Prop} (C : Cx T cX7_count 2 RX7 0 0) (CR : CxR T 0 0) (hr : T.2.2.2.2.2.2.2.2.1.sig.returnType = (some .int)) (hnm : T.2.2.2.2.2.2.2.2.1.name = "count") {nx : Nat → Kt} (hn : ∀ pc, Sd T 2 (QT T Q 0 0) 0 0 pc (nx pc)) : Sd T 2 (QT T Q 0 0) 0 0 153 (bX7_count_153 Q nx) := x_al_n C dX7_count_153 rfl (gf_X7_202 C dX7_count_154 (x_rI C hr dX7_count_157))
set_option maxRecDepth 20000 in
theorem oX7_count_158 {T : Ct} {Q : Option Value → MM → Prop} (C : Cx T cX7_count 2 RX7 0 0) (CR : CxR T 0 0) (hr : T.2.2.2.2.2.2.2.2.1.sig.returnType = (some .int)) (hnm : T.2.2.2.2.2.2.2.2.1.name = "count") {nx : Nat → Kt} (hn : ∀ pc, Sd T 2 (QT T Q 0 0) 0 0 pc (nx pc)) : Sd T 2 (QT T Q 0 0) 0 0 158 (bX7_count_158 Q nx) := x_al_n C dX7_count_158 rfl (gf_X7_281 C dX7_count_159 (x_rI C hr dX7_count_162))
set_option maxRecDepth 20000 in
theorem oX7_count_163 {T : Ct} {Q : Option Value → MM → Prop} (C : Cx T cX7_count 2 RX7 0 0) (CR : CxR T 0 0) (hr : T.2.2.2.2.2.2.2.2.1.sig.returnType = (some .int)) (hnm : T.2.2.2.2.2.2.2.2.1.name = "count") {nx : Nat → Kt} (hn : ∀ pc, Sd T 2 (QT T Q 0 0) 0 0 pc (nx pc)) : Sd T 2 (QT T Q 0 0) 0 0 163 (bX7_count_163 Q nx) := x_ic C dX7_count_163 (by decide) (x_rI C hr dX7_count_164)
set_option maxRecDepth 20000 in
theorem mX7_count (l : Launch) (D : va_G) (cA : Nat → ClassId) (base : Nat) : Mc l D cA base yX7_count cX7_count 2 (some .int) rX7_count wX7_count := mc_of (by decide +kernel) kX7_count (fun T Q C CR hr hnm nx hn => bse_ok _ (List.forall_mem_cons.mpr ⟨oX7_count_0 C CR hr hnm hn, List.forall_mem_cons.mpr ⟨oX7_count_68 C CR hr hnm hn, List.forall_mem_cons.mpr ⟨oX7_count_73 C CR hr hnm hn, List.forall_mem_cons.mpr ⟨oX7_count_78 C CR hr hnm hn, List.forall_mem_cons.mpr ⟨oX7_count_88 C CR hr hnm hn, List.forall_mem_cons.mpr ⟨oX7_count_98 C CR hr hnm hn, List.forall_mem_cons.mpr ⟨oX7_count_108 C CR hr hnm hn, List.forall_mem_cons.mpr ⟨oX7_count_118 C CR hr hnm hn, List.forall_mem_cons.mpr ⟨oX7_count_128 C CR hr hnm hn, List.forall_mem_cons.mpr ⟨oX7_count_138 C CR hr hnm hn, List.forall_mem_cons.mpr ⟨oX7_count_143 C CR hr hnm hn, List.forall_mem_cons.mpr ⟨oX7_count_148 C CR hr hnm hn, List.forall_mem_cons.mpr ⟨oX7_count_153 C CR hr hnm hn, List.forall_mem_cons.mpr ⟨oX7_count_158 C CR hr hnm hn, List.forall_mem_cons.mpr ⟨oX7_count_163 C CR hr hnm hn, fun _ h => nomatch h⟩⟩⟩⟩⟩⟩⟩⟩⟩⟩⟩⟩⟩⟩⟩))
