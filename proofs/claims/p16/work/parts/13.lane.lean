theorem dX3_init_0 : decode cX3_init 0 = .ok (.aload_n 0, 1) := by decide +kernel
theorem dX3_init_1 : decode cX3_init 1 = .ok (.invokespecial 3, 3) := by decide +kernel
theorem dX3_init_4 : decode cX3_init 4 = .ok (.aload_n 0, 1) := by decide +kernel
theorem dX3_init_5 : decode cX3_init 5 = .ok (.bipush 8, 2) := by decide +kernel
theorem dX3_init_7 : decode cX3_init 7 = .ok (.anewarray 9, 3) := by decide +kernel
theorem dX3_init_10 : decode cX3_init 10 = .ok (.putfield 11, 3) := by decide +kernel
theorem dX3_init_13 : decode cX3_init 13 = .ok (.aload_n 0, 1) := by decide +kernel
theorem dX3_init_14 : decode cX3_init 14 = .ok (.sipush 200, 3) := by decide +kernel
theorem dX3_init_17 : decode cX3_init 17 = .ok (.anewarray 17, 3) := by decide +kernel
theorem dX3_init_20 : decode cX3_init 20 = .ok (.putfield 19, 3) := by decide +kernel
theorem dX3_init_23 : decode cX3_init 23 = .ok (.iconst 0, 1) := by decide +kernel
theorem dX3_init_24 : decode cX3_init 24 = .ok (.istore_n 1, 1) := by decide +kernel
theorem dX3_init_25 : decode cX3_init 25 = .ok (.iload_n 1, 1) := by decide +kernel
theorem dX3_init_26 : decode cX3_init 26 = .ok (.bipush 8, 2) := by decide +kernel
theorem dX3_init_28 : decode cX3_init 28 = .ok (.if_icmp .ge 22, 3) := by decide +kernel
theorem dX3_init_31 : decode cX3_init 31 = .ok (.aload_n 0, 1) := by decide +kernel
theorem dX3_init_32 : decode cX3_init 32 = .ok (.getfield 11, 3) := by decide +kernel
theorem dX3_init_35 : decode cX3_init 35 = .ok (.iload_n 1, 1) := by decide +kernel
theorem dX3_init_36 : decode cX3_init 36 = .ok (.new 9, 3) := by decide +kernel
theorem dX3_init_39 : decode cX3_init 39 = .ok (.dup, 1) := by decide +kernel
theorem dX3_init_40 : decode cX3_init 40 = .ok (.invokespecial 23, 3) := by decide +kernel
theorem dX3_init_43 : decode cX3_init 43 = .ok (.aastore, 1) := by decide +kernel
theorem dX3_init_44 : decode cX3_init 44 = .ok (.iinc 1 1, 3) := by decide +kernel
theorem dX3_init_47 : decode cX3_init 47 = .ok (.goto (-22), 3) := by decide +kernel
theorem dX3_init_50 : decode cX3_init 50 = .ok (.return_, 1) := by decide +kernel
noncomputable def bX3_init_0 (Q : Option Value → MM → Prop) (nx : Nat → Kt) : Kt := ldA 0 (oI (ldA 0 (cI 8 (nA 16 26 312 (tF 3 0 (ldA 0 (cI 200 (nA 14 26 312 (tF 3 3 (cI 0 (stI 1 (nx 25))))))))))))
noncomputable def bX3_init_25 (Q : Option Value → MM → Prop) (nx : Nat → Kt) : Kt := ldI 1 (cI 8 (ifc (fun x y => y ≤ x) (nx 50) (ldA 0 (gR 3 0 (ldI 1 (nO 4 26 312 (du (cC 0 wX4_init 2 10 26 312 (sAR 4 (inc 1 1 (nx 25)))))))))))
noncomputable def bX3_init_50 (Q : Option Value → MM → Prop) (nx : Nat → Kt) : Kt := rV Q
noncomputable def kX3_init (Q : Option Value → MM → Prop) (nx : Nat → Kt) : Nat → Kt := bse [(0, bX3_init_0 Q nx), (25, bX3_init_25 Q nx), (50, bX3_init_50 Q nx)]
abbrev rX3_init : Room := { frames := 3, cells := 26, slots := 312, locals := 60 }
noncomputable def wX3_init : Mw := mw 2 kX3_init
set_option maxRecDepth 20000 in
theorem oX3_init_0 {T : Ct} {Q : Option Value → MM → Prop} (C : Cx T cX3_init 2 RX3 26 312) (CR : CxR T 3 60) (hr : T.2.2.2.2.2.2.2.2.1.sig.returnType = none) (hnm : T.2.2.2.2.2.2.2.2.1.name = "<init>") {nx : Nat → Kt} (hn : ∀ pc, Sd T 2 (QT T Q 26 312) 26 312 pc (nx pc)) : Sd T 2 (QT T Q 26 312) 26 312 0 (bX3_init_0 Q nx) := x_al_n C dX3_init_0 rfl (x_oI C CR (by decide) (by decide) ml_X3_3 im_obj co_obj dX3_init_1 (x_al_n C dX3_init_4 rfl (x_bp C dX3_init_5 (by decide) (af_X3_9 C dX3_init_7 (pf_X3_11 C hnm dX3_init_10 (x_al_n C dX3_init_13 rfl (x_sp C dX3_init_14 (by decide) (af_X3_17 C dX3_init_17 (pf_X3_19 C hnm dX3_init_20 (x_ic C dX3_init_23 (by decide) (x_is_n C dX3_init_24 rfl (by decide) (hn 25))))))))))))
set_option maxRecDepth 20000 in
theorem oX3_init_25 {T : Ct} {Q : Option Value → MM → Prop} (C : Cx T cX3_init 2 RX3 26 312) (CR : CxR T 3 60) (hr : T.2.2.2.2.2.2.2.2.1.sig.returnType = none) (hnm : T.2.2.2.2.2.2.2.2.1.name = "<init>") {nx : Nat → Kt} (hn : ∀ pc, Sd T 2 (QT T Q 26 312) 26 312 pc (nx pc)) : Sd T 2 (QT T Q 26 312) 26 312 25 (bX3_init_25 Q nx) := x_il_n C dX3_init_25 rfl (x_bp C dX3_init_26 (by decide) (x_ic_ge C (hn 50) dX3_init_28 (by decide) (x_al_n C dX3_init_31 rfl (gf_X3_11 C dX3_init_32 (x_il_n C dX3_init_35 rfl (nf_X3_9 C dX3_init_36 (x_dup C dX3_init_39 (x_cN C CR mX4_init ⟨co_X4_init, init_X4, md_X4_init, by decide, by decide⟩ (by decide +kernel) im_X4_init rfl dX3_init_40 (x_aast C (ci := 4) (t0 := 6) (TX := TX4) (N := 3) (by decide) rfl (fun _ => rfl) dX3_init_43 (x_inc C dX3_init_44 (by decide) (by decide) (x_goto C (hn 25) dX3_init_47 (by decide))))))))))))
set_option maxRecDepth 20000 in
theorem oX3_init_50 {T : Ct} {Q : Option Value → MM → Prop} (C : Cx T cX3_init 2 RX3 26 312) (CR : CxR T 3 60) (hr : T.2.2.2.2.2.2.2.2.1.sig.returnType = none) (hnm : T.2.2.2.2.2.2.2.2.1.name = "<init>") {nx : Nat → Kt} (hn : ∀ pc, Sd T 2 (QT T Q 26 312) 26 312 pc (nx pc)) : Sd T 2 (QT T Q 26 312) 26 312 50 (bX3_init_50 Q nx) := x_rV C hr dX3_init_50
set_option maxRecDepth 20000 in
theorem mX3_init (l : Launch) (D : va_G) (cA : Nat → ClassId) (base : Nat) : Mc l D cA base yX3_init cX3_init 2 none rX3_init wX3_init := mc_of (by decide +kernel) kX3_init (fun T Q C CR hr hnm nx hn => bse_ok _ (List.forall_mem_cons.mpr ⟨oX3_init_0 C CR hr hnm hn, List.forall_mem_cons.mpr ⟨oX3_init_25 C CR hr hnm hn, List.forall_mem_cons.mpr ⟨oX3_init_50 C CR hr hnm hn, fun _ h => nomatch h⟩⟩⟩))
theorem dX3_clear_0 : decode cX3_clear 0 = .ok (.aload_n 0, 1) := by decide +kernel
theorem dX3_clear_1 : decode cX3_clear 1 = .ok (.iconst 0, 1) := by decide +kernel
theorem dX3_clear_2 : decode cX3_clear 2 = .ok (.putfield 24, 3) := by decide +kernel
theorem dX3_clear_5 : decode cX3_clear 5 = .ok (.aload_n 0, 1) := by decide +kernel
theorem dX3_clear_6 : decode cX3_clear 6 = .ok (.iconst 0, 1) := by decide +kernel
theorem dX3_clear_7 : decode cX3_clear 7 = .ok (.putfield 28, 3) := by decide +kernel
theorem dX3_clear_10 : decode cX3_clear 10 = .ok (.return_, 1) := by decide +kernel
noncomputable def bX3_clear_0 (Q : Option Value → MM → Prop) (nx : Nat → Kt) : Kt := ldA 0 (cI 0 (tI 3 2 (ldA 0 (cI 0 (tI 3 5 (rV Q))))))
noncomputable def kX3_clear (Q : Option Value → MM → Prop) (nx : Nat → Kt) : Nat → Kt := bse [(0, bX3_clear_0 Q nx)]
abbrev rX3_clear : Room := { frames := 0, cells := 0, slots := 0, locals := 0 }
noncomputable def wX3_clear : Mw := mw 1 kX3_clear
set_option maxRecDepth 20000 in
theorem oX3_clear_0 {T : Ct} {Q : Option Value → MM → Prop} (C : Cx T cX3_clear 1 RX3 0 0) (CR : CxR T 0 0) (hr : T.2.2.2.2.2.2.2.2.1.sig.returnType = none) (hnm : T.2.2.2.2.2.2.2.2.1.name = "clear") {nx : Nat → Kt} (hn : ∀ pc, Sd T 1 (QT T Q 0 0) 0 0 pc (nx pc)) : Sd T 1 (QT T Q 0 0) 0 0 0 (bX3_clear_0 Q nx) := x_al_n C dX3_clear_0 rfl (x_ic C dX3_clear_1 (by decide) (pf_X3_24 C dX3_clear_2 (x_al_n C dX3_clear_5 rfl (x_ic C dX3_clear_6 (by decide) (pf_X3_28 C dX3_clear_7 (x_rV C hr dX3_clear_10))))))
set_option maxRecDepth 20000 in
theorem mX3_clear (l : Launch) (D : va_G) (cA : Nat → ClassId) (base : Nat) : Mc l D cA base yX3_clear cX3_clear 1 none rX3_clear wX3_clear := mc_of (by decide +kernel) kX3_clear (fun T Q C CR hr hnm nx hn => bse_ok _ (List.forall_mem_cons.mpr ⟨oX3_clear_0 C CR hr hnm hn, fun _ h => nomatch h⟩))
theorem dX3_addNote_0 : decode cX3_addNote 0 = .ok (.aload_n 0, 1) := by decide +kernel
theorem dX3_addNote_1 : decode cX3_addNote 1 = .ok (.getfield 24, 3) := by decide +kernel
theorem dX3_addNote_4 : decode cX3_addNote 4 = .ok (.bipush 8, 2) := by decide +kernel
theorem dX3_addNote_6 : decode cX3_addNote 6 = .ok (.if_icmp .lt 4, 3) := by decide +kernel
theorem dX3_addNote_9 : decode cX3_addNote 9 = .ok (.return_, 1) := by decide +kernel
theorem dX3_addNote_10 : decode cX3_addNote 10 = .ok (.aload_n 0, 1) := by decide +kernel
theorem dX3_addNote_11 : decode cX3_addNote 11 = .ok (.getfield 11, 3) := by decide +kernel
theorem dX3_addNote_14 : decode cX3_addNote 14 = .ok (.aload_n 0, 1) := by decide +kernel
theorem dX3_addNote_15 : decode cX3_addNote 15 = .ok (.getfield 31, 3) := by decide +kernel
theorem dX3_addNote_18 : decode cX3_addNote 18 = .ok (.aload_n 0, 1) := by decide +kernel
theorem dX3_addNote_19 : decode cX3_addNote 19 = .ok (.getfield 24, 3) := by decide +kernel
theorem dX3_addNote_22 : decode cX3_addNote 22 = .ok (.iadd, 1) := by decide +kernel
theorem dX3_addNote_23 : decode cX3_addNote 23 = .ok (.bipush 8, 2) := by decide +kernel
theorem dX3_addNote_25 : decode cX3_addNote 25 = .ok (.irem, 1) := by decide +kernel
theorem dX3_addNote_26 : decode cX3_addNote 26 = .ok (.aaload, 1) := by decide +kernel
theorem dX3_addNote_27 : decode cX3_addNote 27 = .ok (.astore_n 3, 1) := by decide +kernel
theorem dX3_addNote_28 : decode cX3_addNote 28 = .ok (.aload_n 3, 1) := by decide +kernel
theorem dX3_addNote_29 : decode cX3_addNote 29 = .ok (.getfield 34, 3) := by decide +kernel
theorem dX3_addNote_32 : decode cX3_addNote 32 = .ok (.aload_n 1, 1) := by decide +kernel
theorem dX3_addNote_33 : decode cX3_addNote 33 = .ok (.getfield 38, 3) := by decide +kernel
theorem dX3_addNote_36 : decode cX3_addNote 36 = .ok (.invokevirtual 41, 3) := by decide +kernel
theorem dX3_addNote_39 : decode cX3_addNote 39 = .ok (.aload_n 3, 1) := by decide +kernel
theorem dX3_addNote_40 : decode cX3_addNote 40 = .ok (.getfield 47, 3) := by decide +kernel
theorem dX3_addNote_43 : decode cX3_addNote 43 = .ok (.aload_n 1, 1) := by decide +kernel
theorem dX3_addNote_44 : decode cX3_addNote 44 = .ok (.getfield 50, 3) := by decide +kernel
theorem dX3_addNote_47 : decode cX3_addNote 47 = .ok (.invokevirtual 41, 3) := by decide +kernel
theorem dX3_addNote_50 : decode cX3_addNote 50 = .ok (.aload_n 3, 1) := by decide +kernel
theorem dX3_addNote_51 : decode cX3_addNote 51 = .ok (.iload_n 2, 1) := by decide +kernel
theorem dX3_addNote_52 : decode cX3_addNote 52 = .ok (.putfield 51, 3) := by decide +kernel
theorem dX3_addNote_55 : decode cX3_addNote 55 = .ok (.aload_n 0, 1) := by decide +kernel
theorem dX3_addNote_56 : decode cX3_addNote 56 = .ok (.dup, 1) := by decide +kernel
theorem dX3_addNote_57 : decode cX3_addNote 57 = .ok (.getfield 24, 3) := by decide +kernel
theorem dX3_addNote_60 : decode cX3_addNote 60 = .ok (.iconst 1, 1) := by decide +kernel
theorem dX3_addNote_61 : decode cX3_addNote 61 = .ok (.iadd, 1) := by decide +kernel
theorem dX3_addNote_62 : decode cX3_addNote 62 = .ok (.putfield 24, 3) := by decide +kernel
theorem dX3_addNote_65 : decode cX3_addNote 65 = .ok (.return_, 1) := by decide +kernel
noncomputable def bX3_addNote_0 (Q : Option Value → MM → Prop) (nx : Nat → Kt) : Kt := ldA 0 (gI 3 2 (cI 8 (ifc (fun x y => x < y) (nx 10) (rV Q))))
noncomputable def bX3_addNote_10 (Q : Option Value → MM → Prop) (nx : Nat → Kt) : Kt := ldA 0 (gR 3 0 (ldA 0 (gI 3 1 (ldA 0 (gI 3 2 (bop (fun x y => x + y) (cI 8 (bod (fun x y => x - x / y * y) (aR 16 (stA 3 (ldA 3 (gR 4 0 (ldA 1 (gR 5 0 (cV 1 6 wX6_copyFrom 0 0 0 0 (ldA 3 (gR 4 1 (ldA 1 (gR 5 1 (cV 1 6 wX6_copyFrom 0 0 0 0 (ldA 3 (ldI 2 (tI 4 2 (ldA 0 (du (gI 3 2 (cI 1 (bop (fun x y => x + y) (tI 3 2 (rV Q))))))))))))))))))))))))))))))
noncomputable def kX3_addNote (Q : Option Value → MM → Prop) (nx : Nat → Kt) : Nat → Kt := bse [(0, bX3_addNote_0 Q nx), (10, bX3_addNote_10 Q nx)]
abbrev rX3_addNote : Room := { frames := 1, cells := 0, slots := 0, locals := 21 }
noncomputable def wX3_addNote : Mw := mw 4 kX3_addNote
set_option maxRecDepth 20000 in
theorem oX3_addNote_0 {T : Ct} {Q : Option Value → MM → Prop} (C : Cx T cX3_addNote 4 RX3 0 0) (CR : CxR T 1 21) (hr : T.2.2.2.2.2.2.2.2.1.sig.returnType = none) (hnm : T.2.2.2.2.2.2.2.2.1.name = "addNote") {nx : Nat → Kt} (hn : ∀ pc, Sd T 4 (QT T Q 0 0) 0 0 pc (nx pc)) : Sd T 4 (QT T Q 0 0) 0 0 0 (bX3_addNote_0 Q nx) := x_al_n C dX3_addNote_0 rfl (gf_X3_24 C dX3_addNote_1 (x_bp C dX3_addNote_4 (by decide) (x_ic_lt C (hn 10) dX3_addNote_6 (by decide) (x_rV C hr dX3_addNote_9))))
set_option maxRecDepth 20000 in
theorem oX3_addNote_10 {T : Ct} {Q : Option Value → MM → Prop} (C : Cx T cX3_addNote 4 RX3 0 0) (CR : CxR T 1 21) (hr : T.2.2.2.2.2.2.2.2.1.sig.returnType = none) (hnm : T.2.2.2.2.2.2.2.2.1.name = "addNote") {nx : Nat → Kt} (hn : ∀ pc, Sd T 4 (QT T Q 0 0) 0 0 pc (nx pc)) : Sd T 4 (QT T Q 0 0) 0 0 10 (bX3_addNote_10 Q nx) := x_al_n C dX3_addNote_10 rfl (gf_X3_11 C dX3_addNote_11 (x_al_n C dX3_addNote_14 rfl (gf_X3_31 C dX3_addNote_15 (x_al_n C dX3_addNote_18 rfl (gf_X3_24 C dX3_addNote_19 (x_iadd C dX3_addNote_22 (x_bp C dX3_addNote_23 (by decide) (x_irem C dX3_addNote_25 (x_aald C (kd := 16) (t0 := 6) (by decide) (by decide) (fun _ => rfl) dX3_addNote_26 (x_as_n C dX3_addNote_27 rfl (by decide) (x_al_n C dX3_addNote_28 rfl (gf_X3_34 C dX3_addNote_29 (x_al_n C dX3_addNote_32 rfl (gf_X3_38 C dX3_addNote_33 (x_cV C CR mX6_copyFrom ⟨co_X6_copyFrom, init_X6, md_X6_copyFrom, by decide, by decide⟩ (ci := 6) (TX := TX6) (N := 5) rfl (by decide) ml_X3_41 im_X6_copyFrom se_X6_copyFrom dX3_addNote_36 (x_al_n C dX3_addNote_39 rfl (gf_X3_47 C dX3_addNote_40 (x_al_n C dX3_addNote_43 rfl (gf_X3_50 C dX3_addNote_44 (x_cV C CR mX6_copyFrom ⟨co_X6_copyFrom, init_X6, md_X6_copyFrom, by decide, by decide⟩ (ci := 6) (TX := TX6) (N := 5) rfl (by decide) ml_X3_41 im_X6_copyFrom se_X6_copyFrom dX3_addNote_47 (x_al_n C dX3_addNote_50 rfl (x_il_n C dX3_addNote_51 rfl (pf_X3_51 C dX3_addNote_52 (x_al_n C dX3_addNote_55 rfl (x_dup C dX3_addNote_56 (gf_X3_24 C dX3_addNote_57 (x_ic C dX3_addNote_60 (by decide) (x_iadd C dX3_addNote_61 (pf_X3_24 C dX3_addNote_62 (x_rV C hr dX3_addNote_65))))))))))))))))))))))))))))))
set_option maxRecDepth 20000 in
theorem mX3_addNote (l : Launch) (D : va_G) (cA : Nat → ClassId) (base : Nat) : Mc l D cA base yX3_addNote cX3_addNote 4 none rX3_addNote wX3_addNote := mc_of (by decide +kernel) kX3_addNote (fun T Q C CR hr hnm nx hn => bse_ok _ (List.forall_mem_cons.mpr ⟨oX3_addNote_0 C CR hr hnm hn, List.forall_mem_cons.mpr ⟨oX3_addNote_10 C CR hr hnm hn, fun _ h => nomatch h⟩⟩))
theorem dX3_takeDueNote_0 : decode cX3_takeDueNote 0 = .ok (.aload_n 0, 1) := by decide +kernel
theorem dX3_takeDueNote_1 : decode cX3_takeDueNote 1 = .ok (.getfield 24, 3) := by decide +kernel
theorem dX3_takeDueNote_4 : decode cX3_takeDueNote 4 = .ok (.ifCond .eq 19, 3) := by decide +kernel
theorem dX3_takeDueNote_7 : decode cX3_takeDueNote 7 = .ok (.aload_n 0, 1) := by decide +kernel
theorem dX3_takeDueNote_8 : decode cX3_takeDueNote 8 = .ok (.getfield 11, 3) := by decide +kernel
theorem dX3_takeDueNote_11 : decode cX3_takeDueNote 11 = .ok (.aload_n 0, 1) := by decide +kernel
theorem dX3_takeDueNote_12 : decode cX3_takeDueNote 12 = .ok (.getfield 31, 3) := by decide +kernel
theorem dX3_takeDueNote_15 : decode cX3_takeDueNote 15 = .ok (.aaload, 1) := by decide +kernel
theorem dX3_takeDueNote_16 : decode cX3_takeDueNote 16 = .ok (.getfield 51, 3) := by decide +kernel
theorem dX3_takeDueNote_19 : decode cX3_takeDueNote 19 = .ok (.iload_n 1, 1) := by decide +kernel
theorem dX3_takeDueNote_20 : decode cX3_takeDueNote 20 = .ok (.if_icmp .le 5, 3) := by decide +kernel
theorem dX3_takeDueNote_23 : decode cX3_takeDueNote 23 = .ok (.aconst_null, 1) := by decide +kernel
theorem dX3_takeDueNote_24 : decode cX3_takeDueNote 24 = .ok (.areturn, 1) := by decide +kernel
theorem dX3_takeDueNote_25 : decode cX3_takeDueNote 25 = .ok (.aload_n 0, 1) := by decide +kernel
theorem dX3_takeDueNote_26 : decode cX3_takeDueNote 26 = .ok (.getfield 11, 3) := by decide +kernel
theorem dX3_takeDueNote_29 : decode cX3_takeDueNote 29 = .ok (.aload_n 0, 1) := by decide +kernel
theorem dX3_takeDueNote_30 : decode cX3_takeDueNote 30 = .ok (.getfield 31, 3) := by decide +kernel
theorem dX3_takeDueNote_33 : decode cX3_takeDueNote 33 = .ok (.aaload, 1) := by decide +kernel
theorem dX3_takeDueNote_34 : decode cX3_takeDueNote 34 = .ok (.astore_n 2, 1) := by decide +kernel
theorem dX3_takeDueNote_35 : decode cX3_takeDueNote 35 = .ok (.aload_n 0, 1) := by decide +kernel
theorem dX3_takeDueNote_36 : decode cX3_takeDueNote 36 = .ok (.aload_n 0, 1) := by decide +kernel
theorem dX3_takeDueNote_37 : decode cX3_takeDueNote 37 = .ok (.getfield 31, 3) := by decide +kernel
theorem dX3_takeDueNote_40 : decode cX3_takeDueNote 40 = .ok (.iconst 1, 1) := by decide +kernel
theorem dX3_takeDueNote_41 : decode cX3_takeDueNote 41 = .ok (.iadd, 1) := by decide +kernel
theorem dX3_takeDueNote_42 : decode cX3_takeDueNote 42 = .ok (.bipush 8, 2) := by decide +kernel
theorem dX3_takeDueNote_44 : decode cX3_takeDueNote 44 = .ok (.irem, 1) := by decide +kernel
theorem dX3_takeDueNote_45 : decode cX3_takeDueNote 45 = .ok (.putfield 31, 3) := by decide +kernel
theorem dX3_takeDueNote_48 : decode cX3_takeDueNote 48 = .ok (.aload_n 0, 1) := by decide +kernel
theorem dX3_takeDueNote_49 : decode cX3_takeDueNote 49 = .ok (.dup, 1) := by decide +kernel
theorem dX3_takeDueNote_50 : decode cX3_takeDueNote 50 = .ok (.getfield 24, 3) := by decide +kernel
theorem dX3_takeDueNote_53 : decode cX3_takeDueNote 53 = .ok (.iconst 1, 1) := by decide +kernel
theorem dX3_takeDueNote_54 : decode cX3_takeDueNote 54 = .ok (.isub, 1) := by decide +kernel
theorem dX3_takeDueNote_55 : decode cX3_takeDueNote 55 = .ok (.putfield 24, 3) := by decide +kernel
theorem dX3_takeDueNote_58 : decode cX3_takeDueNote 58 = .ok (.aload_n 2, 1) := by decide +kernel
theorem dX3_takeDueNote_59 : decode cX3_takeDueNote 59 = .ok (.areturn, 1) := by decide +kernel
noncomputable def bX3_takeDueNote_0 (Q : Option Value → MM → Prop) (nx : Nat → Kt) : Kt := ldA 0 (gI 3 2 (ifz (fun x => x = 0) (nx 23) (ldA 0 (gR 3 0 (ldA 0 (gI 3 1 (aR 16 (gI 4 2 (ldI 1 (ifc (fun x y => x ≤ y) (nx 25) (nx 23)))))))))))
noncomputable def bX3_takeDueNote_23 (Q : Option Value → MM → Prop) (nx : Nat → Kt) : Kt := nul (rA Q)
noncomputable def bX3_takeDueNote_25 (Q : Option Value → MM → Prop) (nx : Nat → Kt) : Kt := ldA 0 (gR 3 0 (ldA 0 (gI 3 1 (aR 16 (stA 2 (ldA 0 (ldA 0 (gI 3 1 (cI 1 (bop (fun x y => x + y) (cI 8 (bod (fun x y => x - x / y * y) (tI 3 1 (ldA 0 (du (gI 3 2 (cI 1 (bop (fun x y => x - y) (tI 3 2 (ldA 2 (rA Q)))))))))))))))))))))
noncomputable def kX3_takeDueNote (Q : Option Value → MM → Prop) (nx : Nat → Kt) : Nat → Kt := bse [(0, bX3_takeDueNote_0 Q nx), (23, bX3_takeDueNote_23 Q nx), (25, bX3_takeDueNote_25 Q nx)]
abbrev rX3_takeDueNote : Room := { frames := 0, cells := 0, slots := 0, locals := 0 }
noncomputable def wX3_takeDueNote : Mw := mw 3 kX3_takeDueNote
set_option maxRecDepth 20000 in
theorem oX3_takeDueNote_0 {T : Ct} {Q : Option Value → MM → Prop} (C : Cx T cX3_takeDueNote 3 RX3 0 0) (CR : CxR T 0 0) (hr : T.2.2.2.2.2.2.2.2.1.sig.returnType = (some (.object RX4))) (hnm : T.2.2.2.2.2.2.2.2.1.name = "takeDueNote") {nx : Nat → Kt} (hn : ∀ pc, Sd T 3 (QT T Q 0 0) 0 0 pc (nx pc)) : Sd T 3 (QT T Q 0 0) 0 0 0 (bX3_takeDueNote_0 Q nx) := x_al_n C dX3_takeDueNote_0 rfl (gf_X3_24 C dX3_takeDueNote_1 (x_if_eq C (hn 23) dX3_takeDueNote_4 (by decide) (x_al_n C dX3_takeDueNote_7 rfl (gf_X3_11 C dX3_takeDueNote_8 (x_al_n C dX3_takeDueNote_11 rfl (gf_X3_31 C dX3_takeDueNote_12 (x_aald C (kd := 16) (t0 := 6) (by decide) (by decide) (fun _ => rfl) dX3_takeDueNote_15 (gf_X3_51 C dX3_takeDueNote_16 (x_il_n C dX3_takeDueNote_19 rfl (x_ic_le C (hn 25) dX3_takeDueNote_20 (by decide) (hn 23)))))))))))
set_option maxRecDepth 20000 in
theorem oX3_takeDueNote_23 {T : Ct} {Q : Option Value → MM → Prop} (C : Cx T cX3_takeDueNote 3 RX3 0 0) (CR : CxR T 0 0) (hr : T.2.2.2.2.2.2.2.2.1.sig.returnType = (some (.object RX4))) (hnm : T.2.2.2.2.2.2.2.2.1.name = "takeDueNote") {nx : Nat → Kt} (hn : ∀ pc, Sd T 3 (QT T Q 0 0) 0 0 pc (nx pc)) : Sd T 3 (QT T Q 0 0) 0 0 23 (bX3_takeDueNote_23 Q nx) := x_null C dX3_takeDueNote_23 (x_rA C hr dX3_takeDueNote_24)
set_option maxRecDepth 20000 in
theorem oX3_takeDueNote_25 {T : Ct} {Q : Option Value → MM → Prop} (C : Cx T cX3_takeDueNote 3 RX3 0 0) (CR : CxR T 0 0) (hr : T.2.2.2.2.2.2.2.2.1.sig.returnType = (some (.object RX4))) (hnm : T.2.2.2.2.2.2.2.2.1.name = "takeDueNote") {nx : Nat → Kt} (hn : ∀ pc, Sd T 3 (QT T Q 0 0) 0 0 pc (nx pc)) : Sd T 3 (QT T Q 0 0) 0 0 25 (bX3_takeDueNote_25 Q nx) := x_al_n C dX3_takeDueNote_25 rfl (gf_X3_11 C dX3_takeDueNote_26 (x_al_n C dX3_takeDueNote_29 rfl (gf_X3_31 C dX3_takeDueNote_30 (x_aald C (kd := 16) (t0 := 6) (by decide) (by decide) (fun _ => rfl) dX3_takeDueNote_33 (x_as_n C dX3_takeDueNote_34 rfl (by decide) (x_al_n C dX3_takeDueNote_35 rfl (x_al_n C dX3_takeDueNote_36 rfl (gf_X3_31 C dX3_takeDueNote_37 (x_ic C dX3_takeDueNote_40 (by decide) (x_iadd C dX3_takeDueNote_41 (x_bp C dX3_takeDueNote_42 (by decide) (x_irem C dX3_takeDueNote_44 (pf_X3_31 C dX3_takeDueNote_45 (x_al_n C dX3_takeDueNote_48 rfl (x_dup C dX3_takeDueNote_49 (gf_X3_24 C dX3_takeDueNote_50 (x_ic C dX3_takeDueNote_53 (by decide) (x_isub C dX3_takeDueNote_54 (pf_X3_24 C dX3_takeDueNote_55 (x_al_n C dX3_takeDueNote_58 rfl (x_rA C hr dX3_takeDueNote_59)))))))))))))))))))))
set_option maxRecDepth 20000 in
theorem mX3_takeDueNote (l : Launch) (D : va_G) (cA : Nat → ClassId) (base : Nat) : Mc l D cA base yX3_takeDueNote cX3_takeDueNote 3 (some (.object RX4)) rX3_takeDueNote wX3_takeDueNote := mc_of (by decide +kernel) kX3_takeDueNote (fun T Q C CR hr hnm nx hn => bse_ok _ (List.forall_mem_cons.mpr ⟨oX3_takeDueNote_0 C CR hr hnm hn, List.forall_mem_cons.mpr ⟨oX3_takeDueNote_23 C CR hr hnm hn, List.forall_mem_cons.mpr ⟨oX3_takeDueNote_25 C CR hr hnm hn, fun _ h => nomatch h⟩⟩⟩))
theorem dX3_isFull_0 : decode cX3_isFull 0 = .ok (.aload_n 0, 1) := by decide +kernel
theorem dX3_isFull_1 : decode cX3_isFull 1 = .ok (.getfield 28, 3) := by decide +kernel
theorem dX3_isFull_4 : decode cX3_isFull 4 = .ok (.sipush 200, 3) := by decide +kernel
theorem dX3_isFull_7 : decode cX3_isFull 7 = .ok (.if_icmp .lt 7, 3) := by decide +kernel
theorem dX3_isFull_10 : decode cX3_isFull 10 = .ok (.iconst 1, 1) := by decide +kernel
theorem dX3_isFull_11 : decode cX3_isFull 11 = .ok (.goto 4, 3) := by decide +kernel
theorem dX3_isFull_14 : decode cX3_isFull 14 = .ok (.iconst 0, 1) := by decide +kernel
theorem dX3_isFull_15 : decode cX3_isFull 15 = .ok (.ireturn, 1) := by decide +kernel
noncomputable def bX3_isFull_0 (Q : Option Value → MM → Prop) (nx : Nat → Kt) : Kt := ldA 0 (gI 3 5 (cI 200 (ifc (fun x y => x < y) (nx 14) (cI 1 (nx 15)))))
noncomputable def bX3_isFull_14 (Q : Option Value → MM → Prop) (nx : Nat → Kt) : Kt := cI 0 (nx 15)
noncomputable def bX3_isFull_15 (Q : Option Value → MM → Prop) (nx : Nat → Kt) : Kt := rZ Q
noncomputable def kX3_isFull (Q : Option Value → MM → Prop) (nx : Nat → Kt) : Nat → Kt := bse [(0, bX3_isFull_0 Q nx), (14, bX3_isFull_14 Q nx), (15, bX3_isFull_15 Q nx)]
abbrev rX3_isFull : Room := { frames := 0, cells := 0, slots := 0, locals := 0 }
noncomputable def wX3_isFull : Mw := mw 1 kX3_isFull
set_option maxRecDepth 20000 in
theorem oX3_isFull_0 {T : Ct} {Q : Option Value → MM → Prop} (C : Cx T cX3_isFull 1 RX3 0 0) (CR : CxR T 0 0) (hr : T.2.2.2.2.2.2.2.2.1.sig.returnType = (some .boolean)) (hnm : T.2.2.2.2.2.2.2.2.1.name = "isFull") {nx : Nat → Kt} (hn : ∀ pc, Sd T 1 (QT T Q 0 0) 0 0 pc (nx pc)) : Sd T 1 (QT T Q 0 0) 0 0 0 (bX3_isFull_0 Q nx) := x_al_n C dX3_isFull_0 rfl (gf_X3_28 C dX3_isFull_1 (x_sp C dX3_isFull_4 (by decide) (x_ic_lt C (hn 14) dX3_isFull_7 (by decide) (x_ic C dX3_isFull_10 (by decide) (x_goto C (hn 15) dX3_isFull_11 (by decide))))))
set_option maxRecDepth 20000 in
theorem oX3_isFull_14 {T : Ct} {Q : Option Value → MM → Prop} (C : Cx T cX3_isFull 1 RX3 0 0) (CR : CxR T 0 0) (hr : T.2.2.2.2.2.2.2.2.1.sig.returnType = (some .boolean)) (hnm : T.2.2.2.2.2.2.2.2.1.name = "isFull") {nx : Nat → Kt} (hn : ∀ pc, Sd T 1 (QT T Q 0 0) 0 0 pc (nx pc)) : Sd T 1 (QT T Q 0 0) 0 0 14 (bX3_isFull_14 Q nx) := x_ic C dX3_isFull_14 (by decide) (hn 15)
set_option maxRecDepth 20000 in
theorem oX3_isFull_15 {T : Ct} {Q : Option Value → MM → Prop} (C : Cx T cX3_isFull 1 RX3 0 0) (CR : CxR T 0 0) (hr : T.2.2.2.2.2.2.2.2.1.sig.returnType = (some .boolean)) (hnm : T.2.2.2.2.2.2.2.2.1.name = "isFull") {nx : Nat → Kt} (hn : ∀ pc, Sd T 1 (QT T Q 0 0) 0 0 pc (nx pc)) : Sd T 1 (QT T Q 0 0) 0 0 15 (bX3_isFull_15 Q nx) := x_rZ C hr dX3_isFull_15
set_option maxRecDepth 20000 in
theorem mX3_isFull (l : Launch) (D : va_G) (cA : Nat → ClassId) (base : Nat) : Mc l D cA base yX3_isFull cX3_isFull 1 (some .boolean) rX3_isFull wX3_isFull := mc_of (by decide +kernel) kX3_isFull (fun T Q C CR hr hnm nx hn => bse_ok _ (List.forall_mem_cons.mpr ⟨oX3_isFull_0 C CR hr hnm hn, List.forall_mem_cons.mpr ⟨oX3_isFull_14 C CR hr hnm hn, List.forall_mem_cons.mpr ⟨oX3_isFull_15 C CR hr hnm hn, fun _ h => nomatch h⟩⟩⟩))
theorem dX3_addFrame_0 : decode cX3_addFrame 0 = .ok (.aload_n 0, 1) := by decide +kernel
theorem dX3_addFrame_1 : decode cX3_addFrame 1 = .ok (.getfield 54, 3) := by decide +kernel
theorem dX3_addFrame_4 : decode cX3_addFrame 4 = .ok (.aload_n 0, 1) := by decide +kernel
theorem dX3_addFrame_5 : decode cX3_addFrame 5 = .ok (.getfield 28, 3) := by decide +kernel
theorem dX3_addFrame_8 : decode cX3_addFrame 8 = .ok (.iadd, 1) := by decide +kernel
theorem dX3_addFrame_9 : decode cX3_addFrame 9 = .ok (.sipush 200, 3) := by decide +kernel
theorem dX3_addFrame_12 : decode cX3_addFrame 12 = .ok (.irem, 1) := by decide +kernel
theorem dX3_addFrame_13 : decode cX3_addFrame 13 = .ok (.istore_n 1, 1) := by decide +kernel
theorem dX3_addFrame_14 : decode cX3_addFrame 14 = .ok (.aload_n 0, 1) := by decide +kernel
theorem dX3_addFrame_15 : decode cX3_addFrame 15 = .ok (.getfield 19, 3) := by decide +kernel
theorem dX3_addFrame_18 : decode cX3_addFrame 18 = .ok (.iload_n 1, 1) := by decide +kernel
theorem dX3_addFrame_19 : decode cX3_addFrame 19 = .ok (.aaload, 1) := by decide +kernel
theorem dX3_addFrame_20 : decode cX3_addFrame 20 = .ok (.astore_n 2, 1) := by decide +kernel
theorem dX3_addFrame_21 : decode cX3_addFrame 21 = .ok (.aload_n 2, 1) := by decide +kernel
theorem dX3_addFrame_22 : decode cX3_addFrame 22 = .ok (.ifnonnull 18, 3) := by decide +kernel
theorem dX3_addFrame_25 : decode cX3_addFrame 25 = .ok (.new 17, 3) := by decide +kernel
theorem dX3_addFrame_28 : decode cX3_addFrame 28 = .ok (.dup, 1) := by decide +kernel
theorem dX3_addFrame_29 : decode cX3_addFrame 29 = .ok (.invokespecial 57, 3) := by decide +kernel
theorem dX3_addFrame_32 : decode cX3_addFrame 32 = .ok (.astore_n 2, 1) := by decide +kernel
theorem dX3_addFrame_33 : decode cX3_addFrame 33 = .ok (.aload_n 0, 1) := by decide +kernel
theorem dX3_addFrame_34 : decode cX3_addFrame 34 = .ok (.getfield 19, 3) := by decide +kernel
theorem dX3_addFrame_37 : decode cX3_addFrame 37 = .ok (.iload_n 1, 1) := by decide +kernel
theorem dX3_addFrame_38 : decode cX3_addFrame 38 = .ok (.aload_n 2, 1) := by decide +kernel
theorem dX3_addFrame_39 : decode cX3_addFrame 39 = .ok (.aastore, 1) := by decide +kernel
theorem dX3_addFrame_40 : decode cX3_addFrame 40 = .ok (.aload_n 0, 1) := by decide +kernel
theorem dX3_addFrame_41 : decode cX3_addFrame 41 = .ok (.dup, 1) := by decide +kernel
theorem dX3_addFrame_42 : decode cX3_addFrame 42 = .ok (.getfield 28, 3) := by decide +kernel
theorem dX3_addFrame_45 : decode cX3_addFrame 45 = .ok (.iconst 1, 1) := by decide +kernel
theorem dX3_addFrame_46 : decode cX3_addFrame 46 = .ok (.iadd, 1) := by decide +kernel
theorem dX3_addFrame_47 : decode cX3_addFrame 47 = .ok (.putfield 28, 3) := by decide +kernel
theorem dX3_addFrame_50 : decode cX3_addFrame 50 = .ok (.aload_n 2, 1) := by decide +kernel
theorem dX3_addFrame_51 : decode cX3_addFrame 51 = .ok (.areturn, 1) := by decide +kernel
noncomputable def bX3_addFrame_0 (Q : Option Value → MM → Prop) (nx : Nat → Kt) : Kt := ldA 0 (gI 3 4 (ldA 0 (gI 3 5 (bop (fun x y => x + y) (cI 200 (bod (fun x y => x - x / y * y) (stI 1 (ldA 0 (gR 3 3 (ldI 1 (aR 14 (stA 2 (ldA 2 (ifn (nO 2 1 7 (du (cC 0 wX2_init 0 0 1 7 (stA 2 (ldA 0 (gR 3 3 (ldI 1 (ldA 2 (sAR 2 (nx 40)))))))))) (nx 40)))))))))))))))
noncomputable def bX3_addFrame_40 (Q : Option Value → MM → Prop) (nx : Nat → Kt) : Kt := ldA 0 (du (gI 3 5 (cI 1 (bop (fun x y => x + y) (tI 3 5 (ldA 2 (rA Q)))))))
noncomputable def kX3_addFrame (Q : Option Value → MM → Prop) (nx : Nat → Kt) : Nat → Kt := bse [(0, bX3_addFrame_0 Q nx), (40, bX3_addFrame_40 Q nx)]
abbrev rX3_addFrame : Room := { frames := 2, cells := 1, slots := 7, locals := 40 }
noncomputable def wX3_addFrame : Mw := mw 3 kX3_addFrame
set_option maxRecDepth 20000 in
theorem oX3_addFrame_0 {T : Ct} {Q : Option Value → MM → Prop} (C : Cx T cX3_addFrame 3 RX3 1 7) (CR : CxR T 2 40) (hr : T.2.2.2.2.2.2.2.2.1.sig.returnType = (some (.object RX2))) (hnm : T.2.2.2.2.2.2.2.2.1.name = "addFrame") {nx : Nat → Kt} (hn : ∀ pc, Sd T 3 (QT T Q 1 7) 1 7 pc (nx pc)) : Sd T 3 (QT T Q 1 7) 1 7 0 (bX3_addFrame_0 Q nx) := x_al_n C dX3_addFrame_0 rfl (gf_X3_54 C dX3_addFrame_1 (x_al_n C dX3_addFrame_4 rfl (gf_X3_28 C dX3_addFrame_5 (x_iadd C dX3_addFrame_8 (x_sp C dX3_addFrame_9 (by decide) (x_irem C dX3_addFrame_12 (x_is_n C dX3_addFrame_13 rfl (by decide) (x_al_n C dX3_addFrame_14 rfl (gf_X3_19 C dX3_addFrame_15 (x_il_n C dX3_addFrame_18 rfl (x_aald C (kd := 14) (t0 := 4) (by decide) (by decide) (fun _ => rfl) dX3_addFrame_19 (x_as_n C dX3_addFrame_20 rfl (by decide) (x_al_n C dX3_addFrame_21 rfl (x_ifnonnull C (hn 40) dX3_addFrame_22 (by decide) (nf_X3_17 C dX3_addFrame_25 (x_dup C dX3_addFrame_28 (x_cN C CR mX2_init ⟨co_X2_init, init_X2, md_X2_init, by decide, by decide⟩ (by decide +kernel) im_X2_init rfl dX3_addFrame_29 (x_as_n C dX3_addFrame_32 rfl (by decide) (x_al_n C dX3_addFrame_33 rfl (gf_X3_19 C dX3_addFrame_34 (x_il_n C dX3_addFrame_37 rfl (x_al_n C dX3_addFrame_38 rfl (x_aast C (ci := 2) (t0 := 4) (TX := TX2) (N := 7) (by decide) rfl (fun _ => rfl) dX3_addFrame_39 (hn 40))))))))))))))))))))))))
set_option maxRecDepth 20000 in
theorem oX3_addFrame_40 {T : Ct} {Q : Option Value → MM → Prop} (C : Cx T cX3_addFrame 3 RX3 1 7) (CR : CxR T 2 40) (hr : T.2.2.2.2.2.2.2.2.1.sig.returnType = (some (.object RX2))) (hnm : T.2.2.2.2.2.2.2.2.1.name = "addFrame") {nx : Nat → Kt} (hn : ∀ pc, Sd T 3 (QT T Q 1 7) 1 7 pc (nx pc)) : Sd T 3 (QT T Q 1 7) 1 7 40 (bX3_addFrame_40 Q nx) := x_al_n C dX3_addFrame_40 rfl (x_dup C dX3_addFrame_41 (gf_X3_28 C dX3_addFrame_42 (x_ic C dX3_addFrame_45 (by decide) (x_iadd C dX3_addFrame_46 (pf_X3_28 C dX3_addFrame_47 (x_al_n C dX3_addFrame_50 rfl (x_rA C hr dX3_addFrame_51)))))))
set_option maxRecDepth 20000 in
theorem mX3_addFrame (l : Launch) (D : va_G) (cA : Nat → ClassId) (base : Nat) : Mc l D cA base yX3_addFrame cX3_addFrame 3 (some (.object RX2)) rX3_addFrame wX3_addFrame := mc_of (by decide +kernel) kX3_addFrame (fun T Q C CR hr hnm nx hn => bse_ok _ (List.forall_mem_cons.mpr ⟨oX3_addFrame_0 C CR hr hnm hn, List.forall_mem_cons.mpr ⟨oX3_addFrame_40 C CR hr hnm hn, fun _ h => nomatch h⟩⟩))
theorem dX3_takeDueFrame_0 : decode cX3_takeDueFrame 0 = .ok (.aload_n 0, 1) := by decide +kernel
theorem dX3_takeDueFrame_1 : decode cX3_takeDueFrame 1 = .ok (.getfield 19, 3) := by decide +kernel
theorem dX3_takeDueFrame_4 : decode cX3_takeDueFrame 4 = .ok (.aload_n 0, 1) := by decide +kernel
theorem dX3_takeDueFrame_5 : decode cX3_takeDueFrame 5 = .ok (.getfield 54, 3) := by decide +kernel
theorem dX3_takeDueFrame_8 : decode cX3_takeDueFrame 8 = .ok (.aaload, 1) := by decide +kernel
theorem dX3_takeDueFrame_9 : decode cX3_takeDueFrame 9 = .ok (.astore_n 2, 1) := by decide +kernel
theorem dX3_takeDueFrame_10 : decode cX3_takeDueFrame 10 = .ok (.aload_n 0, 1) := by decide +kernel
theorem dX3_takeDueFrame_11 : decode cX3_takeDueFrame 11 = .ok (.getfield 28, 3) := by decide +kernel
theorem dX3_takeDueFrame_14 : decode cX3_takeDueFrame 14 = .ok (.ifCond .eq 15, 3) := by decide +kernel
theorem dX3_takeDueFrame_17 : decode cX3_takeDueFrame 17 = .ok (.aload_n 2, 1) := by decide +kernel
theorem dX3_takeDueFrame_18 : decode cX3_takeDueFrame 18 = .ok (.ifnull 11, 3) := by decide +kernel
theorem dX3_takeDueFrame_21 : decode cX3_takeDueFrame 21 = .ok (.aload_n 2, 1) := by decide +kernel
theorem dX3_takeDueFrame_22 : decode cX3_takeDueFrame 22 = .ok (.getfield 58, 3) := by decide +kernel
theorem dX3_takeDueFrame_25 : decode cX3_takeDueFrame 25 = .ok (.iload_n 1, 1) := by decide +kernel
theorem dX3_takeDueFrame_26 : decode cX3_takeDueFrame 26 = .ok (.if_icmp .le 5, 3) := by decide +kernel
theorem dX3_takeDueFrame_29 : decode cX3_takeDueFrame 29 = .ok (.aconst_null, 1) := by decide +kernel
theorem dX3_takeDueFrame_30 : decode cX3_takeDueFrame 30 = .ok (.areturn, 1) := by decide +kernel
theorem dX3_takeDueFrame_31 : decode cX3_takeDueFrame 31 = .ok (.aload_n 0, 1) := by decide +kernel
theorem dX3_takeDueFrame_32 : decode cX3_takeDueFrame 32 = .ok (.aload_n 0, 1) := by decide +kernel
theorem dX3_takeDueFrame_33 : decode cX3_takeDueFrame 33 = .ok (.getfield 54, 3) := by decide +kernel
theorem dX3_takeDueFrame_36 : decode cX3_takeDueFrame 36 = .ok (.iconst 1, 1) := by decide +kernel
theorem dX3_takeDueFrame_37 : decode cX3_takeDueFrame 37 = .ok (.iadd, 1) := by decide +kernel
theorem dX3_takeDueFrame_38 : decode cX3_takeDueFrame 38 = .ok (.sipush 200, 3) := by decide +kernel
theorem dX3_takeDueFrame_41 : decode cX3_takeDueFrame 41 = .ok (.irem, 1) := by decide +kernel
theorem dX3_takeDueFrame_42 : decode cX3_takeDueFrame 42 = .ok (.putfield 54, 3) := by decide +kernel
theorem dX3_takeDueFrame_45 : decode cX3_takeDueFrame 45 = .ok (.aload_n 0, 1) := by decide +kernel
theorem dX3_takeDueFrame_46 : decode cX3_takeDueFrame 46 = .ok (.dup, 1) := by decide +kernel
theorem dX3_takeDueFrame_47 : decode cX3_takeDueFrame 47 = .ok (.getfield 28, 3) := by decide +kernel
theorem dX3_takeDueFrame_50 : decode cX3_takeDueFrame 50 = .ok (.iconst 1, 1) := by decide +kernel
theorem dX3_takeDueFrame_51 : decode cX3_takeDueFrame 51 = .ok (.isub, 1) := by decide +kernel
theorem dX3_takeDueFrame_52 : decode cX3_takeDueFrame 52 = .ok (.putfield 28, 3) := by decide +kernel
theorem dX3_takeDueFrame_55 : decode cX3_takeDueFrame 55 = .ok (.aload_n 2, 1) := by decide +kernel
theorem dX3_takeDueFrame_56 : decode cX3_takeDueFrame 56 = .ok (.areturn, 1) := by decide +kernel
noncomputable def bX3_takeDueFrame_0 (Q : Option Value → MM → Prop) (nx : Nat → Kt) : Kt := ldA 0 (gR 3 3 (ldA 0 (gI 3 4 (aR 14 (stA 2 (ldA 0 (gI 3 5 (ifz (fun x => x = 0) (nx 29) (ldA 2 (ifn (nx 29) (ldA 2 (gI 2 3 (ldI 1 (ifc (fun x y => x ≤ y) (nx 31) (nx 29)))))))))))))))
noncomputable def bX3_takeDueFrame_29 (Q : Option Value → MM → Prop) (nx : Nat → Kt) : Kt := nul (rA Q)
noncomputable def bX3_takeDueFrame_31 (Q : Option Value → MM → Prop) (nx : Nat → Kt) : Kt := ldA 0 (ldA 0 (gI 3 4 (cI 1 (bop (fun x y => x + y) (cI 200 (bod (fun x y => x - x / y * y) (tI 3 4 (ldA 0 (du (gI 3 5 (cI 1 (bop (fun x y => x - y) (tI 3 5 (ldA 2 (rA Q)))))))))))))))
noncomputable def kX3_takeDueFrame (Q : Option Value → MM → Prop) (nx : Nat → Kt) : Nat → Kt := bse [(0, bX3_takeDueFrame_0 Q nx), (29, bX3_takeDueFrame_29 Q nx), (31, bX3_takeDueFrame_31 Q nx)]
abbrev rX3_takeDueFrame : Room := { frames := 0, cells := 0, slots := 0, locals := 0 }
noncomputable def wX3_takeDueFrame : Mw := mw 3 kX3_takeDueFrame
set_option maxRecDepth 20000 in
theorem oX3_takeDueFrame_0 {T : Ct} {Q : Option Value → MM → Prop} (C : Cx T cX3_takeDueFrame 3 RX3 0 0) (CR : CxR T 0 0) (hr : T.2.2.2.2.2.2.2.2.1.sig.returnType = (some (.object RX2))) (hnm : T.2.2.2.2.2.2.2.2.1.name = "takeDueFrame") {nx : Nat → Kt} (hn : ∀ pc, Sd T 3 (QT T Q 0 0) 0 0 pc (nx pc)) : Sd T 3 (QT T Q 0 0) 0 0 0 (bX3_takeDueFrame_0 Q nx) := x_al_n C dX3_takeDueFrame_0 rfl (gf_X3_19 C dX3_takeDueFrame_1 (x_al_n C dX3_takeDueFrame_4 rfl (gf_X3_54 C dX3_takeDueFrame_5 (x_aald C (kd := 14) (t0 := 4) (by decide) (by decide) (fun _ => rfl) dX3_takeDueFrame_8 (x_as_n C dX3_takeDueFrame_9 rfl (by decide) (x_al_n C dX3_takeDueFrame_10 rfl (gf_X3_28 C dX3_takeDueFrame_11 (x_if_eq C (hn 29) dX3_takeDueFrame_14 (by decide) (x_al_n C dX3_takeDueFrame_17 rfl (x_ifnull C (hn 29) dX3_takeDueFrame_18 (by decide) (x_al_n C dX3_takeDueFrame_21 rfl (gf_X3_58 C dX3_takeDueFrame_22 (x_il_n C dX3_takeDueFrame_25 rfl (x_ic_le C (hn 31) dX3_takeDueFrame_26 (by decide) (hn 29)))))))))))))))
set_option maxRecDepth 20000 in
theorem oX3_takeDueFrame_29 {T : Ct} {Q : Option Value → MM → Prop} (C : Cx T cX3_takeDueFrame 3 RX3 0 0) (CR : CxR T 0 0) (hr : T.2.2.2.2.2.2.2.2.1.sig.returnType = (some (.object RX2))) (hnm : T.2.2.2.2.2.2.2.2.1.name = "takeDueFrame") {nx : Nat → Kt} (hn : ∀ pc, Sd T 3 (QT T Q 0 0) 0 0 pc (nx pc)) : Sd T 3 (QT T Q 0 0) 0 0 29 (bX3_takeDueFrame_29 Q nx) := x_null C dX3_takeDueFrame_29 (x_rA C hr dX3_takeDueFrame_30)
set_option maxRecDepth 20000 in
theorem oX3_takeDueFrame_31 {T : Ct} {Q : Option Value → MM → Prop} (C : Cx T cX3_takeDueFrame 3 RX3 0 0) (CR : CxR T 0 0) (hr : T.2.2.2.2.2.2.2.2.1.sig.returnType = (some (.object RX2))) (hnm : T.2.2.2.2.2.2.2.2.1.name = "takeDueFrame") {nx : Nat → Kt} (hn : ∀ pc, Sd T 3 (QT T Q 0 0) 0 0 pc (nx pc)) : Sd T 3 (QT T Q 0 0) 0 0 31 (bX3_takeDueFrame_31 Q nx) := x_al_n C dX3_takeDueFrame_31 rfl (x_al_n C dX3_takeDueFrame_32 rfl (gf_X3_54 C dX3_takeDueFrame_33 (x_ic C dX3_takeDueFrame_36 (by decide) (x_iadd C dX3_takeDueFrame_37 (x_sp C dX3_takeDueFrame_38 (by decide) (x_irem C dX3_takeDueFrame_41 (pf_X3_54 C dX3_takeDueFrame_42 (x_al_n C dX3_takeDueFrame_45 rfl (x_dup C dX3_takeDueFrame_46 (gf_X3_28 C dX3_takeDueFrame_47 (x_ic C dX3_takeDueFrame_50 (by decide) (x_isub C dX3_takeDueFrame_51 (pf_X3_28 C dX3_takeDueFrame_52 (x_al_n C dX3_takeDueFrame_55 rfl (x_rA C hr dX3_takeDueFrame_56)))))))))))))))
set_option maxRecDepth 20000 in
theorem mX3_takeDueFrame (l : Launch) (D : va_G) (cA : Nat → ClassId) (base : Nat) : Mc l D cA base yX3_takeDueFrame cX3_takeDueFrame 3 (some (.object RX2)) rX3_takeDueFrame wX3_takeDueFrame := mc_of (by decide +kernel) kX3_takeDueFrame (fun T Q C CR hr hnm nx hn => bse_ok _ (List.forall_mem_cons.mpr ⟨oX3_takeDueFrame_0 C CR hr hnm hn, List.forall_mem_cons.mpr ⟨oX3_takeDueFrame_29 C CR hr hnm hn, List.forall_mem_cons.mpr ⟨oX3_takeDueFrame_31 C CR hr hnm hn, fun _ h => nomatch h⟩⟩⟩))
theorem dX3_markOvertaken_0 : decode cX3_markOvertaken 0 = .ok (.iconst 0, 1) := by decide +kernel
theorem dX3_markOvertaken_1 : decode cX3_markOvertaken 1 = .ok (.istore_n 2, 1) := by decide +kernel
theorem dX3_markOvertaken_2 : decode cX3_markOvertaken 2 = .ok (.iload_n 2, 1) := by decide +kernel
theorem dX3_markOvertaken_3 : decode cX3_markOvertaken 3 = .ok (.aload_n 0, 1) := by decide +kernel
theorem dX3_markOvertaken_4 : decode cX3_markOvertaken 4 = .ok (.getfield 28, 3) := by decide +kernel
theorem dX3_markOvertaken_7 : decode cX3_markOvertaken 7 = .ok (.if_icmp .ge 42, 3) := by decide +kernel
theorem dX3_markOvertaken_10 : decode cX3_markOvertaken 10 = .ok (.aload_n 0, 1) := by decide +kernel
theorem dX3_markOvertaken_11 : decode cX3_markOvertaken 11 = .ok (.getfield 19, 3) := by decide +kernel
theorem dX3_markOvertaken_14 : decode cX3_markOvertaken 14 = .ok (.aload_n 0, 1) := by decide +kernel
theorem dX3_markOvertaken_15 : decode cX3_markOvertaken 15 = .ok (.getfield 54, 3) := by decide +kernel
theorem dX3_markOvertaken_18 : decode cX3_markOvertaken 18 = .ok (.iload_n 2, 1) := by decide +kernel
theorem dX3_markOvertaken_19 : decode cX3_markOvertaken 19 = .ok (.iadd, 1) := by decide +kernel
theorem dX3_markOvertaken_20 : decode cX3_markOvertaken 20 = .ok (.sipush 200, 3) := by decide +kernel
theorem dX3_markOvertaken_23 : decode cX3_markOvertaken 23 = .ok (.irem, 1) := by decide +kernel
theorem dX3_markOvertaken_24 : decode cX3_markOvertaken 24 = .ok (.aaload, 1) := by decide +kernel
theorem dX3_markOvertaken_25 : decode cX3_markOvertaken 25 = .ok (.astore_n 3, 1) := by decide +kernel
theorem dX3_markOvertaken_26 : decode cX3_markOvertaken 26 = .ok (.aload_n 3, 1) := by decide +kernel
theorem dX3_markOvertaken_27 : decode cX3_markOvertaken 27 = .ok (.ifnull 16, 3) := by decide +kernel
theorem dX3_markOvertaken_30 : decode cX3_markOvertaken 30 = .ok (.aload_n 3, 1) := by decide +kernel
theorem dX3_markOvertaken_31 : decode cX3_markOvertaken 31 = .ok (.aload_n 1, 1) := by decide +kernel
theorem dX3_markOvertaken_32 : decode cX3_markOvertaken 32 = .ok (.invokevirtual 59, 3) := by decide +kernel
theorem dX3_markOvertaken_35 : decode cX3_markOvertaken 35 = .ok (.ifCond .eq 8, 3) := by decide +kernel
theorem dX3_markOvertaken_38 : decode cX3_markOvertaken 38 = .ok (.aload_n 3, 1) := by decide +kernel
theorem dX3_markOvertaken_39 : decode cX3_markOvertaken 39 = .ok (.iconst 1, 1) := by decide +kernel
theorem dX3_markOvertaken_40 : decode cX3_markOvertaken 40 = .ok (.putfield 63, 3) := by decide +kernel
theorem dX3_markOvertaken_43 : decode cX3_markOvertaken 43 = .ok (.iinc 2 1, 3) := by decide +kernel
theorem dX3_markOvertaken_46 : decode cX3_markOvertaken 46 = .ok (.goto (-44), 3) := by decide +kernel
theorem dX3_markOvertaken_49 : decode cX3_markOvertaken 49 = .ok (.return_, 1) := by decide +kernel
noncomputable def bX3_markOvertaken_0 (Q : Option Value → MM → Prop) (nx : Nat → Kt) : Kt := cI 0 (stI 2 (nx 2))
noncomputable def bX3_markOvertaken_2 (Q : Option Value → MM → Prop) (nx : Nat → Kt) : Kt := ldI 2 (ldA 0 (gI 3 5 (ifc (fun x y => y ≤ x) (nx 49) (ldA 0 (gR 3 3 (ldA 0 (gI 3 4 (ldI 2 (bop (fun x y => x + y) (cI 200 (bod (fun x y => x - x / y * y) (aR 14 (stA 3 (ldA 3 (ifn (nx 43) (ldA 3 (ldA 1 (cV 1 2 wX2_mustComeAhead 0 0 0 0 (ifz (fun x => x = 0) (nx 43) (ldA 3 (cI 1 (tZ 2 6 (nx 43)))))))))))))))))))))))
noncomputable def bX3_markOvertaken_43 (Q : Option Value → MM → Prop) (nx : Nat → Kt) : Kt := inc 2 1 (nx 2)
noncomputable def bX3_markOvertaken_49 (Q : Option Value → MM → Prop) (nx : Nat → Kt) : Kt := rV Q
noncomputable def kX3_markOvertaken (Q : Option Value → MM → Prop) (nx : Nat → Kt) : Nat → Kt := bse [(0, bX3_markOvertaken_0 Q nx), (2, bX3_markOvertaken_2 Q nx), (43, bX3_markOvertaken_43 Q nx), (49, bX3_markOvertaken_49 Q nx)]
abbrev rX3_markOvertaken : Room := { frames := 1, cells := 0, slots := 0, locals := 21 }
noncomputable def wX3_markOvertaken : Mw := mw 4 kX3_markOvertaken
set_option maxRecDepth 20000 in
theorem oX3_markOvertaken_0 {T : Ct} {Q : Option Value → MM → Prop} (C : Cx T cX3_markOvertaken 4 RX3 0 0) (CR : CxR T 1 21) (hr : T.2.2.2.2.2.2.2.2.1.sig.returnType = none) (hnm : T.2.2.2.2.2.2.2.2.1.name = "markOvertaken") {nx : Nat → Kt} (hn : ∀ pc, Sd T 4 (QT T Q 0 0) 0 0 pc (nx pc)) : Sd T 4 (QT T Q 0 0) 0 0 0 (bX3_markOvertaken_0 Q nx) := x_ic C dX3_markOvertaken_0 (by decide) (x_is_n C dX3_markOvertaken_1 rfl (by decide) (hn 2))
set_option maxRecDepth 20000 in
theorem oX3_markOvertaken_2 {T : Ct} {Q : Option Value → MM → Prop} (C : Cx T cX3_markOvertaken 4 RX3 0 0) (CR : CxR T 1 21) (hr : T.2.2.2.2.2.2.2.2.1.sig.returnType = none) (hnm : T.2.2.2.2.2.2.2.2.1.name = "markOvertaken") {nx : Nat → Kt} (hn : ∀ pc, Sd T 4 (QT T Q 0 0) 0 0 pc (nx pc)) : Sd T 4 (QT T Q 0 0) 0 0 2 (bX3_markOvertaken_2 Q nx) := x_il_n C dX3_markOvertaken_2 rfl (x_al_n C dX3_markOvertaken_3 rfl (gf_X3_28 C dX3_markOvertaken_4 (x_ic_ge C (hn 49) dX3_markOvertaken_7 (by decide) (x_al_n C dX3_markOvertaken_10 rfl (gf_X3_19 C dX3_markOvertaken_11 (x_al_n C dX3_markOvertaken_14 rfl (gf_X3_54 C dX3_markOvertaken_15 (x_il_n C dX3_markOvertaken_18 rfl (x_iadd C dX3_markOvertaken_19 (x_sp C dX3_markOvertaken_20 (by decide) (x_irem C dX3_markOvertaken_23 (x_aald C (kd := 14) (t0 := 4) (by decide) (by decide) (fun _ => rfl) dX3_markOvertaken_24 (x_as_n C dX3_markOvertaken_25 rfl (by decide) (x_al_n C dX3_markOvertaken_26 rfl (x_ifnull C (hn 43) dX3_markOvertaken_27 (by decide) (x_al_n C dX3_markOvertaken_30 rfl (x_al_n C dX3_markOvertaken_31 rfl (x_cV C CR mX2_mustComeAhead ⟨co_X2_mustComeAhead, init_X2, md_X2_mustComeAhead, by decide, by decide⟩ (ci := 2) (TX := TX2) (N := 7) rfl (by decide) ml_X3_59 im_X2_mustComeAhead se_X2_mustComeAhead dX3_markOvertaken_32 (x_if_eq C (hn 43) dX3_markOvertaken_35 (by decide) (x_al_n C dX3_markOvertaken_38 rfl (x_ic C dX3_markOvertaken_39 (by decide) (pf_X3_63 C dX3_markOvertaken_40 (hn 43)))))))))))))))))))))))
set_option maxRecDepth 20000 in
theorem oX3_markOvertaken_43 {T : Ct} {Q : Option Value → MM → Prop} (C : Cx T cX3_markOvertaken 4 RX3 0 0) (CR : CxR T 1 21) (hr : T.2.2.2.2.2.2.2.2.1.sig.returnType = none) (hnm : T.2.2.2.2.2.2.2.2.1.name = "markOvertaken") {nx : Nat → Kt} (hn : ∀ pc, Sd T 4 (QT T Q 0 0) 0 0 pc (nx pc)) : Sd T 4 (QT T Q 0 0) 0 0 43 (bX3_markOvertaken_43 Q nx) := x_inc C dX3_markOvertaken_43 (by decide) (by decide) (x_goto C (hn 2) dX3_markOvertaken_46 (by decide))
set_option maxRecDepth 20000 in
theorem oX3_markOvertaken_49 {T : Ct} {Q : Option Value → MM → Prop} (C : Cx T cX3_markOvertaken 4 RX3 0 0) (CR : CxR T 1 21) (hr : T.2.2.2.2.2.2.2.2.1.sig.returnType = none) (hnm : T.2.2.2.2.2.2.2.2.1.name = "markOvertaken") {nx : Nat → Kt} (hn : ∀ pc, Sd T 4 (QT T Q 0 0) 0 0 pc (nx pc)) : Sd T 4 (QT T Q 0 0) 0 0 49 (bX3_markOvertaken_49 Q nx) := x_rV C hr dX3_markOvertaken_49
set_option maxRecDepth 20000 in
theorem mX3_markOvertaken (l : Launch) (D : va_G) (cA : Nat → ClassId) (base : Nat) : Mc l D cA base yX3_markOvertaken cX3_markOvertaken 4 none rX3_markOvertaken wX3_markOvertaken := mc_of (by decide +kernel) kX3_markOvertaken (fun T Q C CR hr hnm nx hn => bse_ok _ (List.forall_mem_cons.mpr ⟨oX3_markOvertaken_0 C CR hr hnm hn, List.forall_mem_cons.mpr ⟨oX3_markOvertaken_2 C CR hr hnm hn, List.forall_mem_cons.mpr ⟨oX3_markOvertaken_43 C CR hr hnm hn, List.forall_mem_cons.mpr ⟨oX3_markOvertaken_49 C CR hr hnm hn, fun _ h => nomatch h⟩⟩⟩⟩))
theorem dX0_init_0 : decode cX0_init 0 = .ok (.aload_n 0, 1) := by decide +kernel
theorem dX0_init_1 : decode cX0_init 1 = .ok (.invokespecial 3, 3) := by decide +kernel
theorem dX0_init_4 : decode cX0_init 4 = .ok (.aload_n 0, 1) := by decide +kernel
theorem dX0_init_5 : decode cX0_init 5 = .ok (.iconst 2, 1) := by decide +kernel
theorem dX0_init_6 : decode cX0_init 6 = .ok (.anewarray 9, 3) := by decide +kernel
theorem dX0_init_9 : decode cX0_init 9 = .ok (.putfield 11, 3) := by decide +kernel
theorem dX0_init_12 : decode cX0_init 12 = .ok (.aload_n 0, 1) := by decide +kernel
theorem dX0_init_13 : decode cX0_init 13 = .ok (.iconst 2, 1) := by decide +kernel
theorem dX0_init_14 : decode cX0_init 14 = .ok (.anewarray 17, 3) := by decide +kernel
theorem dX0_init_17 : decode cX0_init 17 = .ok (.putfield 19, 3) := by decide +kernel
theorem dX0_init_20 : decode cX0_init 20 = .ok (.iconst 0, 1) := by decide +kernel
theorem dX0_init_21 : decode cX0_init 21 = .ok (.istore_n 1, 1) := by decide +kernel
theorem dX0_init_22 : decode cX0_init 22 = .ok (.iload_n 1, 1) := by decide +kernel
theorem dX0_init_23 : decode cX0_init 23 = .ok (.iconst 2, 1) := by decide +kernel
theorem dX0_init_24 : decode cX0_init 24 = .ok (.if_icmp .ge 22, 3) := by decide +kernel
theorem dX0_init_27 : decode cX0_init 27 = .ok (.aload_n 0, 1) := by decide +kernel
theorem dX0_init_28 : decode cX0_init 28 = .ok (.getfield 19, 3) := by decide +kernel
theorem dX0_init_31 : decode cX0_init 31 = .ok (.iload_n 1, 1) := by decide +kernel
theorem dX0_init_32 : decode cX0_init 32 = .ok (.new 17, 3) := by decide +kernel
theorem dX0_init_35 : decode cX0_init 35 = .ok (.dup, 1) := by decide +kernel
theorem dX0_init_36 : decode cX0_init 36 = .ok (.invokespecial 23, 3) := by decide +kernel
theorem dX0_init_39 : decode cX0_init 39 = .ok (.aastore, 1) := by decide +kernel
theorem dX0_init_40 : decode cX0_init 40 = .ok (.iinc 1 1, 3) := by decide +kernel
theorem dX0_init_43 : decode cX0_init 43 = .ok (.goto (-21), 3) := by decide +kernel
theorem dX0_init_46 : decode cX0_init 46 = .ok (.return_, 1) := by decide +kernel
noncomputable def bX0_init_0 (Q : Option Value → MM → Prop) (nx : Nat → Kt) : Kt := ldA 0 (oI (ldA 0 (cI 2 (nA 17 56 642 (tF 0 0 (ldA 0 (cI 2 (nA 15 56 642 (tF 0 1 (cI 0 (stI 1 (nx 22))))))))))))
noncomputable def bX0_init_22 (Q : Option Value → MM → Prop) (nx : Nat → Kt) : Kt := ldI 1 (cI 2 (ifc (fun x y => y ≤ x) (nx 46) (ldA 0 (gR 0 1 (ldI 1 (nO 3 56 642 (du (cC 0 wX3_init 26 312 56 642 (sAR 3 (inc 1 1 (nx 22)))))))))))
noncomputable def bX0_init_46 (Q : Option Value → MM → Prop) (nx : Nat → Kt) : Kt := rV Q
noncomputable def kX0_init (Q : Option Value → MM → Prop) (nx : Nat → Kt) : Nat → Kt := bse [(0, bX0_init_0 Q nx), (22, bX0_init_22 Q nx), (46, bX0_init_46 Q nx)]
abbrev rX0_init : Room := { frames := 4, cells := 56, slots := 642, locals := 81 }
noncomputable def wX0_init : Mw := mw 2 kX0_init
set_option maxRecDepth 20000 in
theorem oX0_init_0 {T : Ct} {Q : Option Value → MM → Prop} (C : Cx T cX0_init 2 RX0 56 642) (CR : CxR T 4 81) (hr : T.2.2.2.2.2.2.2.2.1.sig.returnType = none) (hnm : T.2.2.2.2.2.2.2.2.1.name = "<init>") {nx : Nat → Kt} (hn : ∀ pc, Sd T 2 (QT T Q 56 642) 56 642 pc (nx pc)) : Sd T 2 (QT T Q 56 642) 56 642 0 (bX0_init_0 Q nx) := x_al_n C dX0_init_0 rfl (x_oI C CR (by decide) (by decide) ml_X0_3 im_obj co_obj dX0_init_1 (x_al_n C dX0_init_4 rfl (x_ic C dX0_init_5 (by decide) (af_X0_9 C dX0_init_6 (pf_X0_11 C hnm dX0_init_9 (x_al_n C dX0_init_12 rfl (x_ic C dX0_init_13 (by decide) (af_X0_17 C dX0_init_14 (pf_X0_19 C hnm dX0_init_17 (x_ic C dX0_init_20 (by decide) (x_is_n C dX0_init_21 rfl (by decide) (hn 22))))))))))))
set_option maxRecDepth 20000 in
theorem oX0_init_22 {T : Ct} {Q : Option Value → MM → Prop} (C : Cx T cX0_init 2 RX0 56 642) (CR : CxR T 4 81) (hr : T.2.2.2.2.2.2.2.2.1.sig.returnType = none) (hnm : T.2.2.2.2.2.2.2.2.1.name = "<init>") {nx : Nat → Kt} (hn : ∀ pc, Sd T 2 (QT T Q 56 642) 56 642 pc (nx pc)) : Sd T 2 (QT T Q 56 642) 56 642 22 (bX0_init_22 Q nx) := x_il_n C dX0_init_22 rfl (x_ic C dX0_init_23 (by decide) (x_ic_ge C (hn 46) dX0_init_24 (by decide) (x_al_n C dX0_init_27 rfl (gf_X0_19 C dX0_init_28 (x_il_n C dX0_init_31 rfl (nf_X0_17 C dX0_init_32 (x_dup C dX0_init_35 (x_cC C CR mX3_init ⟨co_X3_init, init_X3, md_X3_init, by decide, by decide⟩ ml_X0_23 im_X3_init rfl dX0_init_36 (x_aast C (ci := 3) (t0 := 5) (TX := TX3) (N := 7) (by decide) rfl (fun _ => rfl) dX0_init_39 (x_inc C dX0_init_40 (by decide) (by decide) (x_goto C (hn 22) dX0_init_43 (by decide))))))))))))
set_option maxRecDepth 20000 in
theorem oX0_init_46 {T : Ct} {Q : Option Value → MM → Prop} (C : Cx T cX0_init 2 RX0 56 642) (CR : CxR T 4 81) (hr : T.2.2.2.2.2.2.2.2.1.sig.returnType = none) (hnm : T.2.2.2.2.2.2.2.2.1.name = "<init>") {nx : Nat → Kt} (hn : ∀ pc, Sd T 2 (QT T Q 56 642) 56 642 pc (nx pc)) : Sd T 2 (QT T Q 56 642) 56 642 46 (bX0_init_46 Q nx) := x_rV C hr dX0_init_46
set_option maxRecDepth 20000 in
theorem mX0_init (l : Launch) (D : va_G) (cA : Nat → ClassId) (base : Nat) : Mc l D cA base yX0_init cX0_init 2 none rX0_init wX0_init := mc_of (by decide +kernel) kX0_init (fun T Q C CR hr hnm nx hn => bse_ok _ (List.forall_mem_cons.mpr ⟨oX0_init_0 C CR hr hnm hn, List.forall_mem_cons.mpr ⟨oX0_init_22 C CR hr hnm hn, List.forall_mem_cons.mpr ⟨oX0_init_46 C CR hr hnm hn, fun _ h => nomatch h⟩⟩⟩))
theorem dX0_isPlugged_0 : decode cX0_isPlugged 0 = .ok (.aload_n 0, 1) := by decide +kernel
theorem dX0_isPlugged_1 : decode cX0_isPlugged 1 = .ok (.getfield 11, 3) := by decide +kernel
theorem dX0_isPlugged_4 : decode cX0_isPlugged 4 = .ok (.iconst 0, 1) := by decide +kernel
theorem dX0_isPlugged_5 : decode cX0_isPlugged 5 = .ok (.aaload, 1) := by decide +kernel
theorem dX0_isPlugged_6 : decode cX0_isPlugged 6 = .ok (.ifnull 16, 3) := by decide +kernel
theorem dX0_isPlugged_9 : decode cX0_isPlugged 9 = .ok (.aload_n 0, 1) := by decide +kernel
theorem dX0_isPlugged_10 : decode cX0_isPlugged 10 = .ok (.getfield 11, 3) := by decide +kernel
theorem dX0_isPlugged_13 : decode cX0_isPlugged 13 = .ok (.iconst 1, 1) := by decide +kernel
theorem dX0_isPlugged_14 : decode cX0_isPlugged 14 = .ok (.aaload, 1) := by decide +kernel
theorem dX0_isPlugged_15 : decode cX0_isPlugged 15 = .ok (.ifnull 7, 3) := by decide +kernel
theorem dX0_isPlugged_18 : decode cX0_isPlugged 18 = .ok (.iconst 1, 1) := by decide +kernel
theorem dX0_isPlugged_19 : decode cX0_isPlugged 19 = .ok (.goto 4, 3) := by decide +kernel
theorem dX0_isPlugged_22 : decode cX0_isPlugged 22 = .ok (.iconst 0, 1) := by decide +kernel
theorem dX0_isPlugged_23 : decode cX0_isPlugged 23 = .ok (.ireturn, 1) := by decide +kernel
noncomputable def bX0_isPlugged_0 (Q : Option Value → MM → Prop) (nx : Nat → Kt) : Kt := ldA 0 (gR 0 0 (cI 0 (aR 17 (ifn (nx 22) (ldA 0 (gR 0 0 (cI 1 (aR 17 (ifn (nx 22) (cI 1 (nx 23)))))))))))
noncomputable def bX0_isPlugged_22 (Q : Option Value → MM → Prop) (nx : Nat → Kt) : Kt := cI 0 (nx 23)
noncomputable def bX0_isPlugged_23 (Q : Option Value → MM → Prop) (nx : Nat → Kt) : Kt := rZ Q
noncomputable def kX0_isPlugged (Q : Option Value → MM → Prop) (nx : Nat → Kt) : Nat → Kt := bse [(0, bX0_isPlugged_0 Q nx), (22, bX0_isPlugged_22 Q nx), (23, bX0_isPlugged_23 Q nx)]
abbrev rX0_isPlugged : Room := { frames := 0, cells := 0, slots := 0, locals := 0 }
noncomputable def wX0_isPlugged : Mw := mw 1 kX0_isPlugged
set_option maxRecDepth 20000 in
theorem oX0_isPlugged_0 {T : Ct} {Q : Option Value → MM → Prop} (C : Cx T cX0_isPlugged 1 RX0 0 0) (CR : CxR T 0 0) (hr : T.2.2.2.2.2.2.2.2.1.sig.returnType = (some .boolean)) (hnm : T.2.2.2.2.2.2.2.2.1.name = "isPlugged") {nx : Nat → Kt} (hn : ∀ pc, Sd T 1 (QT T Q 0 0) 0 0 pc (nx pc)) : Sd T 1 (QT T Q 0 0) 0 0 0 (bX0_isPlugged_0 Q nx) := x_al_n C dX0_isPlugged_0 rfl (gf_X0_11 C dX0_isPlugged_1 (x_ic C dX0_isPlugged_4 (by decide) (x_aald C (kd := 17) (t0 := 7) (by decide) (by decide) (fun _ => rfl) dX0_isPlugged_5 (x_ifnull C (hn 22) dX0_isPlugged_6 (by decide) (x_al_n C dX0_isPlugged_9 rfl (gf_X0_11 C dX0_isPlugged_10 (x_ic C dX0_isPlugged_13 (by decide) (x_aald C (kd := 17) (t0 := 7) (by decide) (by decide) (fun _ => rfl) dX0_isPlugged_14 (x_ifnull C (hn 22) dX0_isPlugged_15 (by decide) (x_ic C dX0_isPlugged_18 (by decide) (x_goto C (hn 23) dX0_isPlugged_19 (by decide))))))))))))
set_option maxRecDepth 20000 in
theorem oX0_isPlugged_22 {T : Ct} {Q : Option Value → MM → Prop} (C : Cx T cX0_isPlugged 1 RX0 0 0) (CR : CxR T 0 0) (hr : T.2.2.2.2.2.2.2.2.1.sig.returnType = (some .boolean)) (hnm : T.2.2.2.2.2.2.2.2.1.name = "isPlugged") {nx : Nat → Kt} (hn : ∀ pc, Sd T 1 (QT T Q 0 0) 0 0 pc (nx pc)) : Sd T 1 (QT T Q 0 0) 0 0 22 (bX0_isPlugged_22 Q nx) := x_ic C dX0_isPlugged_22 (by decide) (hn 23)
set_option maxRecDepth 20000 in
theorem oX0_isPlugged_23 {T : Ct} {Q : Option Value → MM → Prop} (C : Cx T cX0_isPlugged 1 RX0 0 0) (CR : CxR T 0 0) (hr : T.2.2.2.2.2.2.2.2.1.sig.returnType = (some .boolean)) (hnm : T.2.2.2.2.2.2.2.2.1.name = "isPlugged") {nx : Nat → Kt} (hn : ∀ pc, Sd T 1 (QT T Q 0 0) 0 0 pc (nx pc)) : Sd T 1 (QT T Q 0 0) 0 0 23 (bX0_isPlugged_23 Q nx) := x_rZ C hr dX0_isPlugged_23
set_option maxRecDepth 20000 in
theorem mX0_isPlugged (l : Launch) (D : va_G) (cA : Nat → ClassId) (base : Nat) : Mc l D cA base yX0_isPlugged cX0_isPlugged 1 (some .boolean) rX0_isPlugged wX0_isPlugged := mc_of (by decide +kernel) kX0_isPlugged (fun T Q C CR hr hnm nx hn => bse_ok _ (List.forall_mem_cons.mpr ⟨oX0_isPlugged_0 C CR hr hnm hn, List.forall_mem_cons.mpr ⟨oX0_isPlugged_22 C CR hr hnm hn, List.forall_mem_cons.mpr ⟨oX0_isPlugged_23 C CR hr hnm hn, fun _ h => nomatch h⟩⟩⟩))
theorem dX0_agrees_0 : decode cX0_agrees 0 = .ok (.aload_n 0, 1) := by decide +kernel
theorem dX0_agrees_1 : decode cX0_agrees 1 = .ok (.getfield 24, 3) := by decide +kernel
theorem dX0_agrees_4 : decode cX0_agrees 4 = .ok (.ifCond .eq 78, 3) := by decide +kernel
theorem dX0_agrees_7 : decode cX0_agrees 7 = .ok (.aload_n 0, 1) := by decide +kernel
theorem dX0_agrees_8 : decode cX0_agrees 8 = .ok (.invokevirtual 28, 3) := by decide +kernel
theorem dX0_agrees_11 : decode cX0_agrees 11 = .ok (.ifCond .eq 71, 3) := by decide +kernel
theorem dX0_agrees_14 : decode cX0_agrees 14 = .ok (.aload_n 0, 1) := by decide +kernel
theorem dX0_agrees_15 : decode cX0_agrees 15 = .ok (.getfield 11, 3) := by decide +kernel
theorem dX0_agrees_18 : decode cX0_agrees 18 = .ok (.iconst 0, 1) := by decide +kernel
theorem dX0_agrees_19 : decode cX0_agrees 19 = .ok (.aaload, 1) := by decide +kernel
theorem dX0_agrees_20 : decode cX0_agrees 20 = .ok (.getfield 32, 3) := by decide +kernel
theorem dX0_agrees_23 : decode cX0_agrees 23 = .ok (.iconst 4, 1) := by decide +kernel
theorem dX0_agrees_24 : decode cX0_agrees 24 = .ok (.invokevirtual 36, 3) := by decide +kernel
theorem dX0_agrees_27 : decode cX0_agrees 27 = .ok (.ifCond .eq 55, 3) := by decide +kernel
theorem dX0_agrees_30 : decode cX0_agrees 30 = .ok (.aload_n 0, 1) := by decide +kernel
theorem dX0_agrees_31 : decode cX0_agrees 31 = .ok (.getfield 11, 3) := by decide +kernel
theorem dX0_agrees_34 : decode cX0_agrees 34 = .ok (.iconst 1, 1) := by decide +kernel
theorem dX0_agrees_35 : decode cX0_agrees 35 = .ok (.aaload, 1) := by decide +kernel
theorem dX0_agrees_36 : decode cX0_agrees 36 = .ok (.getfield 32, 3) := by decide +kernel
theorem dX0_agrees_39 : decode cX0_agrees 39 = .ok (.iconst 4, 1) := by decide +kernel
theorem dX0_agrees_40 : decode cX0_agrees 40 = .ok (.invokevirtual 36, 3) := by decide +kernel
theorem dX0_agrees_43 : decode cX0_agrees 43 = .ok (.ifCond .eq 39, 3) := by decide +kernel
theorem dX0_agrees_46 : decode cX0_agrees 46 = .ok (.aload_n 0, 1) := by decide +kernel
theorem dX0_agrees_47 : decode cX0_agrees 47 = .ok (.getfield 11, 3) := by decide +kernel
theorem dX0_agrees_50 : decode cX0_agrees 50 = .ok (.iconst 0, 1) := by decide +kernel
theorem dX0_agrees_51 : decode cX0_agrees 51 = .ok (.aaload, 1) := by decide +kernel
theorem dX0_agrees_52 : decode cX0_agrees 52 = .ok (.getfield 32, 3) := by decide +kernel
theorem dX0_agrees_55 : decode cX0_agrees 55 = .ok (.iconst 1, 1) := by decide +kernel
theorem dX0_agrees_56 : decode cX0_agrees 56 = .ok (.invokevirtual 36, 3) := by decide +kernel
theorem dX0_agrees_59 : decode cX0_agrees 59 = .ok (.ifCond .ne 19, 3) := by decide +kernel
theorem dX0_agrees_62 : decode cX0_agrees 62 = .ok (.aload_n 0, 1) := by decide +kernel
theorem dX0_agrees_63 : decode cX0_agrees 63 = .ok (.getfield 11, 3) := by decide +kernel
theorem dX0_agrees_66 : decode cX0_agrees 66 = .ok (.iconst 1, 1) := by decide +kernel
theorem dX0_agrees_67 : decode cX0_agrees 67 = .ok (.aaload, 1) := by decide +kernel
theorem dX0_agrees_68 : decode cX0_agrees 68 = .ok (.getfield 32, 3) := by decide +kernel
theorem dX0_agrees_71 : decode cX0_agrees 71 = .ok (.iconst 1, 1) := by decide +kernel
theorem dX0_agrees_72 : decode cX0_agrees 72 = .ok (.invokevirtual 36, 3) := by decide +kernel
theorem dX0_agrees_75 : decode cX0_agrees 75 = .ok (.ifCond .eq 7, 3) := by decide +kernel
theorem dX0_agrees_78 : decode cX0_agrees 78 = .ok (.iconst 1, 1) := by decide +kernel
theorem dX0_agrees_79 : decode cX0_agrees 79 = .ok (.goto 4, 3) := by decide +kernel
theorem dX0_agrees_82 : decode cX0_agrees 82 = .ok (.iconst 0, 1) := by decide +kernel
theorem dX0_agrees_83 : decode cX0_agrees 83 = .ok (.ireturn, 1) := by decide +kernel
noncomputable def bX0_agrees_0 (Q : Option Value → MM → Prop) (nx : Nat → Kt) : Kt := ldA 0 (gI 0 3 (ifz (fun x => x = 0) (nx 82) (ldA 0 (cV 0 0 wX0_isPlugged 0 0 0 0 (ifz (fun x => x = 0) (nx 82) (ldA 0 (gR 0 0 (cI 0 (aR 17 (gR 5 0 (cI 4 (cV 1 6 wX6_has 0 0 0 0 (ifz (fun x => x = 0) (nx 82) (ldA 0 (gR 0 0 (cI 1 (aR 17 (gR 5 0 (cI 4 (cV 1 6 wX6_has 0 0 0 0 (ifz (fun x => x = 0) (nx 82) (ldA 0 (gR 0 0 (cI 0 (aR 17 (gR 5 0 (cI 1 (cV 1 6 wX6_has 0 0 0 0 (ifz (fun x => x = 0) (ldA 0 (gR 0 0 (cI 1 (aR 17 (gR 5 0 (cI 1 (cV 1 6 wX6_has 0 0 0 0 (ifz (fun x => x = 0) (nx 82) (nx 78))))))))) (nx 78))))))))))))))))))))))))))))))
noncomputable def bX0_agrees_78 (Q : Option Value → MM → Prop) (nx : Nat → Kt) : Kt := cI 1 (nx 83)
noncomputable def bX0_agrees_82 (Q : Option Value → MM → Prop) (nx : Nat → Kt) : Kt := cI 0 (nx 83)
noncomputable def bX0_agrees_83 (Q : Option Value → MM → Prop) (nx : Nat → Kt) : Kt := rZ Q
noncomputable def kX0_agrees (Q : Option Value → MM → Prop) (nx : Nat → Kt) : Nat → Kt := bse [(0, bX0_agrees_0 Q nx), (78, bX0_agrees_78 Q nx), (82, bX0_agrees_82 Q nx), (83, bX0_agrees_83 Q nx)]
abbrev rX0_agrees : Room := { frames := 1, cells := 0, slots := 0, locals := 21 }
noncomputable def wX0_agrees : Mw := mw 1 kX0_agrees
set_option maxRecDepth 20000 in
theorem oX0_agrees_0 {T : Ct} {Q : Option Value → MM → Prop} (C : Cx T cX0_agrees 1 RX0 0 0) (CR : CxR T 1 21) (hr : T.2.2.2.2.2.2.2.2.1.sig.returnType = (some .boolean)) (hnm : T.2.2.2.2.2.2.2.2.1.name = "agrees") {nx : Nat → Kt} (hn : ∀ pc, Sd T 1 (QT T Q 0 0) 0 0 pc (nx pc)) : Sd T 1 (QT T Q 0 0) 0 0 0 (bX0_agrees_0 Q nx) := x_al_n C dX0_agrees_0 rfl (gf_X0_24 C dX0_agrees_1 (x_if_eq C (hn 82) dX0_agrees_4 (by decide) (x_al_n C dX0_agrees_7 rfl (x_cV C CR mX0_isPlugged ⟨co_X0_isPlugged, init_X0, md_X0_isPlugged, by decide, by decide⟩ (ci := 0) (TX := TX0) (N := 5) rfl (by decide) ml_X0_28 im_X0_isPlugged se_X0_isPlugged dX0_agrees_8 (x_if_eq C (hn 82) dX0_agrees_11 (by decide) (x_al_n C dX0_agrees_14 rfl (gf_X0_11 C dX0_agrees_15 (x_ic C dX0_agrees_18 (by decide) (x_aald C (kd := 17) (t0 := 7) (by decide) (by decide) (fun _ => rfl) dX0_agrees_19 (gf_X0_32 C dX0_agrees_20 (x_ic C dX0_agrees_23 (by decide) (x_cV C CR mX6_has ⟨co_X6_has, init_X6, md_X6_has, by decide, by decide⟩ (ci := 6) (TX := TX6) (N := 5) rfl (by decide) ml_X0_36 im_X6_has se_X6_has dX0_agrees_24 (x_if_eq C (hn 82) dX0_agrees_27 (by decide) (x_al_n C dX0_agrees_30 rfl (gf_X0_11 C dX0_agrees_31 (x_ic C dX0_agrees_34 (by decide) (x_aald C (kd := 17) (t0 := 7) (by decide) (by decide) (fun _ => rfl) dX0_agrees_35 (gf_X0_32 C dX0_agrees_36 (x_ic C dX0_agrees_39 (by decide) (x_cV C CR mX6_has ⟨co_X6_has, init_X6, md_X6_has, by decide, by decide⟩ (ci := 6) (TX := TX6) (N := 5) rfl (by decide) ml_X0_36 im_X6_has se_X6_has dX0_agrees_40 (x_if_eq C (hn 82) dX0_agrees_43 (by decide) (x_al_n C dX0_agrees_46 rfl (gf_X0_11 C dX0_agrees_47 (x_ic C dX0_agrees_50 (by decide) (x_aald C (kd := 17) (t0 := 7) (by decide) (by decide) (fun _ => rfl) dX0_agrees_51 (gf_X0_32 C dX0_agrees_52 (x_ic C dX0_agrees_55 (by decide) (x_cV C CR mX6_has ⟨co_X6_has, init_X6, md_X6_has, by decide, by decide⟩ (ci := 6) (TX := TX6) (N := 5) rfl (by decide) ml_X0_36 im_X6_has se_X6_has dX0_agrees_56 (x_if_ne C (hn 78) dX0_agrees_59 (by decide) (x_al_n C dX0_agrees_62 rfl (gf_X0_11 C dX0_agrees_63 (x_ic C dX0_agrees_66 (by decide) (x_aald C (kd := 17) (t0 := 7) (by decide) (by decide) (fun _ => rfl) dX0_agrees_67 (gf_X0_32 C dX0_agrees_68 (x_ic C dX0_agrees_71 (by decide) (x_cV C CR mX6_has ⟨co_X6_has, init_X6, md_X6_has, by decide, by decide⟩ (ci := 6) (TX := TX6) (N := 5) rfl (by decide) ml_X0_36 im_X6_has se_X6_has dX0_agrees_72 (x_if_eq C (hn 82) dX0_agrees_75 (by decide) (hn 78))))))))))))))))))))))))))))))))))))))
set_option maxRecDepth 20000 in
theorem oX0_agrees_78 {T : Ct} {Q : Option Value → MM → Prop} (C : Cx T cX0_agrees 1 RX0 0 0) (CR : CxR T 1 21) (hr : T.2.2.2.2.2.2.2.2.1.sig.returnType = (some .boolean)) (hnm : T.2.2.2.2.2.2.2.2.1.name = "agrees") {nx : Nat → Kt} (hn : ∀ pc, Sd T 1 (QT T Q 0 0) 0 0 pc (nx pc)) : Sd T 1 (QT T Q 0 0) 0 0 78 (bX0_agrees_78 Q nx) := x_ic C dX0_agrees_78 (by decide) (x_goto C (hn 83) dX0_agrees_79 (by decide))
set_option maxRecDepth 20000 in
theorem oX0_agrees_82 {T : Ct} {Q : Option Value → MM → Prop} (C : Cx T cX0_agrees 1 RX0 0 0) (CR : CxR T 1 21) (hr : T.2.2.2.2.2.2.2.2.1.sig.returnType = (some .boolean)) (hnm : T.2.2.2.2.2.2.2.2.1.name = "agrees") {nx : Nat → Kt} (hn : ∀ pc, Sd T 1 (QT T Q 0 0) 0 0 pc (nx pc)) : Sd T 1 (QT T Q 0 0) 0 0 82 (bX0_agrees_82 Q nx) := x_ic C dX0_agrees_82 (by decide) (hn 83)
set_option maxRecDepth 20000 in
theorem oX0_agrees_83 {T : Ct} {Q : Option Value → MM → Prop} (C : Cx T cX0_agrees 1 RX0 0 0) (CR : CxR T 1 21) (hr : T.2.2.2.2.2.2.2.2.1.sig.returnType = (some .boolean)) (hnm : T.2.2.2.2.2.2.2.2.1.name = "agrees") {nx : Nat → Kt} (hn : ∀ pc, Sd T 1 (QT T Q 0 0) 0 0 pc (nx pc)) : Sd T 1 (QT T Q 0 0) 0 0 83 (bX0_agrees_83 Q nx) := x_rZ C hr dX0_agrees_83
set_option maxRecDepth 20000 in
theorem mX0_agrees (l : Launch) (D : va_G) (cA : Nat → ClassId) (base : Nat) : Mc l D cA base yX0_agrees cX0_agrees 1 (some .boolean) rX0_agrees wX0_agrees := mc_of (by decide +kernel) kX0_agrees (fun T Q C CR hr hnm nx hn => bse_ok _ (List.forall_mem_cons.mpr ⟨oX0_agrees_0 C CR hr hnm hn, List.forall_mem_cons.mpr ⟨oX0_agrees_78 C CR hr hnm hn, List.forall_mem_cons.mpr ⟨oX0_agrees_82 C CR hr hnm hn, List.forall_mem_cons.mpr ⟨oX0_agrees_83 C CR hr hnm hn, fun _ h => nomatch h⟩⟩⟩⟩))
theorem dX0_isInGroupOf_0 : decode cX0_isInGroupOf 0 = .ok (.aload_n 0, 1) := by decide +kernel
theorem dX0_isInGroupOf_1 : decode cX0_isInGroupOf 1 = .ok (.invokevirtual 28, 3) := by decide +kernel
theorem dX0_isInGroupOf_4 : decode cX0_isInGroupOf 4 = .ok (.ifCond .eq 68, 3) := by decide +kernel
theorem dX0_isInGroupOf_7 : decode cX0_isInGroupOf 7 = .ok (.aload_n 1, 1) := by decide +kernel
theorem dX0_isInGroupOf_8 : decode cX0_isInGroupOf 8 = .ok (.invokevirtual 28, 3) := by decide +kernel
theorem dX0_isInGroupOf_11 : decode cX0_isInGroupOf 11 = .ok (.ifCond .eq 61, 3) := by decide +kernel
theorem dX0_isInGroupOf_14 : decode cX0_isInGroupOf 14 = .ok (.aload_n 0, 1) := by decide +kernel
theorem dX0_isInGroupOf_15 : decode cX0_isInGroupOf 15 = .ok (.getfield 11, 3) := by decide +kernel
theorem dX0_isInGroupOf_18 : decode cX0_isInGroupOf 18 = .ok (.iconst 0, 1) := by decide +kernel
theorem dX0_isInGroupOf_19 : decode cX0_isInGroupOf 19 = .ok (.aaload, 1) := by decide +kernel
theorem dX0_isInGroupOf_20 : decode cX0_isInGroupOf 20 = .ok (.getfield 32, 3) := by decide +kernel
theorem dX0_isInGroupOf_23 : decode cX0_isInGroupOf 23 = .ok (.getfield 42, 3) := by decide +kernel
theorem dX0_isInGroupOf_26 : decode cX0_isInGroupOf 26 = .ok (.aload_n 1, 1) := by decide +kernel
theorem dX0_isInGroupOf_27 : decode cX0_isInGroupOf 27 = .ok (.getfield 11, 3) := by decide +kernel
theorem dX0_isInGroupOf_30 : decode cX0_isInGroupOf 30 = .ok (.iconst 0, 1) := by decide +kernel
theorem dX0_isInGroupOf_31 : decode cX0_isInGroupOf 31 = .ok (.aaload, 1) := by decide +kernel
theorem dX0_isInGroupOf_32 : decode cX0_isInGroupOf 32 = .ok (.getfield 32, 3) := by decide +kernel
theorem dX0_isInGroupOf_35 : decode cX0_isInGroupOf 35 = .ok (.getfield 42, 3) := by decide +kernel
theorem dX0_isInGroupOf_38 : decode cX0_isInGroupOf 38 = .ok (.if_icmp .ne 34, 3) := by decide +kernel
theorem dX0_isInGroupOf_41 : decode cX0_isInGroupOf 41 = .ok (.aload_n 0, 1) := by decide +kernel
theorem dX0_isInGroupOf_42 : decode cX0_isInGroupOf 42 = .ok (.getfield 11, 3) := by decide +kernel
theorem dX0_isInGroupOf_45 : decode cX0_isInGroupOf 45 = .ok (.iconst 1, 1) := by decide +kernel
theorem dX0_isInGroupOf_46 : decode cX0_isInGroupOf 46 = .ok (.aaload, 1) := by decide +kernel
theorem dX0_isInGroupOf_47 : decode cX0_isInGroupOf 47 = .ok (.getfield 32, 3) := by decide +kernel
theorem dX0_isInGroupOf_50 : decode cX0_isInGroupOf 50 = .ok (.getfield 42, 3) := by decide +kernel
theorem dX0_isInGroupOf_53 : decode cX0_isInGroupOf 53 = .ok (.aload_n 1, 1) := by decide +kernel
theorem dX0_isInGroupOf_54 : decode cX0_isInGroupOf 54 = .ok (.getfield 11, 3) := by decide +kernel
theorem dX0_isInGroupOf_57 : decode cX0_isInGroupOf 57 = .ok (.iconst 1, 1) := by decide +kernel
theorem dX0_isInGroupOf_58 : decode cX0_isInGroupOf 58 = .ok (.aaload, 1) := by decide +kernel
theorem dX0_isInGroupOf_59 : decode cX0_isInGroupOf 59 = .ok (.getfield 32, 3) := by decide +kernel
theorem dX0_isInGroupOf_62 : decode cX0_isInGroupOf 62 = .ok (.getfield 42, 3) := by decide +kernel
theorem dX0_isInGroupOf_65 : decode cX0_isInGroupOf 65 = .ok (.if_icmp .ne 7, 3) := by decide +kernel
theorem dX0_isInGroupOf_68 : decode cX0_isInGroupOf 68 = .ok (.iconst 1, 1) := by decide +kernel
theorem dX0_isInGroupOf_69 : decode cX0_isInGroupOf 69 = .ok (.goto 4, 3) := by decide +kernel
theorem dX0_isInGroupOf_72 : decode cX0_isInGroupOf 72 = .ok (.iconst 0, 1) := by decide +kernel
theorem dX0_isInGroupOf_73 : decode cX0_isInGroupOf 73 = .ok (.ireturn, 1) := by decide +kernel
noncomputable def bX0_isInGroupOf_0 (Q : Option Value → MM → Prop) (nx : Nat → Kt) : Kt := ldA 0 (cV 0 0 wX0_isPlugged 0 0 0 0 (ifz (fun x => x = 0) (nx 72) (ldA 1 (cV 0 0 wX0_isPlugged 0 0 0 0 (ifz (fun x => x = 0) (nx 72) (ldA 0 (gR 0 0 (cI 0 (aR 17 (gR 5 0 (gI 6 1 (ldA 1 (gR 0 0 (cI 0 (aR 17 (gR 5 0 (gI 6 1 (ifc (fun x y => x = y) (ldA 0 (gR 0 0 (cI 1 (aR 17 (gR 5 0 (gI 6 1 (ldA 1 (gR 0 0 (cI 1 (aR 17 (gR 5 0 (gI 6 1 (ifc (fun x y => x = y) (cI 1 (nx 73)) (nx 72)))))))))))))) (nx 72)))))))))))))))))))
noncomputable def bX0_isInGroupOf_72 (Q : Option Value → MM → Prop) (nx : Nat → Kt) : Kt := cI 0 (nx 73)
noncomputable def bX0_isInGroupOf_73 (Q : Option Value → MM → Prop) (nx : Nat → Kt) : Kt := rZ Q
noncomputable def kX0_isInGroupOf (Q : Option Value → MM → Prop) (nx : Nat → Kt) : Nat → Kt := bse [(0, bX0_isInGroupOf_0 Q nx), (72, bX0_isInGroupOf_72 Q nx), (73, bX0_isInGroupOf_73 Q nx)]
abbrev rX0_isInGroupOf : Room := { frames := 1, cells := 0, slots := 0, locals := 20 }
noncomputable def wX0_isInGroupOf : Mw := mw 2 kX0_isInGroupOf
set_option maxRecDepth 20000 in
theorem oX0_isInGroupOf_0 {T : Ct} {Q : Option Value → MM → Prop} (C : Cx T cX0_isInGroupOf 2 RX0 0 0) (CR : CxR T 1 20) (hr : T.2.2.2.2.2.2.2.2.1.sig.returnType = (some .boolean)) (hnm : T.2.2.2.2.2.2.2.2.1.name = "isInGroupOf") {nx : Nat → Kt} (hn : ∀ pc, Sd T 2 (QT T Q 0 0) 0 0 pc (nx pc)) : Sd T 2 (QT T Q 0 0) 0 0 0 (bX0_isInGroupOf_0 Q nx) := x_al_n C dX0_isInGroupOf_0 rfl (x_cV C CR mX0_isPlugged ⟨co_X0_isPlugged, init_X0, md_X0_isPlugged, by decide, by decide⟩ (ci := 0) (TX := TX0) (N := 5) rfl (by decide) ml_X0_28 im_X0_isPlugged se_X0_isPlugged dX0_isInGroupOf_1 (x_if_eq C (hn 72) dX0_isInGroupOf_4 (by decide) (x_al_n C dX0_isInGroupOf_7 rfl (x_cV C CR mX0_isPlugged ⟨co_X0_isPlugged, init_X0, md_X0_isPlugged, by decide, by decide⟩ (ci := 0) (TX := TX0) (N := 5) rfl (by decide) ml_X0_28 im_X0_isPlugged se_X0_isPlugged dX0_isInGroupOf_8 (x_if_eq C (hn 72) dX0_isInGroupOf_11 (by decide) (x_al_n C dX0_isInGroupOf_14 rfl (gf_X0_11 C dX0_isInGroupOf_15 (x_ic C dX0_isInGroupOf_18 (by decide) (x_aald C (kd := 17) (t0 := 7) (by decide) (by decide) (fun _ => rfl) dX0_isInGroupOf_19 (gf_X0_32 C dX0_isInGroupOf_20 (gf_X0_42 C dX0_isInGroupOf_23 (x_al_n C dX0_isInGroupOf_26 rfl (gf_X0_11 C dX0_isInGroupOf_27 (x_ic C dX0_isInGroupOf_30 (by decide) (x_aald C (kd := 17) (t0 := 7) (by decide) (by decide) (fun _ => rfl) dX0_isInGroupOf_31 (gf_X0_32 C dX0_isInGroupOf_32 (gf_X0_42 C dX0_isInGroupOf_35 (x_ic_ne C (hn 72) dX0_isInGroupOf_38 (by decide) (x_al_n C dX0_isInGroupOf_41 rfl (gf_X0_11 C dX0_isInGroupOf_42 (x_ic C dX0_isInGroupOf_45 (by decide) (x_aald C (kd := 17) (t0 := 7) (by decide) (by decide) (fun _ => rfl) dX0_isInGroupOf_46 (gf_X0_32 C dX0_isInGroupOf_47 (gf_X0_42 C dX0_isInGroupOf_50 (x_al_n C dX0_isInGroupOf_53 rfl (gf_X0_11 C dX0_isInGroupOf_54 (x_ic C dX0_isInGroupOf_57 (by decide) (x_aald C (kd := 17) (t0 := 7) (by decide) (by decide) (fun _ => rfl) dX0_isInGroupOf_58 (gf_X0_32 C dX0_isInGroupOf_59 (gf_X0_42 C dX0_isInGroupOf_62 (x_ic_ne C (hn 72) dX0_isInGroupOf_65 (by decide) (x_ic C dX0_isInGroupOf_68 (by decide) (x_goto C (hn 73) dX0_isInGroupOf_69 (by decide))))))))))))))))))))))))))))))))))
set_option maxRecDepth 20000 in
theorem oX0_isInGroupOf_72 {T : Ct} {Q : Option Value → MM → Prop} (C : Cx T cX0_isInGroupOf 2 RX0 0 0) (CR : CxR T 1 20) (hr : T.2.2.2.2.2.2.2.2.1.sig.returnType = (some .boolean)) (hnm : T.2.2.2.2.2.2.2.2.1.name = "isInGroupOf") {nx : Nat → Kt} (hn : ∀ pc, Sd T 2 (QT T Q 0 0) 0 0 pc (nx pc)) : Sd T 2 (QT T Q 0 0) 0 0 72 (bX0_isInGroupOf_72 Q nx) := x_ic C dX0_isInGroupOf_72 (by decide) (hn 73)
set_option maxRecDepth 20000 in
theorem oX0_isInGroupOf_73 {T : Ct} {Q : Option Value → MM → Prop} (C : Cx T cX0_isInGroupOf 2 RX0 0 0) (CR : CxR T 1 20) (hr : T.2.2.2.2.2.2.2.2.1.sig.returnType = (some .boolean)) (hnm : T.2.2.2.2.2.2.2.2.1.name = "isInGroupOf") {nx : Nat → Kt} (hn : ∀ pc, Sd T 2 (QT T Q 0 0) 0 0 pc (nx pc)) : Sd T 2 (QT T Q 0 0) 0 0 73 (bX0_isInGroupOf_73 Q nx) := x_rZ C hr dX0_isInGroupOf_73
set_option maxRecDepth 20000 in
theorem mX0_isInGroupOf (l : Launch) (D : va_G) (cA : Nat → ClassId) (base : Nat) : Mc l D cA base yX0_isInGroupOf cX0_isInGroupOf 2 (some .boolean) rX0_isInGroupOf wX0_isInGroupOf := mc_of (by decide +kernel) kX0_isInGroupOf (fun T Q C CR hr hnm nx hn => bse_ok _ (List.forall_mem_cons.mpr ⟨oX0_isInGroupOf_0 C CR hr hnm hn, List.forall_mem_cons.mpr ⟨oX0_isInGroupOf_72 C CR hr hnm hn, List.forall_mem_cons.mpr ⟨oX0_isInGroupOf_73 C CR hr hnm hn, fun _ h => nomatch h⟩⟩⟩))
theorem dX0_isSettled_0 : decode cX0_isSettled 0 = .ok (.aload_n 0, 1) := by decide +kernel
theorem dX0_isSettled_1 : decode cX0_isSettled 1 = .ok (.invokevirtual 28, 3) := by decide +kernel
theorem dX0_isSettled_4 : decode cX0_isSettled 4 = .ok (.ifCond .eq 53, 3) := by decide +kernel
theorem dX0_isSettled_7 : decode cX0_isSettled 7 = .ok (.aload_n 0, 1) := by decide +kernel
theorem dX0_isSettled_8 : decode cX0_isSettled 8 = .ok (.getfield 11, 3) := by decide +kernel
theorem dX0_isSettled_11 : decode cX0_isSettled 11 = .ok (.iconst 0, 1) := by decide +kernel
theorem dX0_isSettled_12 : decode cX0_isSettled 12 = .ok (.aaload, 1) := by decide +kernel
theorem dX0_isSettled_13 : decode cX0_isSettled 13 = .ok (.getfield 46, 3) := by decide +kernel
theorem dX0_isSettled_16 : decode cX0_isSettled 16 = .ok (.iconst 4, 1) := by decide +kernel
theorem dX0_isSettled_17 : decode cX0_isSettled 17 = .ok (.if_icmp .ne 7, 3) := by decide +kernel
theorem dX0_isSettled_20 : decode cX0_isSettled 20 = .ok (.iconst 1, 1) := by decide +kernel
theorem dX0_isSettled_21 : decode cX0_isSettled 21 = .ok (.goto 4, 3) := by decide +kernel
theorem dX0_isSettled_24 : decode cX0_isSettled 24 = .ok (.iconst 0, 1) := by decide +kernel
theorem dX0_isSettled_25 : decode cX0_isSettled 25 = .ok (.aload_n 0, 1) := by decide +kernel
theorem dX0_isSettled_26 : decode cX0_isSettled 26 = .ok (.getfield 49, 3) := by decide +kernel
theorem dX0_isSettled_29 : decode cX0_isSettled 29 = .ok (.if_icmp .ne 32, 3) := by decide +kernel
theorem dX0_isSettled_32 : decode cX0_isSettled 32 = .ok (.aload_n 0, 1) := by decide +kernel
theorem dX0_isSettled_33 : decode cX0_isSettled 33 = .ok (.getfield 11, 3) := by decide +kernel
theorem dX0_isSettled_36 : decode cX0_isSettled 36 = .ok (.iconst 1, 1) := by decide +kernel
theorem dX0_isSettled_37 : decode cX0_isSettled 37 = .ok (.aaload, 1) := by decide +kernel
theorem dX0_isSettled_38 : decode cX0_isSettled 38 = .ok (.getfield 46, 3) := by decide +kernel
theorem dX0_isSettled_41 : decode cX0_isSettled 41 = .ok (.iconst 4, 1) := by decide +kernel
theorem dX0_isSettled_42 : decode cX0_isSettled 42 = .ok (.if_icmp .ne 7, 3) := by decide +kernel
theorem dX0_isSettled_45 : decode cX0_isSettled 45 = .ok (.iconst 1, 1) := by decide +kernel
theorem dX0_isSettled_46 : decode cX0_isSettled 46 = .ok (.goto 4, 3) := by decide +kernel
theorem dX0_isSettled_49 : decode cX0_isSettled 49 = .ok (.iconst 0, 1) := by decide +kernel
theorem dX0_isSettled_50 : decode cX0_isSettled 50 = .ok (.aload_n 0, 1) := by decide +kernel
theorem dX0_isSettled_51 : decode cX0_isSettled 51 = .ok (.getfield 49, 3) := by decide +kernel
theorem dX0_isSettled_54 : decode cX0_isSettled 54 = .ok (.if_icmp .ne 7, 3) := by decide +kernel
theorem dX0_isSettled_57 : decode cX0_isSettled 57 = .ok (.iconst 1, 1) := by decide +kernel
theorem dX0_isSettled_58 : decode cX0_isSettled 58 = .ok (.goto 4, 3) := by decide +kernel
theorem dX0_isSettled_61 : decode cX0_isSettled 61 = .ok (.iconst 0, 1) := by decide +kernel
theorem dX0_isSettled_62 : decode cX0_isSettled 62 = .ok (.ireturn, 1) := by decide +kernel
noncomputable def bX0_isSettled_0 (Q : Option Value → MM → Prop) (nx : Nat → Kt) : Kt := ldA 0 (cV 0 0 wX0_isPlugged 0 0 0 0 (ifz (fun x => x = 0) (nx 57) (ldA 0 (gR 0 0 (cI 0 (aR 17 (gI 5 5 (cI 4 (ifc (fun x y => x = y) (cI 1 (nx 25)) (nx 24))))))))))
noncomputable def bX0_isSettled_24 (Q : Option Value → MM → Prop) (nx : Nat → Kt) : Kt := cI 0 (nx 25)
noncomputable def bX0_isSettled_25 (Q : Option Value → MM → Prop) (nx : Nat → Kt) : Kt := ldA 0 (gI 0 4 (ifc (fun x y => x = y) (ldA 0 (gR 0 0 (cI 1 (aR 17 (gI 5 5 (cI 4 (ifc (fun x y => x = y) (cI 1 (nx 50)) (nx 49)))))))) (nx 61)))
noncomputable def bX0_isSettled_49 (Q : Option Value → MM → Prop) (nx : Nat → Kt) : Kt := cI 0 (nx 50)
noncomputable def bX0_isSettled_50 (Q : Option Value → MM → Prop) (nx : Nat → Kt) : Kt := ldA 0 (gI 0 4 (ifc (fun x y => x = y) (nx 57) (nx 61)))
noncomputable def bX0_isSettled_57 (Q : Option Value → MM → Prop) (nx : Nat → Kt) : Kt := cI 1 (nx 62)
noncomputable def bX0_isSettled_61 (Q : Option Value → MM → Prop) (nx : Nat → Kt) : Kt := cI 0 (nx 62)
noncomputable def bX0_isSettled_62 (Q : Option Value → MM → Prop) (nx : Nat → Kt) : Kt := rZ Q
noncomputable def kX0_isSettled (Q : Option Value → MM → Prop) (nx : Nat → Kt) : Nat → Kt := bse [(0, bX0_isSettled_0 Q nx), (24, bX0_isSettled_24 Q nx), (25, bX0_isSettled_25 Q nx), (49, bX0_isSettled_49 Q nx), (50, bX0_isSettled_50 Q nx), (57, bX0_isSettled_57 Q nx), (61, bX0_isSettled_61 Q nx), (62, bX0_isSettled_62 Q nx)]
abbrev rX0_isSettled : Room := { frames := 1, cells := 0, slots := 0, locals := 20 }
noncomputable def wX0_isSettled : Mw := mw 1 kX0_isSettled
set_option maxRecDepth 20000 in
theorem oX0_isSettled_0 {T : Ct} {Q : Option Value → MM → Prop} (C : Cx T cX0_isSettled 1 RX0 0 0) (CR : CxR T 1 20) (hr : T.2.2.2.2.2.2.2.2.1.sig.returnType = (some .boolean)) (hnm : T.2.2.2.2.2.2.2.2.1.name = "isSettled") {nx : Nat → Kt} (hn : ∀ pc, Sd T 1 (QT T Q 0 0) 0 0 pc (nx pc)) : Sd T 1 (QT T Q 0 0) 0 0 0 (bX0_isSettled_0 Q nx) := x_al_n C dX0_isSettled_0 rfl (x_cV C CR mX0_isPlugged ⟨co_X0_isPlugged, init_X0, md_X0_isPlugged, by decide, by decide⟩ (ci := 0) (TX := TX0) (N := 5) rfl (by decide) ml_X0_28 im_X0_isPlugged se_X0_isPlugged dX0_isSettled_1 (x_if_eq C (hn 57) dX0_isSettled_4 (by decide) (x_al_n C dX0_isSettled_7 rfl (gf_X0_11 C dX0_isSettled_8 (x_ic C dX0_isSettled_11 (by decide) (x_aald C (kd := 17) (t0 := 7) (by decide) (by decide) (fun _ => rfl) dX0_isSettled_12 (gf_X0_46 C dX0_isSettled_13 (x_ic C dX0_isSettled_16 (by decide) (x_ic_ne C (hn 24) dX0_isSettled_17 (by decide) (x_ic C dX0_isSettled_20 (by decide) (x_goto C (hn 25) dX0_isSettled_21 (by decide))))))))))))
set_option maxRecDepth 20000 in
theorem oX0_isSettled_24 {T : Ct} {Q : Option Value → MM → Prop} (C : Cx T cX0_isSettled 1 RX0 0 0) (CR : CxR T 1 20) (hr : T.2.2.2.2.2.2.2.2.1.sig.returnType = (some .boolean)) (hnm : T.2.2.2.2.2.2.2.2.1.name = "isSettled") {nx : Nat → Kt} (hn : ∀ pc, Sd T 1 (QT T Q 0 0) 0 0 pc (nx pc)) : Sd T 1 (QT T Q 0 0) 0 0 24 (bX0_isSettled_24 Q nx) := x_ic C dX0_isSettled_24 (by decide) (hn 25)
set_option maxRecDepth 20000 in
theorem oX0_isSettled_25 {T : Ct} {Q : Option Value → MM → Prop} (C : Cx T cX0_isSettled 1 RX0 0 0) (CR : CxR T 1 20) (hr : T.2.2.2.2.2.2.2.2.1.sig.returnType = (some .boolean)) (hnm : T.2.2.2.2.2.2.2.2.1.name = "isSettled") {nx : Nat → Kt} (hn : ∀ pc, Sd T 1 (QT T Q 0 0) 0 0 pc (nx pc)) : Sd T 1 (QT T Q 0 0) 0 0 25 (bX0_isSettled_25 Q nx) := x_al_n C dX0_isSettled_25 rfl (gf_X0_49 C dX0_isSettled_26 (x_ic_ne C (hn 61) dX0_isSettled_29 (by decide) (x_al_n C dX0_isSettled_32 rfl (gf_X0_11 C dX0_isSettled_33 (x_ic C dX0_isSettled_36 (by decide) (x_aald C (kd := 17) (t0 := 7) (by decide) (by decide) (fun _ => rfl) dX0_isSettled_37 (gf_X0_46 C dX0_isSettled_38 (x_ic C dX0_isSettled_41 (by decide) (x_ic_ne C (hn 49) dX0_isSettled_42 (by decide) (x_ic C dX0_isSettled_45 (by decide) (x_goto C (hn 50) dX0_isSettled_46 (by decide))))))))))))
set_option maxRecDepth 20000 in
theorem oX0_isSettled_49 {T : Ct} {Q : Option Value → MM → Prop} (C : Cx T cX0_isSettled 1 RX0 0 0) (CR : CxR T 1 20) (hr : T.2.2.2.2.2.2.2.2.1.sig.returnType = (some .boolean)) (hnm : T.2.2.2.2.2.2.2.2.1.name = "isSettled") {nx : Nat → Kt} (hn : ∀ pc, Sd T 1 (QT T Q 0 0) 0 0 pc (nx pc)) : Sd T 1 (QT T Q 0 0) 0 0 49 (bX0_isSettled_49 Q nx) := x_ic C dX0_isSettled_49 (by decide) (hn 50)
set_option maxRecDepth 20000 in
theorem oX0_isSettled_50 {T : Ct} {Q : Option Value → MM → Prop} (C : Cx T cX0_isSettled 1 RX0 0 0) (CR : CxR T 1 20) (hr : T.2.2.2.2.2.2.2.2.1.sig.returnType = (some .boolean)) (hnm : T.2.2.2.2.2.2.2.2.1.name = "isSettled") {nx : Nat → Kt} (hn : ∀ pc, Sd T 1 (QT T Q 0 0) 0 0 pc (nx pc)) : Sd T 1 (QT T Q 0 0) 0 0 50 (bX0_isSettled_50 Q nx) := x_al_n C dX0_isSettled_50 rfl (gf_X0_49 C dX0_isSettled_51 (x_ic_ne C (hn 61) dX0_isSettled_54 (by decide) (hn 57)))
set_option maxRecDepth 20000 in
theorem oX0_isSettled_57 {T : Ct} {Q : Option Value → MM → Prop} (C : Cx T cX0_isSettled 1 RX0 0 0) (CR : CxR T 1 20) (hr : T.2.2.2.2.2.2.2.2.1.sig.returnType = (some .boolean)) (hnm : T.2.2.2.2.2.2.2.2.1.name = "isSettled") {nx : Nat → Kt} (hn : ∀ pc, Sd T 1 (QT T Q 0 0) 0 0 pc (nx pc)) : Sd T 1 (QT T Q 0 0) 0 0 57 (bX0_isSettled_57 Q nx) := x_ic C dX0_isSettled_57 (by decide) (x_goto C (hn 62) dX0_isSettled_58 (by decide))
set_option maxRecDepth 20000 in
theorem oX0_isSettled_61 {T : Ct} {Q : Option Value → MM → Prop} (C : Cx T cX0_isSettled 1 RX0 0 0) (CR : CxR T 1 20) (hr : T.2.2.2.2.2.2.2.2.1.sig.returnType = (some .boolean)) (hnm : T.2.2.2.2.2.2.2.2.1.name = "isSettled") {nx : Nat → Kt} (hn : ∀ pc, Sd T 1 (QT T Q 0 0) 0 0 pc (nx pc)) : Sd T 1 (QT T Q 0 0) 0 0 61 (bX0_isSettled_61 Q nx) := x_ic C dX0_isSettled_61 (by decide) (hn 62)
set_option maxRecDepth 20000 in
theorem oX0_isSettled_62 {T : Ct} {Q : Option Value → MM → Prop} (C : Cx T cX0_isSettled 1 RX0 0 0) (CR : CxR T 1 20) (hr : T.2.2.2.2.2.2.2.2.1.sig.returnType = (some .boolean)) (hnm : T.2.2.2.2.2.2.2.2.1.name = "isSettled") {nx : Nat → Kt} (hn : ∀ pc, Sd T 1 (QT T Q 0 0) 0 0 pc (nx pc)) : Sd T 1 (QT T Q 0 0) 0 0 62 (bX0_isSettled_62 Q nx) := x_rZ C hr dX0_isSettled_62
set_option maxRecDepth 20000 in
theorem mX0_isSettled (l : Launch) (D : va_G) (cA : Nat → ClassId) (base : Nat) : Mc l D cA base yX0_isSettled cX0_isSettled 1 (some .boolean) rX0_isSettled wX0_isSettled := mc_of (by decide +kernel) kX0_isSettled (fun T Q C CR hr hnm nx hn => bse_ok _ (List.forall_mem_cons.mpr ⟨oX0_isSettled_0 C CR hr hnm hn, List.forall_mem_cons.mpr ⟨oX0_isSettled_24 C CR hr hnm hn, List.forall_mem_cons.mpr ⟨oX0_isSettled_25 C CR hr hnm hn, List.forall_mem_cons.mpr ⟨oX0_isSettled_49 C CR hr hnm hn, List.forall_mem_cons.mpr ⟨oX0_isSettled_50 C CR hr hnm hn, List.forall_mem_cons.mpr ⟨oX0_isSettled_57 C CR hr hnm hn, List.forall_mem_cons.mpr ⟨oX0_isSettled_61 C CR hr hnm hn, List.forall_mem_cons.mpr ⟨oX0_isSettled_62 C CR hr hnm hn, fun _ h => nomatch h⟩⟩⟩⟩⟩⟩⟩⟩))
