theorem dX1_init_0 : decode cX1_init 0 = .ok (.aload_n 0, 1) := by decide +kernel
theorem dX1_init_1 : decode cX1_init 1 = .ok (.invokespecial 3, 3) := by decide +kernel
theorem dX1_init_4 : decode cX1_init 4 = .ok (.aload_n 0, 1) := by decide +kernel
theorem dX1_init_5 : decode cX1_init 5 = .ok (.bipush 8, 2) := by decide +kernel
theorem dX1_init_7 : decode cX1_init 7 = .ok (.anewarray 9, 3) := by decide +kernel
theorem dX1_init_10 : decode cX1_init 10 = .ok (.putfield 11, 3) := by decide +kernel
theorem dX1_init_13 : decode cX1_init 13 = .ok (.aload_n 0, 1) := by decide +kernel
theorem dX1_init_14 : decode cX1_init 14 = .ok (.bipush 8, 2) := by decide +kernel
theorem dX1_init_16 : decode cX1_init 16 = .ok (.putfield 17, 3) := by decide +kernel
theorem dX1_init_19 : decode cX1_init 19 = .ok (.aload_n 0, 1) := by decide +kernel
theorem dX1_init_20 : decode cX1_init 20 = .ok (.sipush 200, 3) := by decide +kernel
theorem dX1_init_23 : decode cX1_init 23 = .ok (.newarray .int, 2) := by decide +kernel
theorem dX1_init_25 : decode cX1_init 25 = .ok (.putfield 21, 3) := by decide +kernel
theorem dX1_init_28 : decode cX1_init 28 = .ok (.aload_n 0, 1) := by decide +kernel
theorem dX1_init_29 : decode cX1_init 29 = .ok (.iload_n 1, 1) := by decide +kernel
theorem dX1_init_30 : decode cX1_init 30 = .ok (.putfield 25, 3) := by decide +kernel
theorem dX1_init_33 : decode cX1_init 33 = .ok (.iconst 0, 1) := by decide +kernel
theorem dX1_init_34 : decode cX1_init 34 = .ok (.istore_n 2, 1) := by decide +kernel
theorem dX1_init_35 : decode cX1_init 35 = .ok (.iload_n 2, 1) := by decide +kernel
theorem dX1_init_36 : decode cX1_init 36 = .ok (.bipush 8, 2) := by decide +kernel
theorem dX1_init_38 : decode cX1_init 38 = .ok (.if_icmp .ge 49, 3) := by decide +kernel
theorem dX1_init_41 : decode cX1_init 41 = .ok (.new 9, 3) := by decide +kernel
theorem dX1_init_44 : decode cX1_init 44 = .ok (.dup, 1) := by decide +kernel
theorem dX1_init_45 : decode cX1_init 45 = .ok (.invokespecial 28, 3) := by decide +kernel
theorem dX1_init_48 : decode cX1_init 48 = .ok (.astore_n 3, 1) := by decide +kernel
theorem dX1_init_49 : decode cX1_init 49 = .ok (.aload_n 3, 1) := by decide +kernel
theorem dX1_init_50 : decode cX1_init 50 = .ok (.getfield 29, 3) := by decide +kernel
theorem dX1_init_53 : decode cX1_init 53 = .ok (.iload_n 1, 1) := by decide +kernel
theorem dX1_init_54 : decode cX1_init 54 = .ok (.putfield 33, 3) := by decide +kernel
theorem dX1_init_57 : decode cX1_init 57 = .ok (.aload_n 3, 1) := by decide +kernel
theorem dX1_init_58 : decode cX1_init 58 = .ok (.getfield 29, 3) := by decide +kernel
theorem dX1_init_61 : decode cX1_init 61 = .ok (.bipush 100, 2) := by decide +kernel
theorem dX1_init_63 : decode cX1_init 63 = .ok (.putfield 36, 3) := by decide +kernel
theorem dX1_init_66 : decode cX1_init 66 = .ok (.aload_n 3, 1) := by decide +kernel
theorem dX1_init_67 : decode cX1_init 67 = .ok (.getfield 29, 3) := by decide +kernel
theorem dX1_init_70 : decode cX1_init 70 = .ok (.iload_n 2, 1) := by decide +kernel
theorem dX1_init_71 : decode cX1_init 71 = .ok (.putfield 39, 3) := by decide +kernel
theorem dX1_init_74 : decode cX1_init 74 = .ok (.aload_n 0, 1) := by decide +kernel
theorem dX1_init_75 : decode cX1_init 75 = .ok (.getfield 11, 3) := by decide +kernel
theorem dX1_init_78 : decode cX1_init 78 = .ok (.iload_n 2, 1) := by decide +kernel
theorem dX1_init_79 : decode cX1_init 79 = .ok (.aload_n 3, 1) := by decide +kernel
theorem dX1_init_80 : decode cX1_init 80 = .ok (.aastore, 1) := by decide +kernel
theorem dX1_init_81 : decode cX1_init 81 = .ok (.iinc 2 1, 3) := by decide +kernel
theorem dX1_init_84 : decode cX1_init 84 = .ok (.goto (-49), 3) := by decide +kernel
theorem dX1_init_87 : decode cX1_init 87 = .ok (.return_, 1) := by decide +kernel
noncomputable def bX1_init_0 (Q : Option Value → MM → Prop) (nx : Nat → Kt) : Kt := ldA 0 (oI (ldA 0 (cI 8 (nA 17 34 472 (tF 1 0 (ldA 0 (cI 8 (tI 1 2 (ldA 0 (cI 200 (nA 10 34 472 (tF 1 4 (ldA 0 (ldI 1 (tI 1 1 (cI 0 (stI 2 (nx 35))))))))))))))))))
noncomputable def bX1_init_35 (Q : Option Value → MM → Prop) (nx : Nat → Kt) : Kt := ldI 2 (cI 8 (ifc (fun x y => y ≤ x) (nx 87) (nO 5 34 472 (du (cC 0 wX5_init 3 15 34 472 (stA 3 (ldA 3 (gR 5 0 (ldI 1 (tI 6 0 (ldA 3 (gR 5 0 (cI 100 (tI 6 2 (ldA 3 (gR 5 0 (ldI 2 (tI 6 3 (ldA 0 (gR 1 0 (ldI 2 (ldA 3 (sAR 5 (inc 2 1 (nx 35)))))))))))))))))))))))))
noncomputable def bX1_init_87 (Q : Option Value → MM → Prop) (nx : Nat → Kt) : Kt := rV Q
noncomputable def kX1_init (Q : Option Value → MM → Prop) (nx : Nat → Kt) : Nat → Kt := bse [(0, bX1_init_0 Q nx), (35, bX1_init_35 Q nx), (87, bX1_init_87 Q nx)]
abbrev rX1_init : Room := { frames := 3, cells := 34, slots := 472, locals := 60 }
noncomputable def wX1_init : Mw := mw 4 kX1_init
set_option maxRecDepth 20000 in
theorem oX1_init_0 {T : Ct} {Q : Option Value → MM → Prop} (C : Cx T cX1_init 4 RX1 34 472) (CR : CxR T 3 60) (hr : T.2.2.2.2.2.2.2.2.1.sig.returnType = none) (hnm : T.2.2.2.2.2.2.2.2.1.name = "<init>") {nx : Nat → Kt} (hn : ∀ pc, Sd T 4 (QT T Q 34 472) 34 472 pc (nx pc)) : Sd T 4 (QT T Q 34 472) 34 472 0 (bX1_init_0 Q nx) := x_al_n C dX1_init_0 rfl (x_oI C CR (by decide) (by decide) ml_X1_3 im_obj co_obj dX1_init_1 (x_al_n C dX1_init_4 rfl (x_bp C dX1_init_5 (by decide) (af_X1_9 C dX1_init_7 (pf_X1_11 C hnm dX1_init_10 (x_al_n C dX1_init_13 rfl (x_bp C dX1_init_14 (by decide) (pf_X1_17 C dX1_init_16 (x_al_n C dX1_init_19 rfl (x_sp C dX1_init_20 (by decide) (x_newI C ac_int dX1_init_23 (pf_X1_21 C hnm dX1_init_25 (x_al_n C dX1_init_28 rfl (x_il_n C dX1_init_29 rfl (pf_X1_25 C dX1_init_30 (x_ic C dX1_init_33 (by decide) (x_is_n C dX1_init_34 rfl (by decide) (hn 35))))))))))))))))))
set_option maxRecDepth 20000 in
theorem oX1_init_35 {T : Ct} {Q : Option Value → MM → Prop} (C : Cx T cX1_init 4 RX1 34 472) (CR : CxR T 3 60) (hr : T.2.2.2.2.2.2.2.2.1.sig.returnType = none) (hnm : T.2.2.2.2.2.2.2.2.1.name = "<init>") {nx : Nat → Kt} (hn : ∀ pc, Sd T 4 (QT T Q 34 472) 34 472 pc (nx pc)) : Sd T 4 (QT T Q 34 472) 34 472 35 (bX1_init_35 Q nx) := x_il_n C dX1_init_35 rfl (x_bp C dX1_init_36 (by decide) (x_ic_ge C (hn 87) dX1_init_38 (by decide) (nf_X1_9 C dX1_init_41 (x_dup C dX1_init_44 (x_cN C CR mX5_init ⟨co_X5_init, init_X5, md_X5_init, by decide, by decide⟩ (by decide +kernel) im_X5_init rfl dX1_init_45 (x_as_n C dX1_init_48 rfl (by decide) (x_al_n C dX1_init_49 rfl (gf_X1_29 C dX1_init_50 (x_il_n C dX1_init_53 rfl (pf_X1_33 C dX1_init_54 (x_al_n C dX1_init_57 rfl (gf_X1_29 C dX1_init_58 (x_bp C dX1_init_61 (by decide) (pf_X1_36 C dX1_init_63 (x_al_n C dX1_init_66 rfl (gf_X1_29 C dX1_init_67 (x_il_n C dX1_init_70 rfl (pf_X1_39 C dX1_init_71 (x_al_n C dX1_init_74 rfl (gf_X1_11 C dX1_init_75 (x_il_n C dX1_init_78 rfl (x_al_n C dX1_init_79 rfl (x_aast C (ci := 5) (t0 := 7) (TX := TX5) (N := 18) (by decide) rfl (fun _ => rfl) dX1_init_80 (x_inc C dX1_init_81 (by decide) (by decide) (x_goto C (hn 35) dX1_init_84 (by decide))))))))))))))))))))))))))
set_option maxRecDepth 20000 in
theorem oX1_init_87 {T : Ct} {Q : Option Value → MM → Prop} (C : Cx T cX1_init 4 RX1 34 472) (CR : CxR T 3 60) (hr : T.2.2.2.2.2.2.2.2.1.sig.returnType = none) (hnm : T.2.2.2.2.2.2.2.2.1.name = "<init>") {nx : Nat → Kt} (hn : ∀ pc, Sd T 4 (QT T Q 34 472) 34 472 pc (nx pc)) : Sd T 4 (QT T Q 34 472) 34 472 87 (bX1_init_87 Q nx) := x_rV C hr dX1_init_87
set_option maxRecDepth 20000 in
theorem mX1_init (l : Launch) (D : va_G) (cA : Nat → ClassId) (base : Nat) : Mc l D cA base yX1_init cX1_init 4 none rX1_init wX1_init := mc_of (by decide +kernel) kX1_init (fun T Q C CR hr hnm nx hn => bse_ok _ (List.forall_mem_cons.mpr ⟨oX1_init_0 C CR hr hnm hn, List.forall_mem_cons.mpr ⟨oX1_init_35 C CR hr hnm hn, List.forall_mem_cons.mpr ⟨oX1_init_87 C CR hr hnm hn, fun _ h => nomatch h⟩⟩⟩))
theorem dX1_rename_0 : decode cX1_rename 0 = .ok (.aload_n 0, 1) := by decide +kernel
theorem dX1_rename_1 : decode cX1_rename 1 = .ok (.iload_n 1, 1) := by decide +kernel
theorem dX1_rename_2 : decode cX1_rename 2 = .ok (.putfield 25, 3) := by decide +kernel
theorem dX1_rename_5 : decode cX1_rename 5 = .ok (.iconst 0, 1) := by decide +kernel
theorem dX1_rename_6 : decode cX1_rename 6 = .ok (.istore_n 2, 1) := by decide +kernel
theorem dX1_rename_7 : decode cX1_rename 7 = .ok (.iload_n 2, 1) := by decide +kernel
theorem dX1_rename_8 : decode cX1_rename 8 = .ok (.bipush 8, 2) := by decide +kernel
theorem dX1_rename_10 : decode cX1_rename 10 = .ok (.if_icmp .ge 22, 3) := by decide +kernel
theorem dX1_rename_13 : decode cX1_rename 13 = .ok (.aload_n 0, 1) := by decide +kernel
theorem dX1_rename_14 : decode cX1_rename 14 = .ok (.getfield 11, 3) := by decide +kernel
theorem dX1_rename_17 : decode cX1_rename 17 = .ok (.iload_n 2, 1) := by decide +kernel
theorem dX1_rename_18 : decode cX1_rename 18 = .ok (.aaload, 1) := by decide +kernel
theorem dX1_rename_19 : decode cX1_rename 19 = .ok (.getfield 29, 3) := by decide +kernel
theorem dX1_rename_22 : decode cX1_rename 22 = .ok (.iload_n 1, 1) := by decide +kernel
theorem dX1_rename_23 : decode cX1_rename 23 = .ok (.putfield 33, 3) := by decide +kernel
theorem dX1_rename_26 : decode cX1_rename 26 = .ok (.iinc 2 1, 3) := by decide +kernel
theorem dX1_rename_29 : decode cX1_rename 29 = .ok (.goto (-22), 3) := by decide +kernel
theorem dX1_rename_32 : decode cX1_rename 32 = .ok (.return_, 1) := by decide +kernel
noncomputable def bX1_rename_0 (Q : Option Value → MM → Prop) (nx : Nat → Kt) : Kt := ldA 0 (ldI 1 (tI 1 1 (cI 0 (stI 2 (nx 7)))))
noncomputable def bX1_rename_7 (Q : Option Value → MM → Prop) (nx : Nat → Kt) : Kt := ldI 2 (cI 8 (ifc (fun x y => y ≤ x) (nx 32) (ldA 0 (gR 1 0 (ldI 2 (aR 17 (gR 5 0 (ldI 1 (tI 6 0 (inc 2 1 (nx 7)))))))))))
noncomputable def bX1_rename_32 (Q : Option Value → MM → Prop) (nx : Nat → Kt) : Kt := rV Q
noncomputable def kX1_rename (Q : Option Value → MM → Prop) (nx : Nat → Kt) : Nat → Kt := bse [(0, bX1_rename_0 Q nx), (7, bX1_rename_7 Q nx), (32, bX1_rename_32 Q nx)]
abbrev rX1_rename : Room := { frames := 0, cells := 0, slots := 0, locals := 0 }
noncomputable def wX1_rename : Mw := mw 3 kX1_rename
set_option maxRecDepth 20000 in
theorem oX1_rename_0 {T : Ct} {Q : Option Value → MM → Prop} (C : Cx T cX1_rename 3 RX1 0 0) (CR : CxR T 0 0) (hr : T.2.2.2.2.2.2.2.2.1.sig.returnType = none) (hnm : T.2.2.2.2.2.2.2.2.1.name = "rename") {nx : Nat → Kt} (hn : ∀ pc, Sd T 3 (QT T Q 0 0) 0 0 pc (nx pc)) : Sd T 3 (QT T Q 0 0) 0 0 0 (bX1_rename_0 Q nx) := x_al_n C dX1_rename_0 rfl (x_il_n C dX1_rename_1 rfl (pf_X1_25 C dX1_rename_2 (x_ic C dX1_rename_5 (by decide) (x_is_n C dX1_rename_6 rfl (by decide) (hn 7)))))
set_option maxRecDepth 20000 in
theorem oX1_rename_7 {T : Ct} {Q : Option Value → MM → Prop} (C : Cx T cX1_rename 3 RX1 0 0) (CR : CxR T 0 0) (hr : T.2.2.2.2.2.2.2.2.1.sig.returnType = none) (hnm : T.2.2.2.2.2.2.2.2.1.name = "rename") {nx : Nat → Kt} (hn : ∀ pc, Sd T 3 (QT T Q 0 0) 0 0 pc (nx pc)) : Sd T 3 (QT T Q 0 0) 0 0 7 (bX1_rename_7 Q nx) := x_il_n C dX1_rename_7 rfl (x_bp C dX1_rename_8 (by decide) (x_ic_ge C (hn 32) dX1_rename_10 (by decide) (x_al_n C dX1_rename_13 rfl (gf_X1_11 C dX1_rename_14 (x_il_n C dX1_rename_17 rfl (x_aald C (kd := 17) (t0 := 7) (by decide) (by decide) (fun _ => rfl) dX1_rename_18 (gf_X1_29 C dX1_rename_19 (x_il_n C dX1_rename_22 rfl (pf_X1_33 C dX1_rename_23 (x_inc C dX1_rename_26 (by decide) (by decide) (x_goto C (hn 7) dX1_rename_29 (by decide))))))))))))
set_option maxRecDepth 20000 in
theorem oX1_rename_32 {T : Ct} {Q : Option Value → MM → Prop} (C : Cx T cX1_rename 3 RX1 0 0) (CR : CxR T 0 0) (hr : T.2.2.2.2.2.2.2.2.1.sig.returnType = none) (hnm : T.2.2.2.2.2.2.2.2.1.name = "rename") {nx : Nat → Kt} (hn : ∀ pc, Sd T 3 (QT T Q 0 0) 0 0 pc (nx pc)) : Sd T 3 (QT T Q 0 0) 0 0 32 (bX1_rename_32 Q nx) := x_rV C hr dX1_rename_32
set_option maxRecDepth 20000 in
theorem mX1_rename (l : Launch) (D : va_G) (cA : Nat → ClassId) (base : Nat) : Mc l D cA base yX1_rename cX1_rename 3 none rX1_rename wX1_rename := mc_of (by decide +kernel) kX1_rename (fun T Q C CR hr hnm nx hn => bse_ok _ (List.forall_mem_cons.mpr ⟨oX1_rename_0 C CR hr hnm hn, List.forall_mem_cons.mpr ⟨oX1_rename_7 C CR hr hnm hn, List.forall_mem_cons.mpr ⟨oX1_rename_32 C CR hr hnm hn, fun _ h => nomatch h⟩⟩⟩))
theorem dX1_keep_0 : decode cX1_keep 0 = .ok (.aload_n 0, 1) := by decide +kernel
theorem dX1_keep_1 : decode cX1_keep 1 = .ok (.getfield 42, 3) := by decide +kernel
theorem dX1_keep_4 : decode cX1_keep 4 = .ok (.iconst 4, 1) := by decide +kernel
theorem dX1_keep_5 : decode cX1_keep 5 = .ok (.imul, 1) := by decide +kernel
theorem dX1_keep_6 : decode cX1_keep 6 = .ok (.istore 4, 2) := by decide +kernel
theorem dX1_keep_8 : decode cX1_keep 8 = .ok (.aload_n 0, 1) := by decide +kernel
theorem dX1_keep_9 : decode cX1_keep 9 = .ok (.getfield 21, 3) := by decide +kernel
theorem dX1_keep_12 : decode cX1_keep 12 = .ok (.iload 4, 2) := by decide +kernel
theorem dX1_keep_14 : decode cX1_keep 14 = .ok (.iload_n 2, 1) := by decide +kernel
theorem dX1_keep_15 : decode cX1_keep 15 = .ok (.iastore, 1) := by decide +kernel
theorem dX1_keep_16 : decode cX1_keep 16 = .ok (.aload_n 0, 1) := by decide +kernel
theorem dX1_keep_17 : decode cX1_keep 17 = .ok (.getfield 21, 3) := by decide +kernel
theorem dX1_keep_20 : decode cX1_keep 20 = .ok (.iload 4, 2) := by decide +kernel
theorem dX1_keep_22 : decode cX1_keep 22 = .ok (.iconst 1, 1) := by decide +kernel
theorem dX1_keep_23 : decode cX1_keep 23 = .ok (.iadd, 1) := by decide +kernel
theorem dX1_keep_24 : decode cX1_keep 24 = .ok (.aload_n 1, 1) := by decide +kernel
theorem dX1_keep_25 : decode cX1_keep 25 = .ok (.getfield 45, 3) := by decide +kernel
theorem dX1_keep_28 : decode cX1_keep 28 = .ok (.iastore, 1) := by decide +kernel
theorem dX1_keep_29 : decode cX1_keep 29 = .ok (.aload_n 0, 1) := by decide +kernel
theorem dX1_keep_30 : decode cX1_keep 30 = .ok (.getfield 21, 3) := by decide +kernel
theorem dX1_keep_33 : decode cX1_keep 33 = .ok (.iload 4, 2) := by decide +kernel
theorem dX1_keep_35 : decode cX1_keep 35 = .ok (.iconst 2, 1) := by decide +kernel
theorem dX1_keep_36 : decode cX1_keep 36 = .ok (.iadd, 1) := by decide +kernel
theorem dX1_keep_37 : decode cX1_keep 37 = .ok (.aload_n 1, 1) := by decide +kernel
theorem dX1_keep_38 : decode cX1_keep 38 = .ok (.getfield 50, 3) := by decide +kernel
theorem dX1_keep_41 : decode cX1_keep 41 = .ok (.iastore, 1) := by decide +kernel
theorem dX1_keep_42 : decode cX1_keep 42 = .ok (.aload_n 0, 1) := by decide +kernel
theorem dX1_keep_43 : decode cX1_keep 43 = .ok (.getfield 21, 3) := by decide +kernel
theorem dX1_keep_46 : decode cX1_keep 46 = .ok (.iload 4, 2) := by decide +kernel
theorem dX1_keep_48 : decode cX1_keep 48 = .ok (.iconst 3, 1) := by decide +kernel
theorem dX1_keep_49 : decode cX1_keep 49 = .ok (.iadd, 1) := by decide +kernel
theorem dX1_keep_50 : decode cX1_keep 50 = .ok (.iload_n 3, 1) := by decide +kernel
theorem dX1_keep_51 : decode cX1_keep 51 = .ok (.iastore, 1) := by decide +kernel
theorem dX1_keep_52 : decode cX1_keep 52 = .ok (.aload_n 0, 1) := by decide +kernel
theorem dX1_keep_53 : decode cX1_keep 53 = .ok (.aload_n 0, 1) := by decide +kernel
theorem dX1_keep_54 : decode cX1_keep 54 = .ok (.getfield 42, 3) := by decide +kernel
theorem dX1_keep_57 : decode cX1_keep 57 = .ok (.iconst 1, 1) := by decide +kernel
theorem dX1_keep_58 : decode cX1_keep 58 = .ok (.iadd, 1) := by decide +kernel
theorem dX1_keep_59 : decode cX1_keep 59 = .ok (.bipush 50, 2) := by decide +kernel
theorem dX1_keep_61 : decode cX1_keep 61 = .ok (.irem, 1) := by decide +kernel
theorem dX1_keep_62 : decode cX1_keep 62 = .ok (.putfield 42, 3) := by decide +kernel
theorem dX1_keep_65 : decode cX1_keep 65 = .ok (.aload_n 0, 1) := by decide +kernel
theorem dX1_keep_66 : decode cX1_keep 66 = .ok (.aload_n 0, 1) := by decide +kernel
theorem dX1_keep_67 : decode cX1_keep 67 = .ok (.getfield 53, 3) := by decide +kernel
theorem dX1_keep_70 : decode cX1_keep 70 = .ok (.iconst 1, 1) := by decide +kernel
theorem dX1_keep_71 : decode cX1_keep 71 = .ok (.iadd, 1) := by decide +kernel
theorem dX1_keep_72 : decode cX1_keep 72 = .ok (.bipush 50, 2) := by decide +kernel
theorem dX1_keep_74 : decode cX1_keep 74 = .ok (.invokestatic 56, 3) := by decide +kernel
theorem dX1_keep_77 : decode cX1_keep 77 = .ok (.putfield 53, 3) := by decide +kernel
theorem dX1_keep_80 : decode cX1_keep 80 = .ok (.aload_n 0, 1) := by decide +kernel
theorem dX1_keep_81 : decode cX1_keep 81 = .ok (.dup, 1) := by decide +kernel
theorem dX1_keep_82 : decode cX1_keep 82 = .ok (.getfield 62, 3) := by decide +kernel
theorem dX1_keep_85 : decode cX1_keep 85 = .ok (.iconst 1, 1) := by decide +kernel
theorem dX1_keep_86 : decode cX1_keep 86 = .ok (.iadd, 1) := by decide +kernel
theorem dX1_keep_87 : decode cX1_keep 87 = .ok (.putfield 62, 3) := by decide +kernel
theorem dX1_keep_90 : decode cX1_keep 90 = .ok (.return_, 1) := by decide +kernel
noncomputable def bX1_keep_0 (Q : Option Value → MM → Prop) (nx : Nat → Kt) : Kt := ldA 0 (gI 1 6 (cI 4 (bop (fun x y => x * y) (stI 4 (ldA 0 (gR 1 4 (ldI 4 (ldI 2 (sAI (ldA 0 (gR 1 4 (ldI 4 (cI 1 (bop (fun x y => x + y) (ldA 1 (gI 2 0 (sAI (ldA 0 (gR 1 4 (ldI 4 (cI 2 (bop (fun x y => x + y) (ldA 1 (gI 2 1 (sAI (ldA 0 (gR 1 4 (ldI 4 (cI 3 (bop (fun x y => x + y) (ldI 3 (sAI (ldA 0 (ldA 0 (gI 1 6 (cI 1 (bop (fun x y => x + y) (cI 50 (bod (fun x y => x - x / y * y) (tI 1 6 (ldA 0 (ldA 0 (gI 1 5 (cI 1 (nx 71)))))))))))))))))))))))))))))))))))))))))))))
noncomputable def bX1_keep_71 (Q : Option Value → MM → Prop) (nx : Nat → Kt) : Kt := bop (fun x y => x + y) (cI 50 (mMn (tI 1 5 (ldA 0 (du (gI 1 3 (cI 1 (bop (fun x y => x + y) (tI 1 3 (rV Q))))))))))
noncomputable def kX1_keep (Q : Option Value → MM → Prop) (nx : Nat → Kt) : Nat → Kt := bse [(0, bX1_keep_0 Q nx), (71, bX1_keep_71 Q nx)]
abbrev rX1_keep : Room := { frames := 1, cells := 0, slots := 0, locals := 21 }
noncomputable def wX1_keep : Mw := mw 5 kX1_keep
set_option maxRecDepth 20000 in
theorem oX1_keep_0 {T : Ct} {Q : Option Value → MM → Prop} (C : Cx T cX1_keep 5 RX1 0 0) (CR : CxR T 1 21) (hr : T.2.2.2.2.2.2.2.2.1.sig.returnType = none) (hnm : T.2.2.2.2.2.2.2.2.1.name = "keep") {nx : Nat → Kt} (hn : ∀ pc, Sd T 5 (QT T Q 0 0) 0 0 pc (nx pc)) : Sd T 5 (QT T Q 0 0) 0 0 0 (bX1_keep_0 Q nx) := x_al_n C dX1_keep_0 rfl (gf_X1_42 C dX1_keep_1 (x_ic C dX1_keep_4 (by decide) (x_imul C dX1_keep_5 (x_is C dX1_keep_6 (by decide) (x_al_n C dX1_keep_8 rfl (gf_X1_21 C dX1_keep_9 (x_il C dX1_keep_12 (x_il_n C dX1_keep_14 rfl (x_iast C dX1_keep_15 (x_al_n C dX1_keep_16 rfl (gf_X1_21 C dX1_keep_17 (x_il C dX1_keep_20 (x_ic C dX1_keep_22 (by decide) (x_iadd C dX1_keep_23 (x_al_n C dX1_keep_24 rfl (gf_X1_45 C dX1_keep_25 (x_iast C dX1_keep_28 (x_al_n C dX1_keep_29 rfl (gf_X1_21 C dX1_keep_30 (x_il C dX1_keep_33 (x_ic C dX1_keep_35 (by decide) (x_iadd C dX1_keep_36 (x_al_n C dX1_keep_37 rfl (gf_X1_50 C dX1_keep_38 (x_iast C dX1_keep_41 (x_al_n C dX1_keep_42 rfl (gf_X1_21 C dX1_keep_43 (x_il C dX1_keep_46 (x_ic C dX1_keep_48 (by decide) (x_iadd C dX1_keep_49 (x_il_n C dX1_keep_50 rfl (x_iast C dX1_keep_51 (x_al_n C dX1_keep_52 rfl (x_al_n C dX1_keep_53 rfl (gf_X1_42 C dX1_keep_54 (x_ic C dX1_keep_57 (by decide) (x_iadd C dX1_keep_58 (x_bp C dX1_keep_59 (by decide) (x_irem C dX1_keep_61 (pf_X1_42 C dX1_keep_62 (x_al_n C dX1_keep_65 rfl (x_al_n C dX1_keep_66 rfl (gf_X1_53 C dX1_keep_67 (x_ic C dX1_keep_70 (by decide) (hn 71)))))))))))))))))))))))))))))))))))))))))))))
set_option maxRecDepth 20000 in
theorem oX1_keep_71 {T : Ct} {Q : Option Value → MM → Prop} (C : Cx T cX1_keep 5 RX1 0 0) (CR : CxR T 1 21) (hr : T.2.2.2.2.2.2.2.2.1.sig.returnType = none) (hnm : T.2.2.2.2.2.2.2.2.1.name = "keep") {nx : Nat → Kt} (hn : ∀ pc, Sd T 5 (QT T Q 0 0) 0 0 pc (nx pc)) : Sd T 5 (QT T Q 0 0) 0 0 71 (bX1_keep_71 Q nx) := x_iadd C dX1_keep_71 (x_bp C dX1_keep_72 (by decide) (x_mMn C CR (by decide) (by decide) ml_X1_56 st_min init_Math co_min dX1_keep_74 (pf_X1_53 C dX1_keep_77 (x_al_n C dX1_keep_80 rfl (x_dup C dX1_keep_81 (gf_X1_62 C dX1_keep_82 (x_ic C dX1_keep_85 (by decide) (x_iadd C dX1_keep_86 (pf_X1_62 C dX1_keep_87 (x_rV C hr dX1_keep_90))))))))))
set_option maxRecDepth 20000 in
theorem mX1_keep (l : Launch) (D : va_G) (cA : Nat → ClassId) (base : Nat) : Mc l D cA base yX1_keep cX1_keep 5 none rX1_keep wX1_keep := mc_of (by decide +kernel) kX1_keep (fun T Q C CR hr hnm nx hn => bse_ok _ (List.forall_mem_cons.mpr ⟨oX1_keep_0 C CR hr hnm hn, List.forall_mem_cons.mpr ⟨oX1_keep_71 C CR hr hnm hn, fun _ h => nomatch h⟩⟩))
theorem dX1_moveTo_0 : decode cX1_moveTo 0 = .ok (.aload_n 1, 1) := by decide +kernel
theorem dX1_moveTo_1 : decode cX1_moveTo 1 = .ok (.getfield 65, 3) := by decide +kernel
theorem dX1_moveTo_4 : decode cX1_moveTo 4 = .ok (.iconst 4, 1) := by decide +kernel
theorem dX1_moveTo_5 : decode cX1_moveTo 5 = .ok (.if_icmp .ne 7, 3) := by decide +kernel
theorem dX1_moveTo_8 : decode cX1_moveTo 8 = .ok (.iconst 1, 1) := by decide +kernel
theorem dX1_moveTo_9 : decode cX1_moveTo 9 = .ok (.goto 4, 3) := by decide +kernel
theorem dX1_moveTo_12 : decode cX1_moveTo 12 = .ok (.iconst 0, 1) := by decide +kernel
theorem dX1_moveTo_13 : decode cX1_moveTo 13 = .ok (.iload_n 2, 1) := by decide +kernel
theorem dX1_moveTo_14 : decode cX1_moveTo 14 = .ok (.iconst 4, 1) := by decide +kernel
theorem dX1_moveTo_15 : decode cX1_moveTo 15 = .ok (.if_icmp .ne 7, 3) := by decide +kernel
theorem dX1_moveTo_18 : decode cX1_moveTo 18 = .ok (.iconst 1, 1) := by decide +kernel
theorem dX1_moveTo_19 : decode cX1_moveTo 19 = .ok (.goto 4, 3) := by decide +kernel
theorem dX1_moveTo_22 : decode cX1_moveTo 22 = .ok (.iconst 0, 1) := by decide +kernel
theorem dX1_moveTo_23 : decode cX1_moveTo 23 = .ok (.if_icmp .eq 13, 3) := by decide +kernel
theorem dX1_moveTo_26 : decode cX1_moveTo 26 = .ok (.aload_n 0, 1) := by decide +kernel
theorem dX1_moveTo_27 : decode cX1_moveTo 27 = .ok (.dup, 1) := by decide +kernel
theorem dX1_moveTo_28 : decode cX1_moveTo 28 = .ok (.getfield 68, 3) := by decide +kernel
theorem dX1_moveTo_31 : decode cX1_moveTo 31 = .ok (.iconst 1, 1) := by decide +kernel
theorem dX1_moveTo_32 : decode cX1_moveTo 32 = .ok (.iadd, 1) := by decide +kernel
theorem dX1_moveTo_33 : decode cX1_moveTo 33 = .ok (.putfield 68, 3) := by decide +kernel
theorem dX1_moveTo_36 : decode cX1_moveTo 36 = .ok (.aload_n 1, 1) := by decide +kernel
theorem dX1_moveTo_37 : decode cX1_moveTo 37 = .ok (.iload_n 2, 1) := by decide +kernel
theorem dX1_moveTo_38 : decode cX1_moveTo 38 = .ok (.invokevirtual 71, 3) := by decide +kernel
theorem dX1_moveTo_41 : decode cX1_moveTo 41 = .ok (.return_, 1) := by decide +kernel
noncomputable def bX1_moveTo_0 (Q : Option Value → MM → Prop) (nx : Nat → Kt) : Kt := ldA 1 (gI 5 5 (cI 4 (ifc (fun x y => x = y) (cI 1 (nx 13)) (nx 12))))
noncomputable def bX1_moveTo_12 (Q : Option Value → MM → Prop) (nx : Nat → Kt) : Kt := cI 0 (nx 13)
noncomputable def bX1_moveTo_13 (Q : Option Value → MM → Prop) (nx : Nat → Kt) : Kt := ldI 2 (cI 4 (ifc (fun x y => x = y) (cI 1 (nx 23)) (nx 22)))
noncomputable def bX1_moveTo_22 (Q : Option Value → MM → Prop) (nx : Nat → Kt) : Kt := cI 0 (nx 23)
noncomputable def bX1_moveTo_23 (Q : Option Value → MM → Prop) (nx : Nat → Kt) : Kt := ifc (fun x y => x = y) (nx 36) (ldA 0 (du (gI 1 8 (cI 1 (bop (fun x y => x + y) (tI 1 8 (nx 36)))))))
noncomputable def bX1_moveTo_36 (Q : Option Value → MM → Prop) (nx : Nat → Kt) : Kt := ldA 1 (ldI 2 (cV 1 5 wX5_setStage 0 0 0 0 (rV Q)))
noncomputable def kX1_moveTo (Q : Option Value → MM → Prop) (nx : Nat → Kt) : Nat → Kt := bse [(0, bX1_moveTo_0 Q nx), (12, bX1_moveTo_12 Q nx), (13, bX1_moveTo_13 Q nx), (22, bX1_moveTo_22 Q nx), (23, bX1_moveTo_23 Q nx), (36, bX1_moveTo_36 Q nx)]
abbrev rX1_moveTo : Room := { frames := 2, cells := 0, slots := 0, locals := 43 }
noncomputable def wX1_moveTo : Mw := mw 3 kX1_moveTo
set_option maxRecDepth 20000 in
theorem oX1_moveTo_0 {T : Ct} {Q : Option Value → MM → Prop} (C : Cx T cX1_moveTo 3 RX1 0 0) (CR : CxR T 2 43) (hr : T.2.2.2.2.2.2.2.2.1.sig.returnType = none) (hnm : T.2.2.2.2.2.2.2.2.1.name = "moveTo") {nx : Nat → Kt} (hn : ∀ pc, Sd T 3 (QT T Q 0 0) 0 0 pc (nx pc)) : Sd T 3 (QT T Q 0 0) 0 0 0 (bX1_moveTo_0 Q nx) := x_al_n C dX1_moveTo_0 rfl (gf_X1_65 C dX1_moveTo_1 (x_ic C dX1_moveTo_4 (by decide) (x_ic_ne C (hn 12) dX1_moveTo_5 (by decide) (x_ic C dX1_moveTo_8 (by decide) (x_goto C (hn 13) dX1_moveTo_9 (by decide))))))
set_option maxRecDepth 20000 in
theorem oX1_moveTo_12 {T : Ct} {Q : Option Value → MM → Prop} (C : Cx T cX1_moveTo 3 RX1 0 0) (CR : CxR T 2 43) (hr : T.2.2.2.2.2.2.2.2.1.sig.returnType = none) (hnm : T.2.2.2.2.2.2.2.2.1.name = "moveTo") {nx : Nat → Kt} (hn : ∀ pc, Sd T 3 (QT T Q 0 0) 0 0 pc (nx pc)) : Sd T 3 (QT T Q 0 0) 0 0 12 (bX1_moveTo_12 Q nx) := x_ic C dX1_moveTo_12 (by decide) (hn 13)
set_option maxRecDepth 20000 in
theorem oX1_moveTo_13 {T : Ct} {Q : Option Value → MM → Prop} (C : Cx T cX1_moveTo 3 RX1 0 0) (CR : CxR T 2 43) (hr : T.2.2.2.2.2.2.2.2.1.sig.returnType = none) (hnm : T.2.2.2.2.2.2.2.2.1.name = "moveTo") {nx : Nat → Kt} (hn : ∀ pc, Sd T 3 (QT T Q 0 0) 0 0 pc (nx pc)) : Sd T 3 (QT T Q 0 0) 0 0 13 (bX1_moveTo_13 Q nx) := x_il_n C dX1_moveTo_13 rfl (x_ic C dX1_moveTo_14 (by decide) (x_ic_ne C (hn 22) dX1_moveTo_15 (by decide) (x_ic C dX1_moveTo_18 (by decide) (x_goto C (hn 23) dX1_moveTo_19 (by decide)))))
set_option maxRecDepth 20000 in
theorem oX1_moveTo_22 {T : Ct} {Q : Option Value → MM → Prop} (C : Cx T cX1_moveTo 3 RX1 0 0) (CR : CxR T 2 43) (hr : T.2.2.2.2.2.2.2.2.1.sig.returnType = none) (hnm : T.2.2.2.2.2.2.2.2.1.name = "moveTo") {nx : Nat → Kt} (hn : ∀ pc, Sd T 3 (QT T Q 0 0) 0 0 pc (nx pc)) : Sd T 3 (QT T Q 0 0) 0 0 22 (bX1_moveTo_22 Q nx) := x_ic C dX1_moveTo_22 (by decide) (hn 23)
set_option maxRecDepth 20000 in
theorem oX1_moveTo_23 {T : Ct} {Q : Option Value → MM → Prop} (C : Cx T cX1_moveTo 3 RX1 0 0) (CR : CxR T 2 43) (hr : T.2.2.2.2.2.2.2.2.1.sig.returnType = none) (hnm : T.2.2.2.2.2.2.2.2.1.name = "moveTo") {nx : Nat → Kt} (hn : ∀ pc, Sd T 3 (QT T Q 0 0) 0 0 pc (nx pc)) : Sd T 3 (QT T Q 0 0) 0 0 23 (bX1_moveTo_23 Q nx) := x_ic_eq C (hn 36) dX1_moveTo_23 (by decide) (x_al_n C dX1_moveTo_26 rfl (x_dup C dX1_moveTo_27 (gf_X1_68 C dX1_moveTo_28 (x_ic C dX1_moveTo_31 (by decide) (x_iadd C dX1_moveTo_32 (pf_X1_68 C dX1_moveTo_33 (hn 36)))))))
set_option maxRecDepth 20000 in
theorem oX1_moveTo_36 {T : Ct} {Q : Option Value → MM → Prop} (C : Cx T cX1_moveTo 3 RX1 0 0) (CR : CxR T 2 43) (hr : T.2.2.2.2.2.2.2.2.1.sig.returnType = none) (hnm : T.2.2.2.2.2.2.2.2.1.name = "moveTo") {nx : Nat → Kt} (hn : ∀ pc, Sd T 3 (QT T Q 0 0) 0 0 pc (nx pc)) : Sd T 3 (QT T Q 0 0) 0 0 36 (bX1_moveTo_36 Q nx) := x_al_n C dX1_moveTo_36 rfl (x_il_n C dX1_moveTo_37 rfl (x_cV C CR mX5_setStage ⟨co_X5_setStage, init_X5, md_X5_setStage, by decide, by decide⟩ (ci := 5) (TX := TX5) (N := 18) rfl (by decide) ml_X1_71 im_X5_setStage se_X5_setStage dX1_moveTo_38 (x_rV C hr dX1_moveTo_41)))
set_option maxRecDepth 20000 in
theorem mX1_moveTo (l : Launch) (D : va_G) (cA : Nat → ClassId) (base : Nat) : Mc l D cA base yX1_moveTo cX1_moveTo 3 none rX1_moveTo wX1_moveTo := mc_of (by decide +kernel) kX1_moveTo (fun T Q C CR hr hnm nx hn => bse_ok _ (List.forall_mem_cons.mpr ⟨oX1_moveTo_0 C CR hr hnm hn, List.forall_mem_cons.mpr ⟨oX1_moveTo_12 C CR hr hnm hn, List.forall_mem_cons.mpr ⟨oX1_moveTo_13 C CR hr hnm hn, List.forall_mem_cons.mpr ⟨oX1_moveTo_22 C CR hr hnm hn, List.forall_mem_cons.mpr ⟨oX1_moveTo_23 C CR hr hnm hn, List.forall_mem_cons.mpr ⟨oX1_moveTo_36 C CR hr hnm hn, fun _ h => nomatch h⟩⟩⟩⟩⟩⟩))
theorem dX1_bundleOf_0 : decode cX1_bundleOf 0 = .ok (.aload_n 0, 1) := by decide +kernel
theorem dX1_bundleOf_1 : decode cX1_bundleOf 1 = .ok (.getfield 11, 3) := by decide +kernel
theorem dX1_bundleOf_4 : decode cX1_bundleOf 4 = .ok (.iload_n 1, 1) := by decide +kernel
theorem dX1_bundleOf_5 : decode cX1_bundleOf 5 = .ok (.aaload, 1) := by decide +kernel
theorem dX1_bundleOf_6 : decode cX1_bundleOf 6 = .ok (.astore_n 2, 1) := by decide +kernel
theorem dX1_bundleOf_7 : decode cX1_bundleOf 7 = .ok (.aload_n 2, 1) := by decide +kernel
theorem dX1_bundleOf_8 : decode cX1_bundleOf 8 = .ok (.invokevirtual 90, 3) := by decide +kernel
theorem dX1_bundleOf_11 : decode cX1_bundleOf 11 = .ok (.ifCond .ne 5, 3) := by decide +kernel
theorem dX1_bundleOf_14 : decode cX1_bundleOf 14 = .ok (.iconst (-1), 1) := by decide +kernel
theorem dX1_bundleOf_15 : decode cX1_bundleOf 15 = .ok (.ireturn, 1) := by decide +kernel
theorem dX1_bundleOf_16 : decode cX1_bundleOf 16 = .ok (.iconst 0, 1) := by decide +kernel
theorem dX1_bundleOf_17 : decode cX1_bundleOf 17 = .ok (.istore_n 3, 1) := by decide +kernel
theorem dX1_bundleOf_18 : decode cX1_bundleOf 18 = .ok (.iload_n 3, 1) := by decide +kernel
theorem dX1_bundleOf_19 : decode cX1_bundleOf 19 = .ok (.iload_n 1, 1) := by decide +kernel
theorem dX1_bundleOf_20 : decode cX1_bundleOf 20 = .ok (.if_icmp .ge 37, 3) := by decide +kernel
theorem dX1_bundleOf_23 : decode cX1_bundleOf 23 = .ok (.aload_n 0, 1) := by decide +kernel
theorem dX1_bundleOf_24 : decode cX1_bundleOf 24 = .ok (.getfield 11, 3) := by decide +kernel
theorem dX1_bundleOf_27 : decode cX1_bundleOf 27 = .ok (.iload_n 3, 1) := by decide +kernel
theorem dX1_bundleOf_28 : decode cX1_bundleOf 28 = .ok (.aaload, 1) := by decide +kernel
theorem dX1_bundleOf_29 : decode cX1_bundleOf 29 = .ok (.getfield 79, 3) := by decide +kernel
theorem dX1_bundleOf_32 : decode cX1_bundleOf 32 = .ok (.iload_n 3, 1) := by decide +kernel
theorem dX1_bundleOf_33 : decode cX1_bundleOf 33 = .ok (.if_icmp .ne 18, 3) := by decide +kernel
theorem dX1_bundleOf_36 : decode cX1_bundleOf 36 = .ok (.aload_n 0, 1) := by decide +kernel
theorem dX1_bundleOf_37 : decode cX1_bundleOf 37 = .ok (.getfield 11, 3) := by decide +kernel
theorem dX1_bundleOf_40 : decode cX1_bundleOf 40 = .ok (.iload_n 3, 1) := by decide +kernel
theorem dX1_bundleOf_41 : decode cX1_bundleOf 41 = .ok (.aaload, 1) := by decide +kernel
theorem dX1_bundleOf_42 : decode cX1_bundleOf 42 = .ok (.aload_n 2, 1) := by decide +kernel
theorem dX1_bundleOf_43 : decode cX1_bundleOf 43 = .ok (.invokevirtual 94, 3) := by decide +kernel
theorem dX1_bundleOf_46 : decode cX1_bundleOf 46 = .ok (.ifCond .eq 5, 3) := by decide +kernel
theorem dX1_bundleOf_49 : decode cX1_bundleOf 49 = .ok (.iload_n 3, 1) := by decide +kernel
theorem dX1_bundleOf_50 : decode cX1_bundleOf 50 = .ok (.ireturn, 1) := by decide +kernel
theorem dX1_bundleOf_51 : decode cX1_bundleOf 51 = .ok (.iinc 3 1, 3) := by decide +kernel
theorem dX1_bundleOf_54 : decode cX1_bundleOf 54 = .ok (.goto (-36), 3) := by decide +kernel
theorem dX1_bundleOf_57 : decode cX1_bundleOf 57 = .ok (.iload_n 1, 1) := by decide +kernel
theorem dX1_bundleOf_58 : decode cX1_bundleOf 58 = .ok (.ireturn, 1) := by decide +kernel
noncomputable def bX1_bundleOf_0 (Q : Option Value → MM → Prop) (nx : Nat → Kt) : Kt := ldA 0 (gR 1 0 (ldI 1 (aR 17 (stA 2 (ldA 2 (cV 0 5 wX5_fits 0 0 0 0 (ifz (fun x => x = 0) (cI (-1) (rI Q)) (nx 16))))))))
noncomputable def bX1_bundleOf_16 (Q : Option Value → MM → Prop) (nx : Nat → Kt) : Kt := cI 0 (stI 3 (nx 18))
noncomputable def bX1_bundleOf_18 (Q : Option Value → MM → Prop) (nx : Nat → Kt) : Kt := ldI 3 (ldI 1 (ifc (fun x y => y ≤ x) (nx 57) (ldA 0 (gR 1 0 (ldI 3 (aR 17 (gI 5 10 (ldI 3 (ifc (fun x y => x = y) (ldA 0 (gR 1 0 (ldI 3 (aR 17 (ldA 2 (cV 1 5 wX5_isLike 0 0 0 0 (ifz (fun x => x = 0) (nx 51) (ldI 3 (rI Q))))))))) (nx 51))))))))))
noncomputable def bX1_bundleOf_51 (Q : Option Value → MM → Prop) (nx : Nat → Kt) : Kt := inc 3 1 (nx 18)
noncomputable def bX1_bundleOf_57 (Q : Option Value → MM → Prop) (nx : Nat → Kt) : Kt := ldI 1 (rI Q)
noncomputable def kX1_bundleOf (Q : Option Value → MM → Prop) (nx : Nat → Kt) : Nat → Kt := bse [(0, bX1_bundleOf_0 Q nx), (16, bX1_bundleOf_16 Q nx), (18, bX1_bundleOf_18 Q nx), (51, bX1_bundleOf_51 Q nx), (57, bX1_bundleOf_57 Q nx)]
abbrev rX1_bundleOf : Room := { frames := 2, cells := 0, slots := 0, locals := 41 }
noncomputable def wX1_bundleOf : Mw := mw 4 kX1_bundleOf
set_option maxRecDepth 20000 in
theorem oX1_bundleOf_0 {T : Ct} {Q : Option Value → MM → Prop} (C : Cx T cX1_bundleOf 4 RX1 0 0) (CR : CxR T 2 41) (hr : T.2.2.2.2.2.2.2.2.1.sig.returnType = (some .int)) (hnm : T.2.2.2.2.2.2.2.2.1.name = "bundleOf") {nx : Nat → Kt} (hn : ∀ pc, Sd T 4 (QT T Q 0 0) 0 0 pc (nx pc)) : Sd T 4 (QT T Q 0 0) 0 0 0 (bX1_bundleOf_0 Q nx) := x_al_n C dX1_bundleOf_0 rfl (gf_X1_11 C dX1_bundleOf_1 (x_il_n C dX1_bundleOf_4 rfl (x_aald C (kd := 17) (t0 := 7) (by decide) (by decide) (fun _ => rfl) dX1_bundleOf_5 (x_as_n C dX1_bundleOf_6 rfl (by decide) (x_al_n C dX1_bundleOf_7 rfl (x_cV C CR mX5_fits ⟨co_X5_fits, init_X5, md_X5_fits, by decide, by decide⟩ (ci := 5) (TX := TX5) (N := 18) rfl (by decide) ml_X1_90 im_X5_fits se_X5_fits dX1_bundleOf_8 (x_if_ne C (hn 16) dX1_bundleOf_11 (by decide) (x_ic C dX1_bundleOf_14 (by decide) (x_rI C hr dX1_bundleOf_15)))))))))
set_option maxRecDepth 20000 in
theorem oX1_bundleOf_16 {T : Ct} {Q : Option Value → MM → Prop} (C : Cx T cX1_bundleOf 4 RX1 0 0) (CR : CxR T 2 41) (hr : T.2.2.2.2.2.2.2.2.1.sig.returnType = (some .int)) (hnm : T.2.2.2.2.2.2.2.2.1.name = "bundleOf") {nx : Nat → Kt} (hn : ∀ pc, Sd T 4 (QT T Q 0 0) 0 0 pc (nx pc)) : Sd T 4 (QT T Q 0 0) 0 0 16 (bX1_bundleOf_16 Q nx) := x_ic C dX1_bundleOf_16 (by decide) (x_is_n C dX1_bundleOf_17 rfl (by decide) (hn 18))
set_option maxRecDepth 20000 in
theorem oX1_bundleOf_18 {T : Ct} {Q : Option Value → MM → Prop} (C : Cx T cX1_bundleOf 4 RX1 0 0) (CR : CxR T 2 41) (hr : T.2.2.2.2.2.2.2.2.1.sig.returnType = (some .int)) (hnm : T.2.2.2.2.2.2.2.2.1.name = "bundleOf") {nx : Nat → Kt} (hn : ∀ pc, Sd T 4 (QT T Q 0 0) 0 0 pc (nx pc)) : Sd T 4 (QT T Q 0 0) 0 0 18 (bX1_bundleOf_18 Q nx) := x_il_n C dX1_bundleOf_18 rfl (x_il_n C dX1_bundleOf_19 rfl (x_ic_ge C (hn 57) dX1_bundleOf_20 (by decide) (x_al_n C dX1_bundleOf_23 rfl (gf_X1_11 C dX1_bundleOf_24 (x_il_n C dX1_bundleOf_27 rfl (x_aald C (kd := 17) (t0 := 7) (by decide) (by decide) (fun _ => rfl) dX1_bundleOf_28 (gf_X1_79 C dX1_bundleOf_29 (x_il_n C dX1_bundleOf_32 rfl (x_ic_ne C (hn 51) dX1_bundleOf_33 (by decide) (x_al_n C dX1_bundleOf_36 rfl (gf_X1_11 C dX1_bundleOf_37 (x_il_n C dX1_bundleOf_40 rfl (x_aald C (kd := 17) (t0 := 7) (by decide) (by decide) (fun _ => rfl) dX1_bundleOf_41 (x_al_n C dX1_bundleOf_42 rfl (x_cV C CR mX5_isLike ⟨co_X5_isLike, init_X5, md_X5_isLike, by decide, by decide⟩ (ci := 5) (TX := TX5) (N := 18) rfl (by decide) ml_X1_94 im_X5_isLike se_X5_isLike dX1_bundleOf_43 (x_if_eq C (hn 51) dX1_bundleOf_46 (by decide) (x_il_n C dX1_bundleOf_49 rfl (x_rI C hr dX1_bundleOf_50))))))))))))))))))
set_option maxRecDepth 20000 in
theorem oX1_bundleOf_51 {T : Ct} {Q : Option Value → MM → Prop} (C : Cx T cX1_bundleOf 4 RX1 0 0) (CR : CxR T 2 41) (hr : T.2.2.2.2.2.2.2.2.1.sig.returnType = (some .int)) (hnm : T.2.2.2.2.2.2.2.2.1.name = "bundleOf") {nx : Nat → Kt} (hn : ∀ pc, Sd T 4 (QT T Q 0 0) 0 0 pc (nx pc)) : Sd T 4 (QT T Q 0 0) 0 0 51 (bX1_bundleOf_51 Q nx) := x_inc C dX1_bundleOf_51 (by decide) (by decide) (x_goto C (hn 18) dX1_bundleOf_54 (by decide))
set_option maxRecDepth 20000 in
theorem oX1_bundleOf_57 {T : Ct} {Q : Option Value → MM → Prop} (C : Cx T cX1_bundleOf 4 RX1 0 0) (CR : CxR T 2 41) (hr : T.2.2.2.2.2.2.2.2.1.sig.returnType = (some .int)) (hnm : T.2.2.2.2.2.2.2.2.1.name = "bundleOf") {nx : Nat → Kt} (hn : ∀ pc, Sd T 4 (QT T Q 0 0) 0 0 pc (nx pc)) : Sd T 4 (QT T Q 0 0) 0 0 57 (bX1_bundleOf_57 Q nx) := x_il_n C dX1_bundleOf_57 rfl (x_rI C hr dX1_bundleOf_58)
set_option maxRecDepth 20000 in
theorem mX1_bundleOf (l : Launch) (D : va_G) (cA : Nat → ClassId) (base : Nat) : Mc l D cA base yX1_bundleOf cX1_bundleOf 4 (some .int) rX1_bundleOf wX1_bundleOf := mc_of (by decide +kernel) kX1_bundleOf (fun T Q C CR hr hnm nx hn => bse_ok _ (List.forall_mem_cons.mpr ⟨oX1_bundleOf_0 C CR hr hnm hn, List.forall_mem_cons.mpr ⟨oX1_bundleOf_16 C CR hr hnm hn, List.forall_mem_cons.mpr ⟨oX1_bundleOf_18 C CR hr hnm hn, List.forall_mem_cons.mpr ⟨oX1_bundleOf_51 C CR hr hnm hn, List.forall_mem_cons.mpr ⟨oX1_bundleOf_57 C CR hr hnm hn, fun _ h => nomatch h⟩⟩⟩⟩⟩))
theorem dX1_countAhead_0 : decode cX1_countAhead 0 = .ok (.iconst 0, 1) := by decide +kernel
theorem dX1_countAhead_1 : decode cX1_countAhead 1 = .ok (.istore_n 3, 1) := by decide +kernel
theorem dX1_countAhead_2 : decode cX1_countAhead 2 = .ok (.iconst 0, 1) := by decide +kernel
theorem dX1_countAhead_3 : decode cX1_countAhead 3 = .ok (.istore 4, 2) := by decide +kernel
theorem dX1_countAhead_5 : decode cX1_countAhead 5 = .ok (.iload 4, 2) := by decide +kernel
theorem dX1_countAhead_7 : decode cX1_countAhead 7 = .ok (.bipush 8, 2) := by decide +kernel
theorem dX1_countAhead_9 : decode cX1_countAhead 9 = .ok (.if_icmp .ge 44, 3) := by decide +kernel
theorem dX1_countAhead_12 : decode cX1_countAhead 12 = .ok (.aload_n 0, 1) := by decide +kernel
theorem dX1_countAhead_13 : decode cX1_countAhead 13 = .ok (.getfield 11, 3) := by decide +kernel
theorem dX1_countAhead_16 : decode cX1_countAhead 16 = .ok (.iload 4, 2) := by decide +kernel
theorem dX1_countAhead_18 : decode cX1_countAhead 18 = .ok (.aaload, 1) := by decide +kernel
theorem dX1_countAhead_19 : decode cX1_countAhead 19 = .ok (.getfield 79, 3) := by decide +kernel
theorem dX1_countAhead_22 : decode cX1_countAhead 22 = .ok (.aload_n 1, 1) := by decide +kernel
theorem dX1_countAhead_23 : decode cX1_countAhead 23 = .ok (.getfield 79, 3) := by decide +kernel
theorem dX1_countAhead_26 : decode cX1_countAhead 26 = .ok (.if_icmp .ne 21, 3) := by decide +kernel
theorem dX1_countAhead_29 : decode cX1_countAhead 29 = .ok (.aload_n 0, 1) := by decide +kernel
theorem dX1_countAhead_30 : decode cX1_countAhead 30 = .ok (.getfield 11, 3) := by decide +kernel
theorem dX1_countAhead_33 : decode cX1_countAhead 33 = .ok (.iload 4, 2) := by decide +kernel
theorem dX1_countAhead_35 : decode cX1_countAhead 35 = .ok (.aaload, 1) := by decide +kernel
theorem dX1_countAhead_36 : decode cX1_countAhead 36 = .ok (.aload_n 1, 1) := by decide +kernel
theorem dX1_countAhead_37 : decode cX1_countAhead 37 = .ok (.iload_n 2, 1) := by decide +kernel
theorem dX1_countAhead_38 : decode cX1_countAhead 38 = .ok (.invokevirtual 98, 3) := by decide +kernel
theorem dX1_countAhead_41 : decode cX1_countAhead 41 = .ok (.ifCond .eq 6, 3) := by decide +kernel
theorem dX1_countAhead_44 : decode cX1_countAhead 44 = .ok (.iinc 3 1, 3) := by decide +kernel
theorem dX1_countAhead_47 : decode cX1_countAhead 47 = .ok (.iinc 4 1, 3) := by decide +kernel
theorem dX1_countAhead_50 : decode cX1_countAhead 50 = .ok (.goto (-45), 3) := by decide +kernel
theorem dX1_countAhead_53 : decode cX1_countAhead 53 = .ok (.iload_n 3, 1) := by decide +kernel
theorem dX1_countAhead_54 : decode cX1_countAhead 54 = .ok (.ireturn, 1) := by decide +kernel
noncomputable def bX1_countAhead_0 (Q : Option Value → MM → Prop) (nx : Nat → Kt) : Kt := cI 0 (stI 3 (cI 0 (stI 4 (nx 5))))
noncomputable def bX1_countAhead_5 (Q : Option Value → MM → Prop) (nx : Nat → Kt) : Kt := ldI 4 (cI 8 (ifc (fun x y => y ≤ x) (nx 53) (ldA 0 (gR 1 0 (ldI 4 (aR 17 (gI 5 10 (ldA 1 (gI 5 10 (ifc (fun x y => x = y) (ldA 0 (gR 1 0 (ldI 4 (aR 17 (ldA 1 (ldI 2 (cV 2 5 wX5_isAheadOf 0 0 0 0 (ifz (fun x => x = 0) (nx 47) (inc 3 1 (nx 47)))))))))) (nx 47)))))))))))
noncomputable def bX1_countAhead_47 (Q : Option Value → MM → Prop) (nx : Nat → Kt) : Kt := inc 4 1 (nx 5)
noncomputable def bX1_countAhead_53 (Q : Option Value → MM → Prop) (nx : Nat → Kt) : Kt := ldI 3 (rI Q)
noncomputable def kX1_countAhead (Q : Option Value → MM → Prop) (nx : Nat → Kt) : Nat → Kt := bse [(0, bX1_countAhead_0 Q nx), (5, bX1_countAhead_5 Q nx), (47, bX1_countAhead_47 Q nx), (53, bX1_countAhead_53 Q nx)]
abbrev rX1_countAhead : Room := { frames := 1, cells := 0, slots := 0, locals := 24 }
noncomputable def wX1_countAhead : Mw := mw 5 kX1_countAhead
set_option maxRecDepth 20000 in
theorem oX1_countAhead_0 {T : Ct} {Q : Option Value → MM → Prop} (C : Cx T cX1_countAhead 5 RX1 0 0) (CR : CxR T 1 24) (hr : T.2.2.2.2.2.2.2.2.1.sig.returnType = (some .int)) (hnm : T.2.2.2.2.2.2.2.2.1.name = "countAhead") {nx : Nat → Kt} (hn : ∀ pc, Sd T 5 (QT T Q 0 0) 0 0 pc (nx pc)) : Sd T 5 (QT T Q 0 0) 0 0 0 (bX1_countAhead_0 Q nx) := x_ic C dX1_countAhead_0 (by decide) (x_is_n C dX1_countAhead_1 rfl (by decide) (x_ic C dX1_countAhead_2 (by decide) (x_is C dX1_countAhead_3 (by decide) (hn 5))))
set_option maxRecDepth 20000 in
theorem oX1_countAhead_5 {T : Ct} {Q : Option Value → MM → Prop} (C : Cx T cX1_countAhead 5 RX1 0 0) (CR : CxR T 1 24) (hr : T.2.2.2.2.2.2.2.2.1.sig.returnType = (some .int)) (hnm : T.2.2.2.2.2.2.2.2.1.name = "countAhead") {nx : Nat → Kt} (hn : ∀ pc, Sd T 5 (QT T Q 0 0) 0 0 pc (nx pc)) : Sd T 5 (QT T Q 0 0) 0 0 5 (bX1_countAhead_5 Q nx) := x_il C dX1_countAhead_5 (x_bp C dX1_countAhead_7 (by decide) (x_ic_ge C (hn 53) dX1_countAhead_9 (by decide) (x_al_n C dX1_countAhead_12 rfl (gf_X1_11 C dX1_countAhead_13 (x_il C dX1_countAhead_16 (x_aald C (kd := 17) (t0 := 7) (by decide) (by decide) (fun _ => rfl) dX1_countAhead_18 (gf_X1_79 C dX1_countAhead_19 (x_al_n C dX1_countAhead_22 rfl (gf_X1_79 C dX1_countAhead_23 (x_ic_ne C (hn 47) dX1_countAhead_26 (by decide) (x_al_n C dX1_countAhead_29 rfl (gf_X1_11 C dX1_countAhead_30 (x_il C dX1_countAhead_33 (x_aald C (kd := 17) (t0 := 7) (by decide) (by decide) (fun _ => rfl) dX1_countAhead_35 (x_al_n C dX1_countAhead_36 rfl (x_il_n C dX1_countAhead_37 rfl (x_cV C CR mX5_isAheadOf ⟨co_X5_isAheadOf, init_X5, md_X5_isAheadOf, by decide, by decide⟩ (ci := 5) (TX := TX5) (N := 18) rfl (by decide) ml_X1_98 im_X5_isAheadOf se_X5_isAheadOf dX1_countAhead_38 (x_if_eq C (hn 47) dX1_countAhead_41 (by decide) (x_inc C dX1_countAhead_44 (by decide) (by decide) (hn 47))))))))))))))))))))
set_option maxRecDepth 20000 in
theorem oX1_countAhead_47 {T : Ct} {Q : Option Value → MM → Prop} (C : Cx T cX1_countAhead 5 RX1 0 0) (CR : CxR T 1 24) (hr : T.2.2.2.2.2.2.2.2.1.sig.returnType = (some .int)) (hnm : T.2.2.2.2.2.2.2.2.1.name = "countAhead") {nx : Nat → Kt} (hn : ∀ pc, Sd T 5 (QT T Q 0 0) 0 0 pc (nx pc)) : Sd T 5 (QT T Q 0 0) 0 0 47 (bX1_countAhead_47 Q nx) := x_inc C dX1_countAhead_47 (by decide) (by decide) (x_goto C (hn 5) dX1_countAhead_50 (by decide))
set_option maxRecDepth 20000 in
theorem oX1_countAhead_53 {T : Ct} {Q : Option Value → MM → Prop} (C : Cx T cX1_countAhead 5 RX1 0 0) (CR : CxR T 1 24) (hr : T.2.2.2.2.2.2.2.2.1.sig.returnType = (some .int)) (hnm : T.2.2.2.2.2.2.2.2.1.name = "countAhead") {nx : Nat → Kt} (hn : ∀ pc, Sd T 5 (QT T Q 0 0) 0 0 pc (nx pc)) : Sd T 5 (QT T Q 0 0) 0 0 53 (bX1_countAhead_53 Q nx) := x_il_n C dX1_countAhead_53 rfl (x_rI C hr dX1_countAhead_54)
set_option maxRecDepth 20000 in
theorem mX1_countAhead (l : Launch) (D : va_G) (cA : Nat → ClassId) (base : Nat) : Mc l D cA base yX1_countAhead cX1_countAhead 5 (some .int) rX1_countAhead wX1_countAhead := mc_of (by decide +kernel) kX1_countAhead (fun T Q C CR hr hnm nx hn => bse_ok _ (List.forall_mem_cons.mpr ⟨oX1_countAhead_0 C CR hr hnm hn, List.forall_mem_cons.mpr ⟨oX1_countAhead_5 C CR hr hnm hn, List.forall_mem_cons.mpr ⟨oX1_countAhead_47 C CR hr hnm hn, List.forall_mem_cons.mpr ⟨oX1_countAhead_53 C CR hr hnm hn, fun _ h => nomatch h⟩⟩⟩⟩))
theorem dX1_formBundles_0 : decode cX1_formBundles 0 = .ok (.iconst 0, 1) := by decide +kernel
theorem dX1_formBundles_1 : decode cX1_formBundles 1 = .ok (.istore_n 2, 1) := by decide +kernel
theorem dX1_formBundles_2 : decode cX1_formBundles 2 = .ok (.iload_n 2, 1) := by decide +kernel
theorem dX1_formBundles_3 : decode cX1_formBundles 3 = .ok (.bipush 8, 2) := by decide +kernel
theorem dX1_formBundles_5 : decode cX1_formBundles 5 = .ok (.if_icmp .ge 56, 3) := by decide +kernel
theorem dX1_formBundles_8 : decode cX1_formBundles 8 = .ok (.aload_n 0, 1) := by decide +kernel
theorem dX1_formBundles_9 : decode cX1_formBundles 9 = .ok (.getfield 11, 3) := by decide +kernel
theorem dX1_formBundles_12 : decode cX1_formBundles 12 = .ok (.iload_n 2, 1) := by decide +kernel
theorem dX1_formBundles_13 : decode cX1_formBundles 13 = .ok (.aaload, 1) := by decide +kernel
theorem dX1_formBundles_14 : decode cX1_formBundles 14 = .ok (.astore_n 3, 1) := by decide +kernel
theorem dX1_formBundles_15 : decode cX1_formBundles 15 = .ok (.aload_n 0, 1) := by decide +kernel
theorem dX1_formBundles_16 : decode cX1_formBundles 16 = .ok (.iload_n 2, 1) := by decide +kernel
theorem dX1_formBundles_17 : decode cX1_formBundles 17 = .ok (.invokevirtual 75, 3) := by decide +kernel
theorem dX1_formBundles_20 : decode cX1_formBundles 20 = .ok (.istore 4, 2) := by decide +kernel
theorem dX1_formBundles_22 : decode cX1_formBundles 22 = .ok (.aload_n 3, 1) := by decide +kernel
theorem dX1_formBundles_23 : decode cX1_formBundles 23 = .ok (.getfield 65, 3) := by decide +kernel
theorem dX1_formBundles_26 : decode cX1_formBundles 26 = .ok (.iconst 4, 1) := by decide +kernel
theorem dX1_formBundles_27 : decode cX1_formBundles 27 = .ok (.if_icmp .ne 22, 3) := by decide +kernel
theorem dX1_formBundles_30 : decode cX1_formBundles 30 = .ok (.aload_n 3, 1) := by decide +kernel
theorem dX1_formBundles_31 : decode cX1_formBundles 31 = .ok (.getfield 79, 3) := by decide +kernel
theorem dX1_formBundles_34 : decode cX1_formBundles 34 = .ok (.iload 4, 2) := by decide +kernel
theorem dX1_formBundles_36 : decode cX1_formBundles 36 = .ok (.if_icmp .eq 13, 3) := by decide +kernel
theorem dX1_formBundles_39 : decode cX1_formBundles 39 = .ok (.aload_n 0, 1) := by decide +kernel
theorem dX1_formBundles_40 : decode cX1_formBundles 40 = .ok (.dup, 1) := by decide +kernel
theorem dX1_formBundles_41 : decode cX1_formBundles 41 = .ok (.getfield 68, 3) := by decide +kernel
theorem dX1_formBundles_44 : decode cX1_formBundles 44 = .ok (.iconst 1, 1) := by decide +kernel
theorem dX1_formBundles_45 : decode cX1_formBundles 45 = .ok (.iadd, 1) := by decide +kernel
theorem dX1_formBundles_46 : decode cX1_formBundles 46 = .ok (.putfield 68, 3) := by decide +kernel
theorem dX1_formBundles_49 : decode cX1_formBundles 49 = .ok (.aload_n 3, 1) := by decide +kernel
theorem dX1_formBundles_50 : decode cX1_formBundles 50 = .ok (.iload 4, 2) := by decide +kernel
theorem dX1_formBundles_52 : decode cX1_formBundles 52 = .ok (.putfield 79, 3) := by decide +kernel
theorem dX1_formBundles_55 : decode cX1_formBundles 55 = .ok (.iinc 2 1, 3) := by decide +kernel
theorem dX1_formBundles_58 : decode cX1_formBundles 58 = .ok (.goto (-56), 3) := by decide +kernel
theorem dX1_formBundles_61 : decode cX1_formBundles 61 = .ok (.iconst 0, 1) := by decide +kernel
theorem dX1_formBundles_62 : decode cX1_formBundles 62 = .ok (.istore_n 2, 1) := by decide +kernel
theorem dX1_formBundles_63 : decode cX1_formBundles 63 = .ok (.iload_n 2, 1) := by decide +kernel
theorem dX1_formBundles_64 : decode cX1_formBundles 64 = .ok (.bipush 8, 2) := by decide +kernel
theorem dX1_formBundles_66 : decode cX1_formBundles 66 = .ok (.if_icmp .ge 46, 3) := by decide +kernel
theorem dX1_formBundles_69 : decode cX1_formBundles 69 = .ok (.aload_n 0, 1) := by decide +kernel
theorem dX1_formBundles_70 : decode cX1_formBundles 70 = .ok (.getfield 11, 3) := by decide +kernel
theorem dX1_formBundles_73 : decode cX1_formBundles 73 = .ok (.iload_n 2, 1) := by decide +kernel
theorem dX1_formBundles_74 : decode cX1_formBundles 74 = .ok (.aaload, 1) := by decide +kernel
theorem dX1_formBundles_75 : decode cX1_formBundles 75 = .ok (.astore_n 3, 1) := by decide +kernel
theorem dX1_formBundles_76 : decode cX1_formBundles 76 = .ok (.aload_n 3, 1) := by decide +kernel
theorem dX1_formBundles_77 : decode cX1_formBundles 77 = .ok (.aload_n 3, 1) := by decide +kernel
theorem dX1_formBundles_78 : decode cX1_formBundles 78 = .ok (.getfield 79, 3) := by decide +kernel
theorem dX1_formBundles_81 : decode cX1_formBundles 81 = .ok (.iconst (-1), 1) := by decide +kernel
theorem dX1_formBundles_82 : decode cX1_formBundles 82 = .ok (.if_icmp .eq 20, 3) := by decide +kernel
theorem dX1_formBundles_85 : decode cX1_formBundles 85 = .ok (.aload_n 0, 1) := by decide +kernel
theorem dX1_formBundles_86 : decode cX1_formBundles 86 = .ok (.aload_n 3, 1) := by decide +kernel
theorem dX1_formBundles_87 : decode cX1_formBundles 87 = .ok (.iload_n 1, 1) := by decide +kernel
theorem dX1_formBundles_88 : decode cX1_formBundles 88 = .ok (.invokevirtual 82, 3) := by decide +kernel
theorem dX1_formBundles_91 : decode cX1_formBundles 91 = .ok (.aload_n 0, 1) := by decide +kernel
theorem dX1_formBundles_92 : decode cX1_formBundles 92 = .ok (.getfield 17, 3) := by decide +kernel
theorem dX1_formBundles_95 : decode cX1_formBundles 95 = .ok (.if_icmp .ge 7, 3) := by decide +kernel
theorem dX1_formBundles_98 : decode cX1_formBundles 98 = .ok (.iconst 1, 1) := by decide +kernel
theorem dX1_formBundles_99 : decode cX1_formBundles 99 = .ok (.goto 4, 3) := by decide +kernel
theorem dX1_formBundles_102 : decode cX1_formBundles 102 = .ok (.iconst 0, 1) := by decide +kernel
theorem dX1_formBundles_103 : decode cX1_formBundles 103 = .ok (.putfield 86, 3) := by decide +kernel
theorem dX1_formBundles_106 : decode cX1_formBundles 106 = .ok (.iinc 2 1, 3) := by decide +kernel
theorem dX1_formBundles_109 : decode cX1_formBundles 109 = .ok (.goto (-46), 3) := by decide +kernel
theorem dX1_formBundles_112 : decode cX1_formBundles 112 = .ok (.return_, 1) := by decide +kernel
noncomputable def bX1_formBundles_0 (Q : Option Value → MM → Prop) (nx : Nat → Kt) : Kt := cI 0 (stI 2 (nx 2))
noncomputable def bX1_formBundles_2 (Q : Option Value → MM → Prop) (nx : Nat → Kt) : Kt := ldI 2 (cI 8 (ifc (fun x y => y ≤ x) (nx 61) (ldA 0 (gR 1 0 (ldI 2 (aR 17 (stA 3 (ldA 0 (ldI 2 (cV 1 1 wX1_bundleOf 0 0 0 0 (stI 4 (ldA 3 (gI 5 5 (cI 4 (ifc (fun x y => x = y) (ldA 3 (gI 5 10 (ldI 4 (ifc (fun x y => x = y) (nx 49) (ldA 0 (du (gI 1 8 (cI 1 (bop (fun x y => x + y) (tI 1 8 (nx 49))))))))))) (nx 49))))))))))))))))
noncomputable def bX1_formBundles_49 (Q : Option Value → MM → Prop) (nx : Nat → Kt) : Kt := ldA 3 (ldI 4 (tI 5 10 (inc 2 1 (nx 2))))
noncomputable def bX1_formBundles_61 (Q : Option Value → MM → Prop) (nx : Nat → Kt) : Kt := cI 0 (stI 2 (nx 63))
noncomputable def bX1_formBundles_63 (Q : Option Value → MM → Prop) (nx : Nat → Kt) : Kt := ldI 2 (cI 8 (ifc (fun x y => y ≤ x) (nx 112) (ldA 0 (gR 1 0 (ldI 2 (aR 17 (stA 3 (ldA 3 (ldA 3 (gI 5 10 (cI (-1) (ifc (fun x y => x = y) (nx 102) (ldA 0 (ldA 3 (ldI 1 (cV 2 1 wX1_countAhead 0 0 0 0 (ldA 0 (gI 1 2 (ifc (fun x y => y ≤ x) (nx 102) (cI 1 (nx 103)))))))))))))))))))))
noncomputable def bX1_formBundles_102 (Q : Option Value → MM → Prop) (nx : Nat → Kt) : Kt := cI 0 (nx 103)
noncomputable def bX1_formBundles_103 (Q : Option Value → MM → Prop) (nx : Nat → Kt) : Kt := tZ 5 11 (inc 2 1 (nx 63))
noncomputable def bX1_formBundles_112 (Q : Option Value → MM → Prop) (nx : Nat → Kt) : Kt := rV Q
noncomputable def kX1_formBundles (Q : Option Value → MM → Prop) (nx : Nat → Kt) : Nat → Kt := bse [(0, bX1_formBundles_0 Q nx), (2, bX1_formBundles_2 Q nx), (49, bX1_formBundles_49 Q nx), (61, bX1_formBundles_61 Q nx), (63, bX1_formBundles_63 Q nx), (102, bX1_formBundles_102 Q nx), (103, bX1_formBundles_103 Q nx), (112, bX1_formBundles_112 Q nx)]
abbrev rX1_formBundles : Room := { frames := 3, cells := 0, slots := 0, locals := 64 }
noncomputable def wX1_formBundles : Mw := mw 5 kX1_formBundles
set_option maxRecDepth 20000 in
theorem oX1_formBundles_0 {T : Ct} {Q : Option Value → MM → Prop} (C : Cx T cX1_formBundles 5 RX1 0 0) (CR : CxR T 3 64) (hr : T.2.2.2.2.2.2.2.2.1.sig.returnType = none) (hnm : T.2.2.2.2.2.2.2.2.1.name = "formBundles") {nx : Nat → Kt} (hn : ∀ pc, Sd T 5 (QT T Q 0 0) 0 0 pc (nx pc)) : Sd T 5 (QT T Q 0 0) 0 0 0 (bX1_formBundles_0 Q nx) := x_ic C dX1_formBundles_0 (by decide) (x_is_n C dX1_formBundles_1 rfl (by decide) (hn 2))
set_option maxRecDepth 20000 in
theorem oX1_formBundles_2 {T : Ct} {Q : Option Value → MM → Prop} (C : Cx T cX1_formBundles 5 RX1 0 0) (CR : CxR T 3 64) (hr : T.2.2.2.2.2.2.2.2.1.sig.returnType = none) (hnm : T.2.2.2.2.2.2.2.2.1.name = "formBundles") {nx : Nat → Kt} (hn : ∀ pc, Sd T 5 (QT T Q 0 0) 0 0 pc (nx pc)) : Sd T 5 (QT T Q 0 0) 0 0 2 (bX1_formBundles_2 Q nx) := x_il_n C dX1_formBundles_2 rfl (x_bp C dX1_formBundles_3 (by decide) (x_ic_ge C (hn 61) dX1_formBundles_5 (by decide) (x_al_n C dX1_formBundles_8 rfl (gf_X1_11 C dX1_formBundles_9 (x_il_n C dX1_formBundles_12 rfl (x_aald C (kd := 17) (t0 := 7) (by decide) (by decide) (fun _ => rfl) dX1_formBundles_13 (x_as_n C dX1_formBundles_14 rfl (by decide) (x_al_n C dX1_formBundles_15 rfl (x_il_n C dX1_formBundles_16 rfl (x_cV C CR mX1_bundleOf ⟨co_X1_bundleOf, init_X1, md_X1_bundleOf, by decide, by decide⟩ (ci := 1) (TX := TX1) (N := 9) rfl (by decide) ml_X1_75 im_X1_bundleOf se_X1_bundleOf dX1_formBundles_17 (x_is C dX1_formBundles_20 (by decide) (x_al_n C dX1_formBundles_22 rfl (gf_X1_65 C dX1_formBundles_23 (x_ic C dX1_formBundles_26 (by decide) (x_ic_ne C (hn 49) dX1_formBundles_27 (by decide) (x_al_n C dX1_formBundles_30 rfl (gf_X1_79 C dX1_formBundles_31 (x_il C dX1_formBundles_34 (x_ic_eq C (hn 49) dX1_formBundles_36 (by decide) (x_al_n C dX1_formBundles_39 rfl (x_dup C dX1_formBundles_40 (gf_X1_68 C dX1_formBundles_41 (x_ic C dX1_formBundles_44 (by decide) (x_iadd C dX1_formBundles_45 (pf_X1_68 C dX1_formBundles_46 (hn 49))))))))))))))))))))))))))
set_option maxRecDepth 20000 in
theorem oX1_formBundles_49 {T : Ct} {Q : Option Value → MM → Prop} (C : Cx T cX1_formBundles 5 RX1 0 0) (CR : CxR T 3 64) (hr : T.2.2.2.2.2.2.2.2.1.sig.returnType = none) (hnm : T.2.2.2.2.2.2.2.2.1.name = "formBundles") {nx : Nat → Kt} (hn : ∀ pc, Sd T 5 (QT T Q 0 0) 0 0 pc (nx pc)) : Sd T 5 (QT T Q 0 0) 0 0 49 (bX1_formBundles_49 Q nx) := x_al_n C dX1_formBundles_49 rfl (x_il C dX1_formBundles_50 (pf_X1_79 C dX1_formBundles_52 (x_inc C dX1_formBundles_55 (by decide) (by decide) (x_goto C (hn 2) dX1_formBundles_58 (by decide)))))
set_option maxRecDepth 20000 in
theorem oX1_formBundles_61 {T : Ct} {Q : Option Value → MM → Prop} (C : Cx T cX1_formBundles 5 RX1 0 0) (CR : CxR T 3 64) (hr : T.2.2.2.2.2.2.2.2.1.sig.returnType = none) (hnm : T.2.2.2.2.2.2.2.2.1.name = "formBundles") {nx : Nat → Kt} (hn : ∀ pc, Sd T 5 (QT T Q 0 0) 0 0 pc (nx pc)) : Sd T 5 (QT T Q 0 0) 0 0 61 (bX1_formBundles_61 Q nx) := x_ic C dX1_formBundles_61 (by decide) (x_is_n C dX1_formBundles_62 rfl (by decide) (hn 63))
set_option maxRecDepth 20000 in
theorem oX1_formBundles_63 {T : Ct} {Q : Option Value → MM → Prop} (C : Cx T cX1_formBundles 5 RX1 0 0) (CR : CxR T 3 64) (hr : T.2.2.2.2.2.2.2.2.1.sig.returnType = none) (hnm : T.2.2.2.2.2.2.2.2.1.name = "formBundles") {nx : Nat → Kt} (hn : ∀ pc, Sd T 5 (QT T Q 0 0) 0 0 pc (nx pc)) : Sd T 5 (QT T Q 0 0) 0 0 63 (bX1_formBundles_63 Q nx) := x_il_n C dX1_formBundles_63 rfl (x_bp C dX1_formBundles_64 (by decide) (x_ic_ge C (hn 112) dX1_formBundles_66 (by decide) (x_al_n C dX1_formBundles_69 rfl (gf_X1_11 C dX1_formBundles_70 (x_il_n C dX1_formBundles_73 rfl (x_aald C (kd := 17) (t0 := 7) (by decide) (by decide) (fun _ => rfl) dX1_formBundles_74 (x_as_n C dX1_formBundles_75 rfl (by decide) (x_al_n C dX1_formBundles_76 rfl (x_al_n C dX1_formBundles_77 rfl (gf_X1_79 C dX1_formBundles_78 (x_ic C dX1_formBundles_81 (by decide) (x_ic_eq C (hn 102) dX1_formBundles_82 (by decide) (x_al_n C dX1_formBundles_85 rfl (x_al_n C dX1_formBundles_86 rfl (x_il_n C dX1_formBundles_87 rfl (x_cV C CR mX1_countAhead ⟨co_X1_countAhead, init_X1, md_X1_countAhead, by decide, by decide⟩ (ci := 1) (TX := TX1) (N := 9) rfl (by decide) ml_X1_82 im_X1_countAhead se_X1_countAhead dX1_formBundles_88 (x_al_n C dX1_formBundles_91 rfl (gf_X1_17 C dX1_formBundles_92 (x_ic_ge C (hn 102) dX1_formBundles_95 (by decide) (x_ic C dX1_formBundles_98 (by decide) (x_goto C (hn 103) dX1_formBundles_99 (by decide))))))))))))))))))))))
set_option maxRecDepth 20000 in
theorem oX1_formBundles_102 {T : Ct} {Q : Option Value → MM → Prop} (C : Cx T cX1_formBundles 5 RX1 0 0) (CR : CxR T 3 64) (hr : T.2.2.2.2.2.2.2.2.1.sig.returnType = none) (hnm : T.2.2.2.2.2.2.2.2.1.name = "formBundles") {nx : Nat → Kt} (hn : ∀ pc, Sd T 5 (QT T Q 0 0) 0 0 pc (nx pc)) : Sd T 5 (QT T Q 0 0) 0 0 102 (bX1_formBundles_102 Q nx) := x_ic C dX1_formBundles_102 (by decide) (hn 103)
set_option maxRecDepth 20000 in
theorem oX1_formBundles_103 {T : Ct} {Q : Option Value → MM → Prop} (C : Cx T cX1_formBundles 5 RX1 0 0) (CR : CxR T 3 64) (hr : T.2.2.2.2.2.2.2.2.1.sig.returnType = none) (hnm : T.2.2.2.2.2.2.2.2.1.name = "formBundles") {nx : Nat → Kt} (hn : ∀ pc, Sd T 5 (QT T Q 0 0) 0 0 pc (nx pc)) : Sd T 5 (QT T Q 0 0) 0 0 103 (bX1_formBundles_103 Q nx) := pf_X1_86 C dX1_formBundles_103 (x_inc C dX1_formBundles_106 (by decide) (by decide) (x_goto C (hn 63) dX1_formBundles_109 (by decide)))
set_option maxRecDepth 20000 in
theorem oX1_formBundles_112 {T : Ct} {Q : Option Value → MM → Prop} (C : Cx T cX1_formBundles 5 RX1 0 0) (CR : CxR T 3 64) (hr : T.2.2.2.2.2.2.2.2.1.sig.returnType = none) (hnm : T.2.2.2.2.2.2.2.2.1.name = "formBundles") {nx : Nat → Kt} (hn : ∀ pc, Sd T 5 (QT T Q 0 0) 0 0 pc (nx pc)) : Sd T 5 (QT T Q 0 0) 0 0 112 (bX1_formBundles_112 Q nx) := x_rV C hr dX1_formBundles_112
set_option maxRecDepth 20000 in
theorem mX1_formBundles (l : Launch) (D : va_G) (cA : Nat → ClassId) (base : Nat) : Mc l D cA base yX1_formBundles cX1_formBundles 5 none rX1_formBundles wX1_formBundles := mc_of (by decide +kernel) kX1_formBundles (fun T Q C CR hr hnm nx hn => bse_ok _ (List.forall_mem_cons.mpr ⟨oX1_formBundles_0 C CR hr hnm hn, List.forall_mem_cons.mpr ⟨oX1_formBundles_2 C CR hr hnm hn, List.forall_mem_cons.mpr ⟨oX1_formBundles_49 C CR hr hnm hn, List.forall_mem_cons.mpr ⟨oX1_formBundles_61 C CR hr hnm hn, List.forall_mem_cons.mpr ⟨oX1_formBundles_63 C CR hr hnm hn, List.forall_mem_cons.mpr ⟨oX1_formBundles_102 C CR hr hnm hn, List.forall_mem_cons.mpr ⟨oX1_formBundles_103 C CR hr hnm hn, List.forall_mem_cons.mpr ⟨oX1_formBundles_112 C CR hr hnm hn, fun _ h => nomatch h⟩⟩⟩⟩⟩⟩⟩⟩))
theorem dX1_giverOf_0 : decode cX1_giverOf 0 = .ok (.iconst 0, 1) := by decide +kernel
theorem dX1_giverOf_1 : decode cX1_giverOf 1 = .ok (.istore_n 3, 1) := by decide +kernel
theorem dX1_giverOf_2 : decode cX1_giverOf 2 = .ok (.iconst 0, 1) := by decide +kernel
theorem dX1_giverOf_3 : decode cX1_giverOf 3 = .ok (.istore 4, 2) := by decide +kernel
theorem dX1_giverOf_5 : decode cX1_giverOf 5 = .ok (.iload 4, 2) := by decide +kernel
theorem dX1_giverOf_7 : decode cX1_giverOf 7 = .ok (.bipush 8, 2) := by decide +kernel
theorem dX1_giverOf_9 : decode cX1_giverOf 9 = .ok (.if_icmp .ge 26, 3) := by decide +kernel
theorem dX1_giverOf_12 : decode cX1_giverOf 12 = .ok (.aload_n 0, 1) := by decide +kernel
theorem dX1_giverOf_13 : decode cX1_giverOf 13 = .ok (.getfield 11, 3) := by decide +kernel
theorem dX1_giverOf_16 : decode cX1_giverOf 16 = .ok (.iload 4, 2) := by decide +kernel
theorem dX1_giverOf_18 : decode cX1_giverOf 18 = .ok (.aaload, 1) := by decide +kernel
theorem dX1_giverOf_19 : decode cX1_giverOf 19 = .ok (.iload_n 1, 1) := by decide +kernel
theorem dX1_giverOf_20 : decode cX1_giverOf 20 = .ok (.invokevirtual 102, 3) := by decide +kernel
theorem dX1_giverOf_23 : decode cX1_giverOf 23 = .ok (.ifCond .eq 6, 3) := by decide +kernel
theorem dX1_giverOf_26 : decode cX1_giverOf 26 = .ok (.iinc 3 1, 3) := by decide +kernel
theorem dX1_giverOf_29 : decode cX1_giverOf 29 = .ok (.iinc 4 1, 3) := by decide +kernel
theorem dX1_giverOf_32 : decode cX1_giverOf 32 = .ok (.goto (-27), 3) := by decide +kernel
theorem dX1_giverOf_35 : decode cX1_giverOf 35 = .ok (.iload_n 3, 1) := by decide +kernel
theorem dX1_giverOf_36 : decode cX1_giverOf 36 = .ok (.ifCond .ne 5, 3) := by decide +kernel
theorem dX1_giverOf_39 : decode cX1_giverOf 39 = .ok (.aconst_null, 1) := by decide +kernel
theorem dX1_giverOf_40 : decode cX1_giverOf 40 = .ok (.areturn, 1) := by decide +kernel
theorem dX1_giverOf_41 : decode cX1_giverOf 41 = .ok (.iload_n 2, 1) := by decide +kernel
theorem dX1_giverOf_42 : decode cX1_giverOf 42 = .ok (.iload_n 3, 1) := by decide +kernel
theorem dX1_giverOf_43 : decode cX1_giverOf 43 = .ok (.irem, 1) := by decide +kernel
theorem dX1_giverOf_44 : decode cX1_giverOf 44 = .ok (.istore 4, 2) := by decide +kernel
theorem dX1_giverOf_46 : decode cX1_giverOf 46 = .ok (.iconst 0, 1) := by decide +kernel
theorem dX1_giverOf_47 : decode cX1_giverOf 47 = .ok (.istore 5, 2) := by decide +kernel
theorem dX1_giverOf_49 : decode cX1_giverOf 49 = .ok (.iload 5, 2) := by decide +kernel
theorem dX1_giverOf_51 : decode cX1_giverOf 51 = .ok (.bipush 8, 2) := by decide +kernel
theorem dX1_giverOf_53 : decode cX1_giverOf 53 = .ok (.if_icmp .ge 39, 3) := by decide +kernel
theorem dX1_giverOf_56 : decode cX1_giverOf 56 = .ok (.aload_n 0, 1) := by decide +kernel
theorem dX1_giverOf_57 : decode cX1_giverOf 57 = .ok (.getfield 11, 3) := by decide +kernel
theorem dX1_giverOf_60 : decode cX1_giverOf 60 = .ok (.iload 5, 2) := by decide +kernel
theorem dX1_giverOf_62 : decode cX1_giverOf 62 = .ok (.aaload, 1) := by decide +kernel
theorem dX1_giverOf_63 : decode cX1_giverOf 63 = .ok (.iload_n 1, 1) := by decide +kernel
theorem dX1_giverOf_64 : decode cX1_giverOf 64 = .ok (.invokevirtual 102, 3) := by decide +kernel
theorem dX1_giverOf_67 : decode cX1_giverOf 67 = .ok (.ifCond .eq 19, 3) := by decide +kernel
theorem dX1_giverOf_70 : decode cX1_giverOf 70 = .ok (.iload 4, 2) := by decide +kernel
theorem dX1_giverOf_72 : decode cX1_giverOf 72 = .ok (.ifCond .ne 11, 3) := by decide +kernel
theorem dX1_giverOf_75 : decode cX1_giverOf 75 = .ok (.aload_n 0, 1) := by decide +kernel
theorem dX1_giverOf_76 : decode cX1_giverOf 76 = .ok (.getfield 11, 3) := by decide +kernel
theorem dX1_giverOf_79 : decode cX1_giverOf 79 = .ok (.iload 5, 2) := by decide +kernel
theorem dX1_giverOf_81 : decode cX1_giverOf 81 = .ok (.aaload, 1) := by decide +kernel
theorem dX1_giverOf_82 : decode cX1_giverOf 82 = .ok (.areturn, 1) := by decide +kernel
theorem dX1_giverOf_83 : decode cX1_giverOf 83 = .ok (.iinc 4 (-1), 3) := by decide +kernel
theorem dX1_giverOf_86 : decode cX1_giverOf 86 = .ok (.iinc 5 1, 3) := by decide +kernel
theorem dX1_giverOf_89 : decode cX1_giverOf 89 = .ok (.goto (-40), 3) := by decide +kernel
theorem dX1_giverOf_92 : decode cX1_giverOf 92 = .ok (.aconst_null, 1) := by decide +kernel
theorem dX1_giverOf_93 : decode cX1_giverOf 93 = .ok (.areturn, 1) := by decide +kernel
noncomputable def bX1_giverOf_0 (Q : Option Value → MM → Prop) (nx : Nat → Kt) : Kt := cI 0 (stI 3 (cI 0 (stI 4 (nx 5))))
noncomputable def bX1_giverOf_5 (Q : Option Value → MM → Prop) (nx : Nat → Kt) : Kt := ldI 4 (cI 8 (ifc (fun x y => y ≤ x) (nx 35) (ldA 0 (gR 1 0 (ldI 4 (aR 17 (ldI 1 (cV 1 5 wX5_gives 0 0 0 0 (ifz (fun x => x = 0) (nx 29) (inc 3 1 (nx 29)))))))))))
noncomputable def bX1_giverOf_29 (Q : Option Value → MM → Prop) (nx : Nat → Kt) : Kt := inc 4 1 (nx 5)
noncomputable def bX1_giverOf_35 (Q : Option Value → MM → Prop) (nx : Nat → Kt) : Kt := ldI 3 (ifz (fun x => x = 0) (nul (rA Q)) (nx 41))
noncomputable def bX1_giverOf_41 (Q : Option Value → MM → Prop) (nx : Nat → Kt) : Kt := ldI 2 (ldI 3 (bod (fun x y => x - x / y * y) (stI 4 (cI 0 (stI 5 (nx 49))))))
noncomputable def bX1_giverOf_49 (Q : Option Value → MM → Prop) (nx : Nat → Kt) : Kt := ldI 5 (cI 8 (ifc (fun x y => y ≤ x) (nx 92) (ldA 0 (gR 1 0 (ldI 5 (aR 17 (ldI 1 (cV 1 5 wX5_gives 0 0 0 0 (ifz (fun x => x = 0) (nx 86) (ldI 4 (ifz (fun x => x = 0) (ldA 0 (gR 1 0 (ldI 5 (aR 17 (rA Q))))) (nx 83))))))))))))
noncomputable def bX1_giverOf_83 (Q : Option Value → MM → Prop) (nx : Nat → Kt) : Kt := inc 4 (-1) (nx 86)
noncomputable def bX1_giverOf_86 (Q : Option Value → MM → Prop) (nx : Nat → Kt) : Kt := inc 5 1 (nx 49)
noncomputable def bX1_giverOf_92 (Q : Option Value → MM → Prop) (nx : Nat → Kt) : Kt := nul (rA Q)
noncomputable def kX1_giverOf (Q : Option Value → MM → Prop) (nx : Nat → Kt) : Nat → Kt := bse [(0, bX1_giverOf_0 Q nx), (5, bX1_giverOf_5 Q nx), (29, bX1_giverOf_29 Q nx), (35, bX1_giverOf_35 Q nx), (41, bX1_giverOf_41 Q nx), (49, bX1_giverOf_49 Q nx), (83, bX1_giverOf_83 Q nx), (86, bX1_giverOf_86 Q nx), (92, bX1_giverOf_92 Q nx)]
abbrev rX1_giverOf : Room := { frames := 1, cells := 0, slots := 0, locals := 21 }
noncomputable def wX1_giverOf : Mw := mw 6 kX1_giverOf
set_option maxRecDepth 20000 in
theorem oX1_giverOf_0 {T : Ct} {Q : Option Value → MM → Prop} (C : Cx T cX1_giverOf 6 RX1 0 0) (CR : CxR T 1 21) (hr : T.2.2.2.2.2.2.2.2.1.sig.returnType = (some (.object RX5))) (hnm : T.2.2.2.2.2.2.2.2.1.name = "giverOf") {nx : Nat → Kt} (hn : ∀ pc, Sd T 6 (QT T Q 0 0) 0 0 pc (nx pc)) : Sd T 6 (QT T Q 0 0) 0 0 0 (bX1_giverOf_0 Q nx) := x_ic C dX1_giverOf_0 (by decide) (x_is_n C dX1_giverOf_1 rfl (by decide) (x_ic C dX1_giverOf_2 (by decide) (x_is C dX1_giverOf_3 (by decide) (hn 5))))
set_option maxRecDepth 20000 in
theorem oX1_giverOf_5 {T : Ct} {Q : Option Value → MM → Prop} (C : Cx T cX1_giverOf 6 RX1 0 0) (CR : CxR T 1 21) (hr : T.2.2.2.2.2.2.2.2.1.sig.returnType = (some (.object RX5))) (hnm : T.2.2.2.2.2.2.2.2.1.name = "giverOf") {nx : Nat → Kt} (hn : ∀ pc, Sd T 6 (QT T Q 0 0) 0 0 pc (nx pc)) : Sd T 6 (QT T Q 0 0) 0 0 5 (bX1_giverOf_5 Q nx) := x_il C dX1_giverOf_5 (x_bp C dX1_giverOf_7 (by decide) (x_ic_ge C (hn 35) dX1_giverOf_9 (by decide) (x_al_n C dX1_giverOf_12 rfl (gf_X1_11 C dX1_giverOf_13 (x_il C dX1_giverOf_16 (x_aald C (kd := 17) (t0 := 7) (by decide) (by decide) (fun _ => rfl) dX1_giverOf_18 (x_il_n C dX1_giverOf_19 rfl (x_cV C CR mX5_gives ⟨co_X5_gives, init_X5, md_X5_gives, by decide, by decide⟩ (ci := 5) (TX := TX5) (N := 18) rfl (by decide) ml_X1_102 im_X5_gives se_X5_gives dX1_giverOf_20 (x_if_eq C (hn 29) dX1_giverOf_23 (by decide) (x_inc C dX1_giverOf_26 (by decide) (by decide) (hn 29)))))))))))
set_option maxRecDepth 20000 in
theorem oX1_giverOf_29 {T : Ct} {Q : Option Value → MM → Prop} (C : Cx T cX1_giverOf 6 RX1 0 0) (CR : CxR T 1 21) (hr : T.2.2.2.2.2.2.2.2.1.sig.returnType = (some (.object RX5))) (hnm : T.2.2.2.2.2.2.2.2.1.name = "giverOf") {nx : Nat → Kt} (hn : ∀ pc, Sd T 6 (QT T Q 0 0) 0 0 pc (nx pc)) : Sd T 6 (QT T Q 0 0) 0 0 29 (bX1_giverOf_29 Q nx) := x_inc C dX1_giverOf_29 (by decide) (by decide) (x_goto C (hn 5) dX1_giverOf_32 (by decide))
set_option maxRecDepth 20000 in
theorem oX1_giverOf_35 {T : Ct} {Q : Option Value → MM → Prop} (C : Cx T cX1_giverOf 6 RX1 0 0) (CR : CxR T 1 21) (hr : T.2.2.2.2.2.2.2.2.1.sig.returnType = (some (.object RX5))) (hnm : T.2.2.2.2.2.2.2.2.1.name = "giverOf") {nx : Nat → Kt} (hn : ∀ pc, Sd T 6 (QT T Q 0 0) 0 0 pc (nx pc)) : Sd T 6 (QT T Q 0 0) 0 0 35 (bX1_giverOf_35 Q nx) := x_il_n C dX1_giverOf_35 rfl (x_if_ne C (hn 41) dX1_giverOf_36 (by decide) (x_null C dX1_giverOf_39 (x_rA C hr dX1_giverOf_40)))
set_option maxRecDepth 20000 in
theorem oX1_giverOf_41 {T : Ct} {Q : Option Value → MM → Prop} (C : Cx T cX1_giverOf 6 RX1 0 0) (CR : CxR T 1 21) (hr : T.2.2.2.2.2.2.2.2.1.sig.returnType = (some (.object RX5))) (hnm : T.2.2.2.2.2.2.2.2.1.name = "giverOf") {nx : Nat → Kt} (hn : ∀ pc, Sd T 6 (QT T Q 0 0) 0 0 pc (nx pc)) : Sd T 6 (QT T Q 0 0) 0 0 41 (bX1_giverOf_41 Q nx) := x_il_n C dX1_giverOf_41 rfl (x_il_n C dX1_giverOf_42 rfl (x_irem C dX1_giverOf_43 (x_is C dX1_giverOf_44 (by decide) (x_ic C dX1_giverOf_46 (by decide) (x_is C dX1_giverOf_47 (by decide) (hn 49))))))
set_option maxRecDepth 20000 in
theorem oX1_giverOf_49 {T : Ct} {Q : Option Value → MM → Prop} (C : Cx T cX1_giverOf 6 RX1 0 0) (CR : CxR T 1 21) (hr : T.2.2.2.2.2.2.2.2.1.sig.returnType = (some (.object RX5))) (hnm : T.2.2.2.2.2.2.2.2.1.name = "giverOf") {nx : Nat → Kt} (hn : ∀ pc, Sd T 6 (QT T Q 0 0) 0 0 pc (nx pc)) : Sd T 6 (QT T Q 0 0) 0 0 49 (bX1_giverOf_49 Q nx) := x_il C dX1_giverOf_49 (x_bp C dX1_giverOf_51 (by decide) (x_ic_ge C (hn 92) dX1_giverOf_53 (by decide) (x_al_n C dX1_giverOf_56 rfl (gf_X1_11 C dX1_giverOf_57 (x_il C dX1_giverOf_60 (x_aald C (kd := 17) (t0 := 7) (by decide) (by decide) (fun _ => rfl) dX1_giverOf_62 (x_il_n C dX1_giverOf_63 rfl (x_cV C CR mX5_gives ⟨co_X5_gives, init_X5, md_X5_gives, by decide, by decide⟩ (ci := 5) (TX := TX5) (N := 18) rfl (by decide) ml_X1_102 im_X5_gives se_X5_gives dX1_giverOf_64 (x_if_eq C (hn 86) dX1_giverOf_67 (by decide) (x_il C dX1_giverOf_70 (x_if_ne C (hn 83) dX1_giverOf_72 (by decide) (x_al_n C dX1_giverOf_75 rfl (gf_X1_11 C dX1_giverOf_76 (x_il C dX1_giverOf_79 (x_aald C (kd := 17) (t0 := 7) (by decide) (by decide) (fun _ => rfl) dX1_giverOf_81 (x_rA C hr dX1_giverOf_82))))))))))))))))
set_option maxRecDepth 20000 in
theorem oX1_giverOf_83 {T : Ct} {Q : Option Value → MM → Prop} (C : Cx T cX1_giverOf 6 RX1 0 0) (CR : CxR T 1 21) (hr : T.2.2.2.2.2.2.2.2.1.sig.returnType = (some (.object RX5))) (hnm : T.2.2.2.2.2.2.2.2.1.name = "giverOf") {nx : Nat → Kt} (hn : ∀ pc, Sd T 6 (QT T Q 0 0) 0 0 pc (nx pc)) : Sd T 6 (QT T Q 0 0) 0 0 83 (bX1_giverOf_83 Q nx) := x_inc C dX1_giverOf_83 (by decide) (by decide) (hn 86)
set_option maxRecDepth 20000 in
theorem oX1_giverOf_86 {T : Ct} {Q : Option Value → MM → Prop} (C : Cx T cX1_giverOf 6 RX1 0 0) (CR : CxR T 1 21) (hr : T.2.2.2.2.2.2.2.2.1.sig.returnType = (some (.object RX5))) (hnm : T.2.2.2.2.2.2.2.2.1.name = "giverOf") {nx : Nat → Kt} (hn : ∀ pc, Sd T 6 (QT T Q 0 0) 0 0 pc (nx pc)) : Sd T 6 (QT T Q 0 0) 0 0 86 (bX1_giverOf_86 Q nx) := x_inc C dX1_giverOf_86 (by decide) (by decide) (x_goto C (hn 49) dX1_giverOf_89 (by decide))
set_option maxRecDepth 20000 in
theorem oX1_giverOf_92 {T : Ct} {Q : Option Value → MM → Prop} (C : Cx T cX1_giverOf 6 RX1 0 0) (CR : CxR T 1 21) (hr : T.2.2.2.2.2.2.2.2.1.sig.returnType = (some (.object RX5))) (hnm : T.2.2.2.2.2.2.2.2.1.name = "giverOf") {nx : Nat → Kt} (hn : ∀ pc, Sd T 6 (QT T Q 0 0) 0 0 pc (nx pc)) : Sd T 6 (QT T Q 0 0) 0 0 92 (bX1_giverOf_92 Q nx) := x_null C dX1_giverOf_92 (x_rA C hr dX1_giverOf_93)
set_option maxRecDepth 20000 in
theorem mX1_giverOf (l : Launch) (D : va_G) (cA : Nat → ClassId) (base : Nat) : Mc l D cA base yX1_giverOf cX1_giverOf 6 (some (.object RX5)) rX1_giverOf wX1_giverOf := mc_of (by decide +kernel) kX1_giverOf (fun T Q C CR hr hnm nx hn => bse_ok _ (List.forall_mem_cons.mpr ⟨oX1_giverOf_0 C CR hr hnm hn, List.forall_mem_cons.mpr ⟨oX1_giverOf_5 C CR hr hnm hn, List.forall_mem_cons.mpr ⟨oX1_giverOf_29 C CR hr hnm hn, List.forall_mem_cons.mpr ⟨oX1_giverOf_35 C CR hr hnm hn, List.forall_mem_cons.mpr ⟨oX1_giverOf_41 C CR hr hnm hn, List.forall_mem_cons.mpr ⟨oX1_giverOf_49 C CR hr hnm hn, List.forall_mem_cons.mpr ⟨oX1_giverOf_83 C CR hr hnm hn, List.forall_mem_cons.mpr ⟨oX1_giverOf_86 C CR hr hnm hn, List.forall_mem_cons.mpr ⟨oX1_giverOf_92 C CR hr hnm hn, fun _ h => nomatch h⟩⟩⟩⟩⟩⟩⟩⟩⟩))
