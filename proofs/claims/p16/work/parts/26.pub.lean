theorem dM_floorMod_0 : decode cM_floorMod 0 = .ok (.iload_n 0, 1) := by decide +kernel
theorem dM_floorMod_1 : decode cM_floorMod 1 = .ok (.iload_n 1, 1) := by decide +kernel
theorem dM_floorMod_2 : decode cM_floorMod 2 = .ok (.irem, 1) := by decide +kernel
theorem dM_floorMod_3 : decode cM_floorMod 3 = .ok (.istore_n 2, 1) := by decide +kernel
theorem dM_floorMod_4 : decode cM_floorMod 4 = .ok (.iload_n 0, 1) := by decide +kernel
theorem dM_floorMod_5 : decode cM_floorMod 5 = .ok (.iload_n 1, 1) := by decide +kernel
theorem dM_floorMod_6 : decode cM_floorMod 6 = .ok (.ixor, 1) := by decide +kernel
theorem dM_floorMod_7 : decode cM_floorMod 7 = .ok (.ifCond .ge 11, 3) := by decide +kernel
theorem dM_floorMod_10 : decode cM_floorMod 10 = .ok (.iload_n 2, 1) := by decide +kernel
theorem dM_floorMod_11 : decode cM_floorMod 11 = .ok (.ifCond .eq 7, 3) := by decide +kernel
theorem dM_floorMod_14 : decode cM_floorMod 14 = .ok (.iload_n 2, 1) := by decide +kernel
theorem dM_floorMod_15 : decode cM_floorMod 15 = .ok (.iload_n 1, 1) := by decide +kernel
theorem dM_floorMod_16 : decode cM_floorMod 16 = .ok (.iadd, 1) := by decide +kernel
theorem dM_floorMod_17 : decode cM_floorMod 17 = .ok (.ireturn, 1) := by decide +kernel
theorem dM_floorMod_18 : decode cM_floorMod 18 = .ok (.iload_n 2, 1) := by decide +kernel
theorem dM_floorMod_19 : decode cM_floorMod 19 = .ok (.ireturn, 1) := by decide +kernel
noncomputable def bM_floorMod_0 (Q : Option Value → MM → Prop) (nx : Nat → Kt) : Kt := ldI 0 (ldI 1 (bod (fun x y => x - x / y * y) (stI 2 (ldI 0 (ldI 1 (bop (fun x y => x ^^^ y) (ifz (fun x => 0 ≤ x) (nx 18) (ldI 2 (ifz (fun x => x = 0) (nx 18) (ldI 2 (ldI 1 (bop (fun x y => x + y) (rI Q)))))))))))))
noncomputable def bM_floorMod_18 (Q : Option Value → MM → Prop) (nx : Nat → Kt) : Kt := ldI 2 (rI Q)
noncomputable def kM_floorMod (Q : Option Value → MM → Prop) (nx : Nat → Kt) : Nat → Kt := bse [(0, bM_floorMod_0 Q nx), (18, bM_floorMod_18 Q nx)]
abbrev rM_floorMod : Room := { frames := 0, cells := 0, slots := 0, locals := 0 }
noncomputable def wM_floorMod : Mw := mw 3 kM_floorMod
set_option maxRecDepth 20000 in
theorem oM_floorMod_0 {T : Ct} {Q : Option Value → MM → Prop} (C : Cx T cM_floorMod 3 "java/lang/Math" 0 0) (CR : CxR T 0 0) (hr : T.2.2.2.2.2.2.2.2.1.sig.returnType = (some .int)) (hnm : T.2.2.2.2.2.2.2.2.1.name = "floorMod") {nx : Nat → Kt} (hn : ∀ pc, Sd T 3 (QT T Q 0 0) 0 0 pc (nx pc)) : Sd T 3 (QT T Q 0 0) 0 0 0 (bM_floorMod_0 Q nx) := x_il_n C dM_floorMod_0 rfl (x_il_n C dM_floorMod_1 rfl (x_irem C dM_floorMod_2 (x_is_n C dM_floorMod_3 rfl (by decide) (x_il_n C dM_floorMod_4 rfl (x_il_n C dM_floorMod_5 rfl (x_ixor C dM_floorMod_6 (x_if_ge C (hn 18) dM_floorMod_7 (by decide) (x_il_n C dM_floorMod_10 rfl (x_if_eq C (hn 18) dM_floorMod_11 (by decide) (x_il_n C dM_floorMod_14 rfl (x_il_n C dM_floorMod_15 rfl (x_iadd C dM_floorMod_16 (x_rI C hr dM_floorMod_17)))))))))))))
set_option maxRecDepth 20000 in
theorem oM_floorMod_18 {T : Ct} {Q : Option Value → MM → Prop} (C : Cx T cM_floorMod 3 "java/lang/Math" 0 0) (CR : CxR T 0 0) (hr : T.2.2.2.2.2.2.2.2.1.sig.returnType = (some .int)) (hnm : T.2.2.2.2.2.2.2.2.1.name = "floorMod") {nx : Nat → Kt} (hn : ∀ pc, Sd T 3 (QT T Q 0 0) 0 0 pc (nx pc)) : Sd T 3 (QT T Q 0 0) 0 0 18 (bM_floorMod_18 Q nx) := x_il_n C dM_floorMod_18 rfl (x_rI C hr dM_floorMod_19)
set_option maxRecDepth 20000 in
theorem mM_floorMod (l : Launch) (D : va_G) (cA : Nat → ClassId) (base : Nat) : Mc l D cA base yM_floorMod cM_floorMod 3 (some .int) rM_floorMod wM_floorMod := mc_ofF (by decide +kernel) kM_floorMod (fun T Q C CR hr hnm nx hn => bse_ok _ (List.forall_mem_cons.mpr ⟨oM_floorMod_0 C CR hr hnm hn, List.forall_mem_cons.mpr ⟨oM_floorMod_18 C CR hr hnm hn, fun _ h => nomatch h⟩⟩))
theorem dX7_system_0 : decode cX7_system 0 = .ok (.iload_n 1, 1) := by decide +kernel
theorem dX7_system_1 : decode cX7_system 1 = .ok (.invokestatic 25, 3) := by decide +kernel
theorem dX7_system_4 : decode cX7_system 4 = .ok (.ifCond .eq 14, 3) := by decide +kernel
theorem dX7_system_7 : decode cX7_system 7 = .ok (.iload_n 2, 1) := by decide +kernel
theorem dX7_system_8 : decode cX7_system 8 = .ok (.iconst 1, 1) := by decide +kernel
theorem dX7_system_9 : decode cX7_system 9 = .ok (.if_icmp .lt 9, 3) := by decide +kernel
theorem dX7_system_12 : decode cX7_system 12 = .ok (.iload_n 2, 1) := by decide +kernel
theorem dX7_system_13 : decode cX7_system 13 = .ok (.ldc 29, 2) := by decide +kernel
theorem dX7_system_15 : decode cX7_system 15 = .ok (.if_icmp .le 13, 3) := by decide +kernel
theorem dX7_system_18 : decode cX7_system 18 = .ok (.new 30, 3) := by decide +kernel
theorem dX7_system_21 : decode cX7_system 21 = .ok (.dup, 1) := by decide +kernel
theorem dX7_system_22 : decode cX7_system 22 = .ok (.ldc 32, 2) := by decide +kernel
theorem dX7_system_24 : decode cX7_system 24 = .ok (.invokespecial 34, 3) := by decide +kernel
theorem dX7_system_27 : decode cX7_system 27 = .ok (.athrow, 1) := by decide +kernel
theorem dX7_system_28 : decode cX7_system 28 = .ok (.aload_n 0, 1) := by decide +kernel
theorem dX7_system_29 : decode cX7_system 29 = .ok (.getfield 11, 3) := by decide +kernel
theorem dX7_system_32 : decode cX7_system 32 = .ok (.iconst 1, 1) := by decide +kernel
theorem dX7_system_33 : decode cX7_system 33 = .ok (.iload_n 1, 1) := by decide +kernel
theorem dX7_system_34 : decode cX7_system 34 = .ok (.isub, 1) := by decide +kernel
theorem dX7_system_35 : decode cX7_system 35 = .ok (.aaload, 1) := by decide +kernel
theorem dX7_system_36 : decode cX7_system 36 = .ok (.getfield 37, 3) := by decide +kernel
theorem dX7_system_39 : decode cX7_system 39 = .ok (.iload_n 2, 1) := by decide +kernel
theorem dX7_system_40 : decode cX7_system 40 = .ok (.if_icmp .ne 13, 3) := by decide +kernel
theorem dX7_system_43 : decode cX7_system 43 = .ok (.new 41, 3) := by decide +kernel
theorem dX7_system_46 : decode cX7_system 46 = .ok (.dup, 1) := by decide +kernel
theorem dX7_system_47 : decode cX7_system 47 = .ok (.ldc 43, 2) := by decide +kernel
theorem dX7_system_49 : decode cX7_system 49 = .ok (.invokespecial 45, 3) := by decide +kernel
theorem dX7_system_52 : decode cX7_system 52 = .ok (.athrow, 1) := by decide +kernel
theorem dX7_system_53 : decode cX7_system 53 = .ok (.aload_n 0, 1) := by decide +kernel
theorem dX7_system_54 : decode cX7_system 54 = .ok (.getfield 11, 3) := by decide +kernel
theorem dX7_system_57 : decode cX7_system 57 = .ok (.iload_n 1, 1) := by decide +kernel
theorem dX7_system_58 : decode cX7_system 58 = .ok (.aaload, 1) := by decide +kernel
theorem dX7_system_59 : decode cX7_system 59 = .ok (.getfield 37, 3) := by decide +kernel
theorem dX7_system_62 : decode cX7_system 62 = .ok (.istore_n 3, 1) := by decide +kernel
theorem dX7_system_63 : decode cX7_system 63 = .ok (.aload_n 0, 1) := by decide +kernel
theorem dX7_system_64 : decode cX7_system 64 = .ok (.getfield 11, 3) := by decide +kernel
theorem dX7_system_67 : decode cX7_system 67 = .ok (.iload_n 1, 1) := by decide +kernel
theorem dX7_system_68 : decode cX7_system 68 = .ok (.aaload, 1) := by decide +kernel
theorem dX7_system_69 : decode cX7_system 69 = .ok (.iload_n 2, 1) := by decide +kernel
theorem dX7_system_70 : decode cX7_system 70 = .ok (.invokevirtual 46, 3) := by decide +kernel
theorem dX7_system_73 : decode cX7_system 73 = .ok (.aload_n 0, 1) := by decide +kernel
theorem dX7_system_74 : decode cX7_system 74 = .ok (.invokevirtual 49, 3) := by decide +kernel
theorem dX7_system_77 : decode cX7_system 77 = .ok (.iload_n 3, 1) := by decide +kernel
theorem dX7_system_78 : decode cX7_system 78 = .ok (.ireturn, 1) := by decide +kernel
noncomputable def bX7_system_0 (Q : Option Value → MM → Prop) (X : String → MM → Prop) (nx : Nat → Kt) : Kt := ldI 1 (cS 1 wX7_isEnd 0 0 1 6 (ifz (fun x => x = 0) (nx 18) (ldI 2 (cI 1 (ifc (fun x y => x < y) (nx 18) (ldI 2 (cI 1000000 (ifc (fun x y => x ≤ y) (nx 28) (nx 18)))))))))
noncomputable def bX7_system_18 (Q : Option Value → MM → Prop) (X : String → MM → Prop) (nx : Nat → Kt) : Kt := thr eI X 1 6
noncomputable def bX7_system_28 (Q : Option Value → MM → Prop) (X : String → MM → Prop) (nx : Nat → Kt) : Kt := ldA 0 (gR 7 0 (cI 1 (ldI 1 (bop (fun x y => x - y) (aR 13 (gI 1 1 (ldI 2 (ifc (fun x y => x = y) (thr eS X 1 6) (nx 53)))))))))
noncomputable def bX7_system_53 (Q : Option Value → MM → Prop) (X : String → MM → Prop) (nx : Nat → Kt) : Kt := ldA 0 (gR 7 0 (ldI 1 (aR 13 (gI 1 1 (stI 3 (ldA 0 (gR 7 0 (ldI 1 (aR 13 (ldI 2 (cV 1 1 wX1_rename 0 0 1 6 (ldA 0 (cV 0 7 wX7_noteChange 0 0 1 6 (ldI 3 (rI Q)))))))))))))))
noncomputable def kX7_system (Q : Option Value → MM → Prop) (X : String → MM → Prop) (nx : Nat → Kt) : Nat → Kt := bse [(0, bX7_system_0 Q X nx), (18, bX7_system_18 Q X nx), (28, bX7_system_28 Q X nx), (53, bX7_system_53 Q X nx)]
abbrev rX7_system : Room := { frames := 6, cells := 1, slots := 6, locals := 88 }
noncomputable def wX7_system : Mx := mx 4 kX7_system
set_option maxRecDepth 20000 in
theorem oX7_system_0 {T : Ct} {Q : Option Value → MM → Prop} {X : String → MM → Prop} (C : Cx T cX7_system 4 RX7 1 6) (CR : CxR T 6 88) (CX : CxX T) (hr : T.2.2.2.2.2.2.2.2.1.sig.returnType = (some .int)) (hnm : T.2.2.2.2.2.2.2.2.1.name = "system") {nx : Nat → Kt} (hn : ∀ pc, Sd T 4 (QX T Q X 1 6) 1 6 pc (nx pc)) : Sd T 4 (QX T Q X 1 6) 1 6 0 (bX7_system_0 Q X nx) := x_il_n C dX7_system_0 rfl (x_cS C CR mX7_isEnd ⟨co_X7_isEnd, init_X7, md_X7_isEnd, by decide, by decide⟩ ml_X7_25 sm_X7_isEnd dX7_system_1 (x_if_eq C (hn 18) dX7_system_4 (by decide) (x_il_n C dX7_system_7 rfl (x_ic C dX7_system_8 (by decide) (x_ic_lt C (hn 18) dX7_system_9 (by decide) (x_il_n C dX7_system_12 rfl (x_lc C ct_X7_29 dX7_system_13 (x_ic_le C (hn 28) dX7_system_15 (by decide) (hn 18)))))))))
set_option maxRecDepth 20000 in
theorem oX7_system_18 {T : Ct} {Q : Option Value → MM → Prop} {X : String → MM → Prop} (C : Cx T cX7_system 4 RX7 1 6) (CR : CxR T 6 88) (CX : CxX T) (hr : T.2.2.2.2.2.2.2.2.1.sig.returnType = (some .int)) (hnm : T.2.2.2.2.2.2.2.2.1.name = "system") {nx : Nat → Kt} (hn : ∀ pc, Sd T 4 (QX T Q X 1 6) 1 6 pc (nx pc)) : Sd T 4 (QX T Q X 1 6) 1 6 18 (bX7_system_18 Q X nx) := x_thr C CR CX (by decide) (by decide) (E := eI) (text := "no such end, or system is not 1 to 1000000") (by decide +kernel) cl_X7_30 init_eI (by decide) at_iae dX7_system_18 dX7_system_21 dX7_system_22 dX7_system_24 dX7_system_27
set_option maxRecDepth 20000 in
theorem oX7_system_28 {T : Ct} {Q : Option Value → MM → Prop} {X : String → MM → Prop} (C : Cx T cX7_system 4 RX7 1 6) (CR : CxR T 6 88) (CX : CxX T) (hr : T.2.2.2.2.2.2.2.2.1.sig.returnType = (some .int)) (hnm : T.2.2.2.2.2.2.2.2.1.name = "system") {nx : Nat → Kt} (hn : ∀ pc, Sd T 4 (QX T Q X 1 6) 1 6 pc (nx pc)) : Sd T 4 (QX T Q X 1 6) 1 6 28 (bX7_system_28 Q X nx) := x_al_n C dX7_system_28 rfl (gf_X7_11 C dX7_system_29 (x_ic C dX7_system_32 (by decide) (x_il_n C dX7_system_33 rfl (x_isub C dX7_system_34 (x_aald C (kd := 13) (t0 := 3) (by decide) (by decide) (fun _ => rfl) dX7_system_35 (gf_X7_37 C dX7_system_36 (x_il_n C dX7_system_39 rfl (x_ic_ne C (hn 53) dX7_system_40 (by decide) (x_thr C CR CX (by decide) (by decide) (E := eS) (text := "the other end has this system") (by decide +kernel) cl_X7_41 init_eS (by decide) at_ise dX7_system_43 dX7_system_46 dX7_system_47 dX7_system_49 dX7_system_52)))))))))
set_option maxRecDepth 20000 in
theorem oX7_system_53 {T : Ct} {Q : Option Value → MM → Prop} {X : String → MM → Prop} (C : Cx T cX7_system 4 RX7 1 6) (CR : CxR T 6 88) (CX : CxX T) (hr : T.2.2.2.2.2.2.2.2.1.sig.returnType = (some .int)) (hnm : T.2.2.2.2.2.2.2.2.1.name = "system") {nx : Nat → Kt} (hn : ∀ pc, Sd T 4 (QX T Q X 1 6) 1 6 pc (nx pc)) : Sd T 4 (QX T Q X 1 6) 1 6 53 (bX7_system_53 Q X nx) := x_al_n C dX7_system_53 rfl (gf_X7_11 C dX7_system_54 (x_il_n C dX7_system_57 rfl (x_aald C (kd := 13) (t0 := 3) (by decide) (by decide) (fun _ => rfl) dX7_system_58 (gf_X7_37 C dX7_system_59 (x_is_n C dX7_system_62 rfl (by decide) (x_al_n C dX7_system_63 rfl (gf_X7_11 C dX7_system_64 (x_il_n C dX7_system_67 rfl (x_aald C (kd := 13) (t0 := 3) (by decide) (by decide) (fun _ => rfl) dX7_system_68 (x_il_n C dX7_system_69 rfl (x_cV C CR mX1_rename ⟨co_X1_rename, init_X1, md_X1_rename, by decide, by decide⟩ (ci := 1) (TX := TX1) (N := 9) rfl (by decide) ml_X7_46 im_X1_rename se_X1_rename dX7_system_70 (x_al_n C dX7_system_73 rfl (x_cV C CR mX7_noteChange ⟨co_X7_noteChange, init_X7, md_X7_noteChange, by decide, by decide⟩ (ci := 7) (TX := TX7) (N := 9) rfl (by decide) ml_X7_49 im_X7_noteChange se_X7_noteChange dX7_system_74 (x_il_n C dX7_system_77 rfl (x_up (x_rI C hr dX7_system_78))))))))))))))))
set_option maxRecDepth 20000 in
theorem mX7_system (l : Launch) (hst : l.stackTraces = false) (D : va_G) (cA : Nat → ClassId) (base : Nat) : McX l D cA base yX7_system cX7_system 4 (some .int) rX7_system wX7_system := mcX_of hst (by decide +kernel) kX7_system (fun T Q X C CR CX hr hnm nx hn => bse_ok _ (List.forall_mem_cons.mpr ⟨oX7_system_0 C CR CX hr hnm hn, List.forall_mem_cons.mpr ⟨oX7_system_18 C CR CX hr hnm hn, List.forall_mem_cons.mpr ⟨oX7_system_28 C CR CX hr hnm hn, List.forall_mem_cons.mpr ⟨oX7_system_53 C CR CX hr hnm hn, fun _ h => nomatch h⟩⟩⟩⟩))
theorem dX7_limit_0 : decode cX7_limit 0 = .ok (.iload_n 1, 1) := by decide +kernel
theorem dX7_limit_1 : decode cX7_limit 1 = .ok (.invokestatic 25, 3) := by decide +kernel
theorem dX7_limit_4 : decode cX7_limit 4 = .ok (.ifCond .eq 14, 3) := by decide +kernel
theorem dX7_limit_7 : decode cX7_limit 7 = .ok (.iload_n 2, 1) := by decide +kernel
theorem dX7_limit_8 : decode cX7_limit 8 = .ok (.iconst 1, 1) := by decide +kernel
theorem dX7_limit_9 : decode cX7_limit 9 = .ok (.if_icmp .lt 9, 3) := by decide +kernel
theorem dX7_limit_12 : decode cX7_limit 12 = .ok (.iload_n 2, 1) := by decide +kernel
theorem dX7_limit_13 : decode cX7_limit 13 = .ok (.bipush 8, 2) := by decide +kernel
theorem dX7_limit_15 : decode cX7_limit 15 = .ok (.if_icmp .le 13, 3) := by decide +kernel
theorem dX7_limit_18 : decode cX7_limit 18 = .ok (.new 30, 3) := by decide +kernel
theorem dX7_limit_21 : decode cX7_limit 21 = .ok (.dup, 1) := by decide +kernel
theorem dX7_limit_22 : decode cX7_limit 22 = .ok (.ldc 52, 2) := by decide +kernel
theorem dX7_limit_24 : decode cX7_limit 24 = .ok (.invokespecial 34, 3) := by decide +kernel
theorem dX7_limit_27 : decode cX7_limit 27 = .ok (.athrow, 1) := by decide +kernel
theorem dX7_limit_28 : decode cX7_limit 28 = .ok (.aload_n 0, 1) := by decide +kernel
theorem dX7_limit_29 : decode cX7_limit 29 = .ok (.getfield 11, 3) := by decide +kernel
theorem dX7_limit_32 : decode cX7_limit 32 = .ok (.iload_n 1, 1) := by decide +kernel
theorem dX7_limit_33 : decode cX7_limit 33 = .ok (.aaload, 1) := by decide +kernel
theorem dX7_limit_34 : decode cX7_limit 34 = .ok (.getfield 54, 3) := by decide +kernel
theorem dX7_limit_37 : decode cX7_limit 37 = .ok (.istore_n 3, 1) := by decide +kernel
theorem dX7_limit_38 : decode cX7_limit 38 = .ok (.aload_n 0, 1) := by decide +kernel
theorem dX7_limit_39 : decode cX7_limit 39 = .ok (.getfield 11, 3) := by decide +kernel
theorem dX7_limit_42 : decode cX7_limit 42 = .ok (.iload_n 1, 1) := by decide +kernel
theorem dX7_limit_43 : decode cX7_limit 43 = .ok (.aaload, 1) := by decide +kernel
theorem dX7_limit_44 : decode cX7_limit 44 = .ok (.iload_n 2, 1) := by decide +kernel
theorem dX7_limit_45 : decode cX7_limit 45 = .ok (.putfield 54, 3) := by decide +kernel
theorem dX7_limit_48 : decode cX7_limit 48 = .ok (.aload_n 0, 1) := by decide +kernel
theorem dX7_limit_49 : decode cX7_limit 49 = .ok (.invokevirtual 49, 3) := by decide +kernel
theorem dX7_limit_52 : decode cX7_limit 52 = .ok (.iload_n 3, 1) := by decide +kernel
theorem dX7_limit_53 : decode cX7_limit 53 = .ok (.ireturn, 1) := by decide +kernel
noncomputable def bX7_limit_0 (Q : Option Value → MM → Prop) (X : String → MM → Prop) (nx : Nat → Kt) : Kt := ldI 1 (cS 1 wX7_isEnd 0 0 1 6 (ifz (fun x => x = 0) (nx 18) (ldI 2 (cI 1 (ifc (fun x y => x < y) (nx 18) (ldI 2 (cI 8 (ifc (fun x y => x ≤ y) (nx 28) (nx 18)))))))))
noncomputable def bX7_limit_18 (Q : Option Value → MM → Prop) (X : String → MM → Prop) (nx : Nat → Kt) : Kt := thr eI X 1 6
noncomputable def bX7_limit_28 (Q : Option Value → MM → Prop) (X : String → MM → Prop) (nx : Nat → Kt) : Kt := ldA 0 (gR 7 0 (ldI 1 (aR 13 (gI 1 2 (stI 3 (ldA 0 (gR 7 0 (ldI 1 (aR 13 (ldI 2 (tI 1 2 (ldA 0 (cV 0 7 wX7_noteChange 0 0 1 6 (ldI 3 (rI Q)))))))))))))))
noncomputable def kX7_limit (Q : Option Value → MM → Prop) (X : String → MM → Prop) (nx : Nat → Kt) : Nat → Kt := bse [(0, bX7_limit_0 Q X nx), (18, bX7_limit_18 Q X nx), (28, bX7_limit_28 Q X nx)]
abbrev rX7_limit : Room := { frames := 6, cells := 1, slots := 6, locals := 88 }
noncomputable def wX7_limit : Mx := mx 4 kX7_limit
set_option maxRecDepth 20000 in
theorem oX7_limit_0 {T : Ct} {Q : Option Value → MM → Prop} {X : String → MM → Prop} (C : Cx T cX7_limit 4 RX7 1 6) (CR : CxR T 6 88) (CX : CxX T) (hr : T.2.2.2.2.2.2.2.2.1.sig.returnType = (some .int)) (hnm : T.2.2.2.2.2.2.2.2.1.name = "limit") {nx : Nat → Kt} (hn : ∀ pc, Sd T 4 (QX T Q X 1 6) 1 6 pc (nx pc)) : Sd T 4 (QX T Q X 1 6) 1 6 0 (bX7_limit_0 Q X nx) := x_il_n C dX7_limit_0 rfl (x_cS C CR mX7_isEnd ⟨co_X7_isEnd, init_X7, md_X7_isEnd, by decide, by decide⟩ ml_X7_25 sm_X7_isEnd dX7_limit_1 (x_if_eq C (hn 18) dX7_limit_4 (by decide) (x_il_n C dX7_limit_7 rfl (x_ic C dX7_limit_8 (by decide) (x_ic_lt C (hn 18) dX7_limit_9 (by decide) (x_il_n C dX7_limit_12 rfl (x_bp C dX7_limit_13 (by decide) (x_ic_le C (hn 28) dX7_limit_15 (by decide) (hn 18)))))))))
set_option maxRecDepth 20000 in
theorem oX7_limit_18 {T : Ct} {Q : Option Value → MM → Prop} {X : String → MM → Prop} (C : Cx T cX7_limit 4 RX7 1 6) (CR : CxR T 6 88) (CX : CxX T) (hr : T.2.2.2.2.2.2.2.2.1.sig.returnType = (some .int)) (hnm : T.2.2.2.2.2.2.2.2.1.name = "limit") {nx : Nat → Kt} (hn : ∀ pc, Sd T 4 (QX T Q X 1 6) 1 6 pc (nx pc)) : Sd T 4 (QX T Q X 1 6) 1 6 18 (bX7_limit_18 Q X nx) := x_thr C CR CX (by decide) (by decide) (E := eI) (text := "no such end, or limit is not 1 to 8") (by decide +kernel) cl_X7_30 init_eI (by decide) at_iae dX7_limit_18 dX7_limit_21 dX7_limit_22 dX7_limit_24 dX7_limit_27
set_option maxRecDepth 20000 in
theorem oX7_limit_28 {T : Ct} {Q : Option Value → MM → Prop} {X : String → MM → Prop} (C : Cx T cX7_limit 4 RX7 1 6) (CR : CxR T 6 88) (CX : CxX T) (hr : T.2.2.2.2.2.2.2.2.1.sig.returnType = (some .int)) (hnm : T.2.2.2.2.2.2.2.2.1.name = "limit") {nx : Nat → Kt} (hn : ∀ pc, Sd T 4 (QX T Q X 1 6) 1 6 pc (nx pc)) : Sd T 4 (QX T Q X 1 6) 1 6 28 (bX7_limit_28 Q X nx) := x_al_n C dX7_limit_28 rfl (gf_X7_11 C dX7_limit_29 (x_il_n C dX7_limit_32 rfl (x_aald C (kd := 13) (t0 := 3) (by decide) (by decide) (fun _ => rfl) dX7_limit_33 (gf_X7_54 C dX7_limit_34 (x_is_n C dX7_limit_37 rfl (by decide) (x_al_n C dX7_limit_38 rfl (gf_X7_11 C dX7_limit_39 (x_il_n C dX7_limit_42 rfl (x_aald C (kd := 13) (t0 := 3) (by decide) (by decide) (fun _ => rfl) dX7_limit_43 (x_il_n C dX7_limit_44 rfl (pf_X7_54 C dX7_limit_45 (x_al_n C dX7_limit_48 rfl (x_cV C CR mX7_noteChange ⟨co_X7_noteChange, init_X7, md_X7_noteChange, by decide, by decide⟩ (ci := 7) (TX := TX7) (N := 9) rfl (by decide) ml_X7_49 im_X7_noteChange se_X7_noteChange dX7_limit_49 (x_il_n C dX7_limit_52 rfl (x_up (x_rI C hr dX7_limit_53))))))))))))))))
set_option maxRecDepth 20000 in
theorem mX7_limit (l : Launch) (hst : l.stackTraces = false) (D : va_G) (cA : Nat → ClassId) (base : Nat) : McX l D cA base yX7_limit cX7_limit 4 (some .int) rX7_limit wX7_limit := mcX_of hst (by decide +kernel) kX7_limit (fun T Q X C CR CX hr hnm nx hn => bse_ok _ (List.forall_mem_cons.mpr ⟨oX7_limit_0 C CR CX hr hnm hn, List.forall_mem_cons.mpr ⟨oX7_limit_18 C CR CX hr hnm hn, List.forall_mem_cons.mpr ⟨oX7_limit_28 C CR CX hr hnm hn, fun _ h => nomatch h⟩⟩⟩))
theorem dX7_port_0 : decode cX7_port 0 = .ok (.iload_n 1, 1) := by decide +kernel
theorem dX7_port_1 : decode cX7_port 1 = .ok (.invokestatic 25, 3) := by decide +kernel
theorem dX7_port_4 : decode cX7_port 4 = .ok (.ifCond .eq 25, 3) := by decide +kernel
theorem dX7_port_7 : decode cX7_port 7 = .ok (.iload_n 2, 1) := by decide +kernel
theorem dX7_port_8 : decode cX7_port 8 = .ok (.invokestatic 57, 3) := by decide +kernel
theorem dX7_port_11 : decode cX7_port 11 = .ok (.ifCond .eq 18, 3) := by decide +kernel
theorem dX7_port_14 : decode cX7_port 14 = .ok (.iload_n 3, 1) := by decide +kernel
theorem dX7_port_15 : decode cX7_port 15 = .ok (.invokestatic 60, 3) := by decide +kernel
theorem dX7_port_18 : decode cX7_port 18 = .ok (.ifCond .eq 11, 3) := by decide +kernel
theorem dX7_port_21 : decode cX7_port 21 = .ok (.iload 4, 2) := by decide +kernel
theorem dX7_port_23 : decode cX7_port 23 = .ok (.invokestatic 60, 3) := by decide +kernel
theorem dX7_port_26 : decode cX7_port 26 = .ok (.ifCond .ne 13, 3) := by decide +kernel
theorem dX7_port_29 : decode cX7_port 29 = .ok (.new 30, 3) := by decide +kernel
theorem dX7_port_32 : decode cX7_port 32 = .ok (.dup, 1) := by decide +kernel
theorem dX7_port_33 : decode cX7_port 33 = .ok (.ldc 63, 2) := by decide +kernel
theorem dX7_port_35 : decode cX7_port 35 = .ok (.invokespecial 34, 3) := by decide +kernel
theorem dX7_port_38 : decode cX7_port 38 = .ok (.athrow, 1) := by decide +kernel
theorem dX7_port_39 : decode cX7_port 39 = .ok (.aload_n 0, 1) := by decide +kernel
theorem dX7_port_40 : decode cX7_port 40 = .ok (.getfield 11, 3) := by decide +kernel
theorem dX7_port_43 : decode cX7_port 43 = .ok (.iload_n 1, 1) := by decide +kernel
theorem dX7_port_44 : decode cX7_port 44 = .ok (.aaload, 1) := by decide +kernel
theorem dX7_port_45 : decode cX7_port 45 = .ok (.getfield 65, 3) := by decide +kernel
theorem dX7_port_48 : decode cX7_port 48 = .ok (.iload_n 2, 1) := by decide +kernel
theorem dX7_port_49 : decode cX7_port 49 = .ok (.aaload, 1) := by decide +kernel
theorem dX7_port_50 : decode cX7_port 50 = .ok (.getfield 69, 3) := by decide +kernel
theorem dX7_port_53 : decode cX7_port 53 = .ok (.astore 5, 2) := by decide +kernel
theorem dX7_port_55 : decode cX7_port 55 = .ok (.aload 5, 2) := by decide +kernel
theorem dX7_port_57 : decode cX7_port 57 = .ok (.iload_n 3, 1) := by decide +kernel
theorem dX7_port_58 : decode cX7_port 58 = .ok (.putfield 75, 3) := by decide +kernel
theorem dX7_port_61 : decode cX7_port 61 = .ok (.aload 5, 2) := by decide +kernel
theorem dX7_port_63 : decode cX7_port 63 = .ok (.iload 4, 2) := by decide +kernel
theorem dX7_port_65 : decode cX7_port 65 = .ok (.putfield 80, 3) := by decide +kernel
theorem dX7_port_68 : decode cX7_port 68 = .ok (.aload 5, 2) := by decide +kernel
theorem dX7_port_70 : decode cX7_port 70 = .ok (.iconst 4, 1) := by decide +kernel
theorem dX7_port_71 : decode cX7_port 71 = .ok (.iload_n 3, 1) := by decide +kernel
theorem dX7_port_72 : decode cX7_port 72 = .ok (.ifCond .le 7, 3) := by decide +kernel
theorem dX7_port_75 : decode cX7_port 75 = .ok (.iconst 1, 1) := by decide +kernel
theorem dX7_port_76 : decode cX7_port 76 = .ok (.goto 4, 3) := by decide +kernel
theorem dX7_port_79 : decode cX7_port 79 = .ok (.iconst 0, 1) := by decide +kernel
theorem dX7_port_80 : decode cX7_port 80 = .ok (.invokevirtual 83, 3) := by decide +kernel
theorem dX7_port_83 : decode cX7_port 83 = .ok (.aload_n 0, 1) := by decide +kernel
theorem dX7_port_84 : decode cX7_port 84 = .ok (.invokevirtual 49, 3) := by decide +kernel
theorem dX7_port_87 : decode cX7_port 87 = .ok (.return_, 1) := by decide +kernel
noncomputable def bX7_port_0 (Q : Option Value → MM → Prop) (X : String → MM → Prop) (nx : Nat → Kt) : Kt := ldI 1 (cS 1 wX7_isEnd 0 0 1 6 (ifz (fun x => x = 0) (nx 29) (ldI 2 (cS 1 wX7_isPort 0 0 1 6 (ifz (fun x => x = 0) (nx 29) (ldI 3 (cS 1 wX7_isWord 0 0 1 6 (ifz (fun x => x = 0) (nx 29) (ldI 4 (cS 1 wX7_isWord 0 0 1 6 (ifz (fun x => x = 0) (nx 29) (nx 39))))))))))))
noncomputable def bX7_port_29 (Q : Option Value → MM → Prop) (X : String → MM → Prop) (nx : Nat → Kt) : Kt := thr eI X 1 6
noncomputable def bX7_port_39 (Q : Option Value → MM → Prop) (X : String → MM → Prop) (nx : Nat → Kt) : Kt := ldA 0 (gR 7 0 (ldI 1 (aR 13 (gR 1 0 (ldI 2 (aR 17 (gR 5 0 (stA 5 (ldA 5 (ldI 3 (tI 6 1 (ldA 5 (ldI 4 (tI 6 2 (ldA 5 (cI 4 (ldI 3 (ifz (fun x => x ≤ 0) (nx 79) (cI 1 (nx 80))))))))))))))))))))
noncomputable def bX7_port_79 (Q : Option Value → MM → Prop) (X : String → MM → Prop) (nx : Nat → Kt) : Kt := cI 0 (nx 80)
noncomputable def bX7_port_80 (Q : Option Value → MM → Prop) (X : String → MM → Prop) (nx : Nat → Kt) : Kt := cV 2 6 wX6_setBits 0 0 1 6 (ldA 0 (cV 0 7 wX7_noteChange 0 0 1 6 (rV Q)))
noncomputable def kX7_port (Q : Option Value → MM → Prop) (X : String → MM → Prop) (nx : Nat → Kt) : Nat → Kt := bse [(0, bX7_port_0 Q X nx), (29, bX7_port_29 Q X nx), (39, bX7_port_39 Q X nx), (79, bX7_port_79 Q X nx), (80, bX7_port_80 Q X nx)]
abbrev rX7_port : Room := { frames := 6, cells := 1, slots := 6, locals := 88 }
noncomputable def wX7_port : Mx := mx 6 kX7_port
set_option maxRecDepth 20000 in
theorem oX7_port_0 {T : Ct} {Q : Option Value → MM → Prop} {X : String → MM → Prop} (C : Cx T cX7_port 6 RX7 1 6) (CR : CxR T 6 88) (CX : CxX T) (hr : T.2.2.2.2.2.2.2.2.1.sig.returnType = none) (hnm : T.2.2.2.2.2.2.2.2.1.name = "port") {nx : Nat → Kt} (hn : ∀ pc, Sd T 6 (QX T Q X 1 6) 1 6 pc (nx pc)) : Sd T 6 (QX T Q X 1 6) 1 6 0 (bX7_port_0 Q X nx) := x_il_n C dX7_port_0 rfl (x_cS C CR mX7_isEnd ⟨co_X7_isEnd, init_X7, md_X7_isEnd, by decide, by decide⟩ ml_X7_25 sm_X7_isEnd dX7_port_1 (x_if_eq C (hn 29) dX7_port_4 (by decide) (x_il_n C dX7_port_7 rfl (x_cS C CR mX7_isPort ⟨co_X7_isPort, init_X7, md_X7_isPort, by decide, by decide⟩ ml_X7_57 sm_X7_isPort dX7_port_8 (x_if_eq C (hn 29) dX7_port_11 (by decide) (x_il_n C dX7_port_14 rfl (x_cS C CR mX7_isWord ⟨co_X7_isWord, init_X7, md_X7_isWord, by decide, by decide⟩ ml_X7_60 sm_X7_isWord dX7_port_15 (x_if_eq C (hn 29) dX7_port_18 (by decide) (x_il C dX7_port_21 (x_cS C CR mX7_isWord ⟨co_X7_isWord, init_X7, md_X7_isWord, by decide, by decide⟩ ml_X7_60 sm_X7_isWord dX7_port_23 (x_if_ne C (hn 39) dX7_port_26 (by decide) (hn 29))))))))))))
set_option maxRecDepth 20000 in
theorem oX7_port_29 {T : Ct} {Q : Option Value → MM → Prop} {X : String → MM → Prop} (C : Cx T cX7_port 6 RX7 1 6) (CR : CxR T 6 88) (CX : CxX T) (hr : T.2.2.2.2.2.2.2.2.1.sig.returnType = none) (hnm : T.2.2.2.2.2.2.2.2.1.name = "port") {nx : Nat → Kt} (hn : ∀ pc, Sd T 6 (QX T Q X 1 6) 1 6 pc (nx pc)) : Sd T 6 (QX T Q X 1 6) 1 6 29 (bX7_port_29 Q X nx) := x_thr C CR CX (by decide) (by decide) (E := eI) (text := "no such end or port, or not 0 to 65535") (by decide +kernel) cl_X7_30 init_eI (by decide) at_iae dX7_port_29 dX7_port_32 dX7_port_33 dX7_port_35 dX7_port_38
set_option maxRecDepth 20000 in
theorem oX7_port_39 {T : Ct} {Q : Option Value → MM → Prop} {X : String → MM → Prop} (C : Cx T cX7_port 6 RX7 1 6) (CR : CxR T 6 88) (CX : CxX T) (hr : T.2.2.2.2.2.2.2.2.1.sig.returnType = none) (hnm : T.2.2.2.2.2.2.2.2.1.name = "port") {nx : Nat → Kt} (hn : ∀ pc, Sd T 6 (QX T Q X 1 6) 1 6 pc (nx pc)) : Sd T 6 (QX T Q X 1 6) 1 6 39 (bX7_port_39 Q X nx) := x_al_n C dX7_port_39 rfl (gf_X7_11 C dX7_port_40 (x_il_n C dX7_port_43 rfl (x_aald C (kd := 13) (t0 := 3) (by decide) (by decide) (fun _ => rfl) dX7_port_44 (gf_X7_65 C dX7_port_45 (x_il_n C dX7_port_48 rfl (x_aald C (kd := 17) (t0 := 7) (by decide) (by decide) (fun _ => rfl) dX7_port_49 (gf_X7_69 C dX7_port_50 (x_as C dX7_port_53 (by decide) (x_al C dX7_port_55 (x_il_n C dX7_port_57 rfl (pf_X7_75 C dX7_port_58 (x_al C dX7_port_61 (x_il C dX7_port_63 (pf_X7_80 C dX7_port_65 (x_al C dX7_port_68 (x_ic C dX7_port_70 (by decide) (x_il_n C dX7_port_71 rfl (x_if_le C (hn 79) dX7_port_72 (by decide) (x_ic C dX7_port_75 (by decide) (x_goto C (hn 80) dX7_port_76 (by decide)))))))))))))))))))))
set_option maxRecDepth 20000 in
theorem oX7_port_79 {T : Ct} {Q : Option Value → MM → Prop} {X : String → MM → Prop} (C : Cx T cX7_port 6 RX7 1 6) (CR : CxR T 6 88) (CX : CxX T) (hr : T.2.2.2.2.2.2.2.2.1.sig.returnType = none) (hnm : T.2.2.2.2.2.2.2.2.1.name = "port") {nx : Nat → Kt} (hn : ∀ pc, Sd T 6 (QX T Q X 1 6) 1 6 pc (nx pc)) : Sd T 6 (QX T Q X 1 6) 1 6 79 (bX7_port_79 Q X nx) := x_ic C dX7_port_79 (by decide) (hn 80)
set_option maxRecDepth 20000 in
theorem oX7_port_80 {T : Ct} {Q : Option Value → MM → Prop} {X : String → MM → Prop} (C : Cx T cX7_port 6 RX7 1 6) (CR : CxR T 6 88) (CX : CxX T) (hr : T.2.2.2.2.2.2.2.2.1.sig.returnType = none) (hnm : T.2.2.2.2.2.2.2.2.1.name = "port") {nx : Nat → Kt} (hn : ∀ pc, Sd T 6 (QX T Q X 1 6) 1 6 pc (nx pc)) : Sd T 6 (QX T Q X 1 6) 1 6 80 (bX7_port_80 Q X nx) := x_cV C CR mX6_setBits ⟨co_X6_setBits, init_X6, md_X6_setBits, by decide, by decide⟩ (ci := 6) (TX := TX6) (N := 5) rfl (by decide) ml_X7_83 im_X6_setBits se_X6_setBits dX7_port_80 (x_al_n C dX7_port_83 rfl (x_cV C CR mX7_noteChange ⟨co_X7_noteChange, init_X7, md_X7_noteChange, by decide, by decide⟩ (ci := 7) (TX := TX7) (N := 9) rfl (by decide) ml_X7_49 im_X7_noteChange se_X7_noteChange dX7_port_84 (x_up (x_rV C hr dX7_port_87))))
set_option maxRecDepth 20000 in
theorem mX7_port (l : Launch) (hst : l.stackTraces = false) (D : va_G) (cA : Nat → ClassId) (base : Nat) : McX l D cA base yX7_port cX7_port 6 none rX7_port wX7_port := mcX_of hst (by decide +kernel) kX7_port (fun T Q X C CR CX hr hnm nx hn => bse_ok _ (List.forall_mem_cons.mpr ⟨oX7_port_0 C CR CX hr hnm hn, List.forall_mem_cons.mpr ⟨oX7_port_29 C CR CX hr hnm hn, List.forall_mem_cons.mpr ⟨oX7_port_39 C CR CX hr hnm hn, List.forall_mem_cons.mpr ⟨oX7_port_79 C CR CX hr hnm hn, List.forall_mem_cons.mpr ⟨oX7_port_80 C CR CX hr hnm hn, fun _ h => nomatch h⟩⟩⟩⟩⟩))
theorem dX7_manner_0 : decode cX7_manner 0 = .ok (.iload_n 1, 1) := by decide +kernel
theorem dX7_manner_1 : decode cX7_manner 1 = .ok (.invokestatic 25, 3) := by decide +kernel
theorem dX7_manner_4 : decode cX7_manner 4 = .ok (.ifCond .eq 10, 3) := by decide +kernel
theorem dX7_manner_7 : decode cX7_manner 7 = .ok (.iload_n 2, 1) := by decide +kernel
theorem dX7_manner_8 : decode cX7_manner 8 = .ok (.invokestatic 57, 3) := by decide +kernel
theorem dX7_manner_11 : decode cX7_manner 11 = .ok (.ifCond .ne 13, 3) := by decide +kernel
theorem dX7_manner_14 : decode cX7_manner 14 = .ok (.new 30, 3) := by decide +kernel
theorem dX7_manner_17 : decode cX7_manner 17 = .ok (.dup, 1) := by decide +kernel
theorem dX7_manner_18 : decode cX7_manner 18 = .ok (.ldc 87, 2) := by decide +kernel
theorem dX7_manner_20 : decode cX7_manner 20 = .ok (.invokespecial 34, 3) := by decide +kernel
theorem dX7_manner_23 : decode cX7_manner 23 = .ok (.athrow, 1) := by decide +kernel
theorem dX7_manner_24 : decode cX7_manner 24 = .ok (.aload_n 0, 1) := by decide +kernel
theorem dX7_manner_25 : decode cX7_manner 25 = .ok (.getfield 11, 3) := by decide +kernel
theorem dX7_manner_28 : decode cX7_manner 28 = .ok (.iload_n 1, 1) := by decide +kernel
theorem dX7_manner_29 : decode cX7_manner 29 = .ok (.aaload, 1) := by decide +kernel
theorem dX7_manner_30 : decode cX7_manner 30 = .ok (.getfield 65, 3) := by decide +kernel
theorem dX7_manner_33 : decode cX7_manner 33 = .ok (.iload_n 2, 1) := by decide +kernel
theorem dX7_manner_34 : decode cX7_manner 34 = .ok (.aaload, 1) := by decide +kernel
theorem dX7_manner_35 : decode cX7_manner 35 = .ok (.getfield 69, 3) := by decide +kernel
theorem dX7_manner_38 : decode cX7_manner 38 = .ok (.astore 5, 2) := by decide +kernel
theorem dX7_manner_40 : decode cX7_manner 40 = .ok (.aload 5, 2) := by decide +kernel
theorem dX7_manner_42 : decode cX7_manner 42 = .ok (.iconst 1, 1) := by decide +kernel
theorem dX7_manner_43 : decode cX7_manner 43 = .ok (.iload_n 3, 1) := by decide +kernel
theorem dX7_manner_44 : decode cX7_manner 44 = .ok (.invokevirtual 83, 3) := by decide +kernel
theorem dX7_manner_47 : decode cX7_manner 47 = .ok (.aload 5, 2) := by decide +kernel
theorem dX7_manner_49 : decode cX7_manner 49 = .ok (.iconst 2, 1) := by decide +kernel
theorem dX7_manner_50 : decode cX7_manner 50 = .ok (.iload 4, 2) := by decide +kernel
theorem dX7_manner_52 : decode cX7_manner 52 = .ok (.invokevirtual 83, 3) := by decide +kernel
theorem dX7_manner_55 : decode cX7_manner 55 = .ok (.aload_n 0, 1) := by decide +kernel
theorem dX7_manner_56 : decode cX7_manner 56 = .ok (.invokevirtual 49, 3) := by decide +kernel
theorem dX7_manner_59 : decode cX7_manner 59 = .ok (.return_, 1) := by decide +kernel
noncomputable def bX7_manner_0 (Q : Option Value → MM → Prop) (X : String → MM → Prop) (nx : Nat → Kt) : Kt := ldI 1 (cS 1 wX7_isEnd 0 0 1 6 (ifz (fun x => x = 0) (nx 14) (ldI 2 (cS 1 wX7_isPort 0 0 1 6 (ifz (fun x => x = 0) (nx 14) (nx 24))))))
noncomputable def bX7_manner_14 (Q : Option Value → MM → Prop) (X : String → MM → Prop) (nx : Nat → Kt) : Kt := thr eI X 1 6
noncomputable def bX7_manner_24 (Q : Option Value → MM → Prop) (X : String → MM → Prop) (nx : Nat → Kt) : Kt := ldA 0 (gR 7 0 (ldI 1 (aR 13 (gR 1 0 (ldI 2 (aR 17 (gR 5 0 (stA 5 (ldA 5 (cI 1 (ldI 3 (cV 2 6 wX6_setBits 0 0 1 6 (ldA 5 (cI 2 (ldI 4 (cV 2 6 wX6_setBits 0 0 1 6 (ldA 0 (cV 0 7 wX7_noteChange 0 0 1 6 (rV Q)))))))))))))))))))
noncomputable def kX7_manner (Q : Option Value → MM → Prop) (X : String → MM → Prop) (nx : Nat → Kt) : Nat → Kt := bse [(0, bX7_manner_0 Q X nx), (14, bX7_manner_14 Q X nx), (24, bX7_manner_24 Q X nx)]
abbrev rX7_manner : Room := { frames := 6, cells := 1, slots := 6, locals := 88 }
noncomputable def wX7_manner : Mx := mx 6 kX7_manner
set_option maxRecDepth 20000 in
theorem oX7_manner_0 {T : Ct} {Q : Option Value → MM → Prop} {X : String → MM → Prop} (C : Cx T cX7_manner 6 RX7 1 6) (CR : CxR T 6 88) (CX : CxX T) (hr : T.2.2.2.2.2.2.2.2.1.sig.returnType = none) (hnm : T.2.2.2.2.2.2.2.2.1.name = "manner") {nx : Nat → Kt} (hn : ∀ pc, Sd T 6 (QX T Q X 1 6) 1 6 pc (nx pc)) : Sd T 6 (QX T Q X 1 6) 1 6 0 (bX7_manner_0 Q X nx) := x_il_n C dX7_manner_0 rfl (x_cS C CR mX7_isEnd ⟨co_X7_isEnd, init_X7, md_X7_isEnd, by decide, by decide⟩ ml_X7_25 sm_X7_isEnd dX7_manner_1 (x_if_eq C (hn 14) dX7_manner_4 (by decide) (x_il_n C dX7_manner_7 rfl (x_cS C CR mX7_isPort ⟨co_X7_isPort, init_X7, md_X7_isPort, by decide, by decide⟩ ml_X7_57 sm_X7_isPort dX7_manner_8 (x_if_ne C (hn 24) dX7_manner_11 (by decide) (hn 14))))))
set_option maxRecDepth 20000 in
theorem oX7_manner_14 {T : Ct} {Q : Option Value → MM → Prop} {X : String → MM → Prop} (C : Cx T cX7_manner 6 RX7 1 6) (CR : CxR T 6 88) (CX : CxX T) (hr : T.2.2.2.2.2.2.2.2.1.sig.returnType = none) (hnm : T.2.2.2.2.2.2.2.2.1.name = "manner") {nx : Nat → Kt} (hn : ∀ pc, Sd T 6 (QX T Q X 1 6) 1 6 pc (nx pc)) : Sd T 6 (QX T Q X 1 6) 1 6 14 (bX7_manner_14 Q X nx) := x_thr C CR CX (by decide) (by decide) (E := eI) (text := "no such end or port") (by decide +kernel) cl_X7_30 init_eI (by decide) at_iae dX7_manner_14 dX7_manner_17 dX7_manner_18 dX7_manner_20 dX7_manner_23
set_option maxRecDepth 20000 in
theorem oX7_manner_24 {T : Ct} {Q : Option Value → MM → Prop} {X : String → MM → Prop} (C : Cx T cX7_manner 6 RX7 1 6) (CR : CxR T 6 88) (CX : CxX T) (hr : T.2.2.2.2.2.2.2.2.1.sig.returnType = none) (hnm : T.2.2.2.2.2.2.2.2.1.name = "manner") {nx : Nat → Kt} (hn : ∀ pc, Sd T 6 (QX T Q X 1 6) 1 6 pc (nx pc)) : Sd T 6 (QX T Q X 1 6) 1 6 24 (bX7_manner_24 Q X nx) := x_al_n C dX7_manner_24 rfl (gf_X7_11 C dX7_manner_25 (x_il_n C dX7_manner_28 rfl (x_aald C (kd := 13) (t0 := 3) (by decide) (by decide) (fun _ => rfl) dX7_manner_29 (gf_X7_65 C dX7_manner_30 (x_il_n C dX7_manner_33 rfl (x_aald C (kd := 17) (t0 := 7) (by decide) (by decide) (fun _ => rfl) dX7_manner_34 (gf_X7_69 C dX7_manner_35 (x_as C dX7_manner_38 (by decide) (x_al C dX7_manner_40 (x_ic C dX7_manner_42 (by decide) (x_il_n C dX7_manner_43 rfl (x_cV C CR mX6_setBits ⟨co_X6_setBits, init_X6, md_X6_setBits, by decide, by decide⟩ (ci := 6) (TX := TX6) (N := 5) rfl (by decide) ml_X7_83 im_X6_setBits se_X6_setBits dX7_manner_44 (x_al C dX7_manner_47 (x_ic C dX7_manner_49 (by decide) (x_il C dX7_manner_50 (x_cV C CR mX6_setBits ⟨co_X6_setBits, init_X6, md_X6_setBits, by decide, by decide⟩ (ci := 6) (TX := TX6) (N := 5) rfl (by decide) ml_X7_83 im_X6_setBits se_X6_setBits dX7_manner_52 (x_al_n C dX7_manner_55 rfl (x_cV C CR mX7_noteChange ⟨co_X7_noteChange, init_X7, md_X7_noteChange, by decide, by decide⟩ (ci := 7) (TX := TX7) (N := 9) rfl (by decide) ml_X7_49 im_X7_noteChange se_X7_noteChange dX7_manner_56 (x_up (x_rV C hr dX7_manner_59))))))))))))))))))))
set_option maxRecDepth 20000 in
theorem mX7_manner (l : Launch) (hst : l.stackTraces = false) (D : va_G) (cA : Nat → ClassId) (base : Nat) : McX l D cA base yX7_manner cX7_manner 6 none rX7_manner wX7_manner := mcX_of hst (by decide +kernel) kX7_manner (fun T Q X C CR CX hr hnm nx hn => bse_ok _ (List.forall_mem_cons.mpr ⟨oX7_manner_0 C CR CX hr hnm hn, List.forall_mem_cons.mpr ⟨oX7_manner_14 C CR CX hr hnm hn, List.forall_mem_cons.mpr ⟨oX7_manner_24 C CR CX hr hnm hn, fun _ h => nomatch h⟩⟩⟩))
theorem dX7_plug_0 : decode cX7_plug 0 = .ok (.iload_n 1, 1) := by decide +kernel
theorem dX7_plug_1 : decode cX7_plug 1 = .ok (.invokestatic 89, 3) := by decide +kernel
theorem dX7_plug_4 : decode cX7_plug 4 = .ok (.ifCond .eq 30, 3) := by decide +kernel
theorem dX7_plug_7 : decode cX7_plug 7 = .ok (.iload_n 2, 1) := by decide +kernel
theorem dX7_plug_8 : decode cX7_plug 8 = .ok (.invokestatic 57, 3) := by decide +kernel
theorem dX7_plug_11 : decode cX7_plug 11 = .ok (.ifCond .eq 23, 3) := by decide +kernel
theorem dX7_plug_14 : decode cX7_plug 14 = .ok (.iload_n 3, 1) := by decide +kernel
theorem dX7_plug_15 : decode cX7_plug 15 = .ok (.invokestatic 57, 3) := by decide +kernel
theorem dX7_plug_18 : decode cX7_plug 18 = .ok (.ifCond .eq 16, 3) := by decide +kernel
theorem dX7_plug_21 : decode cX7_plug 21 = .ok (.iload 4, 2) := by decide +kernel
theorem dX7_plug_23 : decode cX7_plug 23 = .ok (.iconst 1, 1) := by decide +kernel
theorem dX7_plug_24 : decode cX7_plug 24 = .ok (.if_icmp .lt 10, 3) := by decide +kernel
theorem dX7_plug_27 : decode cX7_plug 27 = .ok (.iload 4, 2) := by decide +kernel
theorem dX7_plug_29 : decode cX7_plug 29 = .ok (.bipush 8, 2) := by decide +kernel
theorem dX7_plug_31 : decode cX7_plug 31 = .ok (.if_icmp .le 13, 3) := by decide +kernel
theorem dX7_plug_34 : decode cX7_plug 34 = .ok (.new 30, 3) := by decide +kernel
theorem dX7_plug_37 : decode cX7_plug 37 = .ok (.dup, 1) := by decide +kernel
theorem dX7_plug_38 : decode cX7_plug 38 = .ok (.ldc 92, 2) := by decide +kernel
theorem dX7_plug_40 : decode cX7_plug 40 = .ok (.invokespecial 34, 3) := by decide +kernel
theorem dX7_plug_43 : decode cX7_plug 43 = .ok (.athrow, 1) := by decide +kernel
theorem dX7_plug_44 : decode cX7_plug 44 = .ok (.aload_n 0, 1) := by decide +kernel
theorem dX7_plug_45 : decode cX7_plug 45 = .ok (.getfield 11, 3) := by decide +kernel
theorem dX7_plug_48 : decode cX7_plug 48 = .ok (.iconst 0, 1) := by decide +kernel
theorem dX7_plug_49 : decode cX7_plug 49 = .ok (.aaload, 1) := by decide +kernel
theorem dX7_plug_50 : decode cX7_plug 50 = .ok (.getfield 65, 3) := by decide +kernel
theorem dX7_plug_53 : decode cX7_plug 53 = .ok (.iload_n 2, 1) := by decide +kernel
theorem dX7_plug_54 : decode cX7_plug 54 = .ok (.aaload, 1) := by decide +kernel
theorem dX7_plug_55 : decode cX7_plug 55 = .ok (.iload_n 1, 1) := by decide +kernel
theorem dX7_plug_56 : decode cX7_plug 56 = .ok (.invokestatic 94, 3) := by decide +kernel
theorem dX7_plug_59 : decode cX7_plug 59 = .ok (.ifCond .ne 21, 3) := by decide +kernel
theorem dX7_plug_62 : decode cX7_plug 62 = .ok (.aload_n 0, 1) := by decide +kernel
theorem dX7_plug_63 : decode cX7_plug 63 = .ok (.getfield 11, 3) := by decide +kernel
theorem dX7_plug_66 : decode cX7_plug 66 = .ok (.iconst 1, 1) := by decide +kernel
theorem dX7_plug_67 : decode cX7_plug 67 = .ok (.aaload, 1) := by decide +kernel
theorem dX7_plug_68 : decode cX7_plug 68 = .ok (.getfield 65, 3) := by decide +kernel
theorem dX7_plug_71 : decode cX7_plug 71 = .ok (.iload_n 3, 1) := by decide +kernel
theorem dX7_plug_72 : decode cX7_plug 72 = .ok (.aaload, 1) := by decide +kernel
theorem dX7_plug_73 : decode cX7_plug 73 = .ok (.iload_n 1, 1) := by decide +kernel
theorem dX7_plug_74 : decode cX7_plug 74 = .ok (.invokestatic 94, 3) := by decide +kernel
theorem dX7_plug_77 : decode cX7_plug 77 = .ok (.ifCond .eq 13, 3) := by decide +kernel
theorem dX7_plug_80 : decode cX7_plug 80 = .ok (.new 41, 3) := by decide +kernel
theorem dX7_plug_83 : decode cX7_plug 83 = .ok (.dup, 1) := by decide +kernel
theorem dX7_plug_84 : decode cX7_plug 84 = .ok (.ldc 98, 2) := by decide +kernel
theorem dX7_plug_86 : decode cX7_plug 86 = .ok (.invokespecial 45, 3) := by decide +kernel
theorem dX7_plug_89 : decode cX7_plug 89 = .ok (.athrow, 1) := by decide +kernel
theorem dX7_plug_90 : decode cX7_plug 90 = .ok (.aload_n 0, 1) := by decide +kernel
theorem dX7_plug_91 : decode cX7_plug 91 = .ok (.aload_n 0, 1) := by decide +kernel
theorem dX7_plug_92 : decode cX7_plug 92 = .ok (.getfield 17, 3) := by decide +kernel
theorem dX7_plug_95 : decode cX7_plug 95 = .ok (.iload_n 1, 1) := by decide +kernel
theorem dX7_plug_96 : decode cX7_plug 96 = .ok (.aaload, 1) := by decide +kernel
theorem dX7_plug_97 : decode cX7_plug 97 = .ok (.invokevirtual 100, 3) := by decide +kernel
theorem dX7_plug_100 : decode cX7_plug 100 = .ok (.aload_n 0, 1) := by decide +kernel
theorem dX7_plug_101 : decode cX7_plug 101 = .ok (.iload_n 1, 1) := by decide +kernel
theorem dX7_plug_102 : decode cX7_plug 102 = .ok (.iconst 0, 1) := by decide +kernel
theorem dX7_plug_103 : decode cX7_plug 103 = .ok (.aload_n 0, 1) := by decide +kernel
theorem dX7_plug_104 : decode cX7_plug 104 = .ok (.getfield 11, 3) := by decide +kernel
theorem dX7_plug_107 : decode cX7_plug 107 = .ok (.iconst 0, 1) := by decide +kernel
theorem dX7_plug_108 : decode cX7_plug 108 = .ok (.aaload, 1) := by decide +kernel
theorem dX7_plug_109 : decode cX7_plug 109 = .ok (.getfield 65, 3) := by decide +kernel
theorem dX7_plug_112 : decode cX7_plug 112 = .ok (.iload_n 2, 1) := by decide +kernel
theorem dX7_plug_113 : decode cX7_plug 113 = .ok (.aaload, 1) := by decide +kernel
theorem dX7_plug_114 : decode cX7_plug 114 = .ok (.invokevirtual 104, 3) := by decide +kernel
theorem dX7_plug_117 : decode cX7_plug 117 = .ok (.aload_n 0, 1) := by decide +kernel
theorem dX7_plug_118 : decode cX7_plug 118 = .ok (.iload_n 1, 1) := by decide +kernel
theorem dX7_plug_119 : decode cX7_plug 119 = .ok (.iconst 1, 1) := by decide +kernel
theorem dX7_plug_120 : decode cX7_plug 120 = .ok (.aload_n 0, 1) := by decide +kernel
theorem dX7_plug_121 : decode cX7_plug 121 = .ok (.getfield 11, 3) := by decide +kernel
theorem dX7_plug_124 : decode cX7_plug 124 = .ok (.iconst 1, 1) := by decide +kernel
theorem dX7_plug_125 : decode cX7_plug 125 = .ok (.aaload, 1) := by decide +kernel
theorem dX7_plug_126 : decode cX7_plug 126 = .ok (.getfield 65, 3) := by decide +kernel
theorem dX7_plug_129 : decode cX7_plug 129 = .ok (.iload_n 3, 1) := by decide +kernel
theorem dX7_plug_130 : decode cX7_plug 130 = .ok (.aaload, 1) := by decide +kernel
theorem dX7_plug_131 : decode cX7_plug 131 = .ok (.invokevirtual 104, 3) := by decide +kernel
theorem dX7_plug_134 : decode cX7_plug 134 = .ok (.aload_n 0, 1) := by decide +kernel
theorem dX7_plug_135 : decode cX7_plug 135 = .ok (.getfield 17, 3) := by decide +kernel
theorem dX7_plug_138 : decode cX7_plug 138 = .ok (.iload_n 1, 1) := by decide +kernel
theorem dX7_plug_139 : decode cX7_plug 139 = .ok (.aaload, 1) := by decide +kernel
theorem dX7_plug_140 : decode cX7_plug 140 = .ok (.iload 4, 2) := by decide +kernel
theorem dX7_plug_142 : decode cX7_plug 142 = .ok (.putfield 108, 3) := by decide +kernel
theorem dX7_plug_145 : decode cX7_plug 145 = .ok (.aload_n 0, 1) := by decide +kernel
theorem dX7_plug_146 : decode cX7_plug 146 = .ok (.aload_n 0, 1) := by decide +kernel
theorem dX7_plug_147 : decode cX7_plug 147 = .ok (.getfield 17, 3) := by decide +kernel
theorem dX7_plug_150 : decode cX7_plug 150 = .ok (.iload_n 1, 1) := by decide +kernel
theorem dX7_plug_151 : decode cX7_plug 151 = .ok (.aaload, 1) := by decide +kernel
theorem dX7_plug_152 : decode cX7_plug 152 = .ok (.invokevirtual 111, 3) := by decide +kernel
theorem dX7_plug_155 : decode cX7_plug 155 = .ok (.aload_n 0, 1) := by decide +kernel
theorem dX7_plug_156 : decode cX7_plug 156 = .ok (.invokevirtual 49, 3) := by decide +kernel
theorem dX7_plug_159 : decode cX7_plug 159 = .ok (.return_, 1) := by decide +kernel
noncomputable def bX7_plug_0 (Q : Option Value → MM → Prop) (X : String → MM → Prop) (nx : Nat → Kt) : Kt := ldI 1 (cS 1 wX7_isCable 0 0 1 6 (ifz (fun x => x = 0) (nx 34) (ldI 2 (cS 1 wX7_isPort 0 0 1 6 (ifz (fun x => x = 0) (nx 34) (ldI 3 (cS 1 wX7_isPort 0 0 1 6 (ifz (fun x => x = 0) (nx 34) (ldI 4 (cI 1 (ifc (fun x y => x < y) (nx 34) (ldI 4 (cI 8 (ifc (fun x y => x ≤ y) (nx 44) (nx 34)))))))))))))))
noncomputable def bX7_plug_34 (Q : Option Value → MM → Prop) (X : String → MM → Prop) (nx : Nat → Kt) : Kt := thr eI X 1 6
noncomputable def bX7_plug_44 (Q : Option Value → MM → Prop) (X : String → MM → Prop) (nx : Nat → Kt) : Kt := ldA 0 (gR 7 0 (cI 0 (aR 13 (gR 1 0 (ldI 2 (aR 17 (ldI 1 (cS 2 wX7_isTaken 0 0 1 6 (ifz (fun x => x = 0) (ldA 0 (gR 7 0 (cI 1 (aR 13 (gR 1 0 (ldI 3 (aR 17 (ldI 1 (cS 2 wX7_isTaken 0 0 1 6 (ifz (fun x => x = 0) (nx 90) (nx 80))))))))))) (nx 80))))))))))
noncomputable def bX7_plug_80 (Q : Option Value → MM → Prop) (X : String → MM → Prop) (nx : Nat → Kt) : Kt := thr eS X 1 6
noncomputable def bX7_plug_90 (Q : Option Value → MM → Prop) (X : String → MM → Prop) (nx : Nat → Kt) : Kt := ldA 0 (ldA 0 (gR 7 1 (ldI 1 (aR 12 (cV 1 7 wX7_takeOut 0 0 1 6 (ldA 0 (ldI 1 (cI 0 (ldA 0 (gR 7 0 (cI 0 (aR 13 (gR 1 0 (ldI 2 (aR 17 (cV 3 7 wX7_putIn 0 0 1 6 (ldA 0 (ldI 1 (cI 1 (ldA 0 (gR 7 0 (cI 1 (aR 13 (gR 1 0 (ldI 3 (aR 17 (cV 3 7 wX7_putIn 0 0 1 6 (ldA 0 (gR 7 1 (ldI 1 (aR 12 (ldI 4 (tI 0 2 (ldA 0 (ldA 0 (gR 7 1 (ldI 1 (aR 12 (cV 1 7 wX7_switchOn 0 0 1 6 (ldA 0 (cV 0 7 wX7_noteChange 0 0 1 6 (rV Q))))))))))))))))))))))))))))))))))))))))))
noncomputable def kX7_plug (Q : Option Value → MM → Prop) (X : String → MM → Prop) (nx : Nat → Kt) : Nat → Kt := bse [(0, bX7_plug_0 Q X nx), (34, bX7_plug_34 Q X nx), (44, bX7_plug_44 Q X nx), (80, bX7_plug_80 Q X nx), (90, bX7_plug_90 Q X nx)]
abbrev rX7_plug : Room := { frames := 6, cells := 1, slots := 6, locals := 109 }
noncomputable def wX7_plug : Mx := mx 5 kX7_plug
set_option maxRecDepth 20000 in
theorem oX7_plug_0 {T : Ct} {Q : Option Value → MM → Prop} {X : String → MM → Prop} (C : Cx T cX7_plug 5 RX7 1 6) (CR : CxR T 6 109) (CX : CxX T) (hr : T.2.2.2.2.2.2.2.2.1.sig.returnType = none) (hnm : T.2.2.2.2.2.2.2.2.1.name = "plug") {nx : Nat → Kt} (hn : ∀ pc, Sd T 5 (QX T Q X 1 6) 1 6 pc (nx pc)) : Sd T 5 (QX T Q X 1 6) 1 6 0 (bX7_plug_0 Q X nx) := x_il_n C dX7_plug_0 rfl (x_cS C CR mX7_isCable ⟨co_X7_isCable, init_X7, md_X7_isCable, by decide, by decide⟩ ml_X7_89 sm_X7_isCable dX7_plug_1 (x_if_eq C (hn 34) dX7_plug_4 (by decide) (x_il_n C dX7_plug_7 rfl (x_cS C CR mX7_isPort ⟨co_X7_isPort, init_X7, md_X7_isPort, by decide, by decide⟩ ml_X7_57 sm_X7_isPort dX7_plug_8 (x_if_eq C (hn 34) dX7_plug_11 (by decide) (x_il_n C dX7_plug_14 rfl (x_cS C CR mX7_isPort ⟨co_X7_isPort, init_X7, md_X7_isPort, by decide, by decide⟩ ml_X7_57 sm_X7_isPort dX7_plug_15 (x_if_eq C (hn 34) dX7_plug_18 (by decide) (x_il C dX7_plug_21 (x_ic C dX7_plug_23 (by decide) (x_ic_lt C (hn 34) dX7_plug_24 (by decide) (x_il C dX7_plug_27 (x_bp C dX7_plug_29 (by decide) (x_ic_le C (hn 44) dX7_plug_31 (by decide) (hn 34)))))))))))))))
set_option maxRecDepth 20000 in
theorem oX7_plug_34 {T : Ct} {Q : Option Value → MM → Prop} {X : String → MM → Prop} (C : Cx T cX7_plug 5 RX7 1 6) (CR : CxR T 6 109) (CX : CxX T) (hr : T.2.2.2.2.2.2.2.2.1.sig.returnType = none) (hnm : T.2.2.2.2.2.2.2.2.1.name = "plug") {nx : Nat → Kt} (hn : ∀ pc, Sd T 5 (QX T Q X 1 6) 1 6 pc (nx pc)) : Sd T 5 (QX T Q X 1 6) 1 6 34 (bX7_plug_34 Q X nx) := x_thr C CR CX (by decide) (by decide) (E := eI) (text := "no such cable or port, or delay is not 1 to 8") (by decide +kernel) cl_X7_30 init_eI (by decide) at_iae dX7_plug_34 dX7_plug_37 dX7_plug_38 dX7_plug_40 dX7_plug_43
set_option maxRecDepth 20000 in
theorem oX7_plug_44 {T : Ct} {Q : Option Value → MM → Prop} {X : String → MM → Prop} (C : Cx T cX7_plug 5 RX7 1 6) (CR : CxR T 6 109) (CX : CxX T) (hr : T.2.2.2.2.2.2.2.2.1.sig.returnType = none) (hnm : T.2.2.2.2.2.2.2.2.1.name = "plug") {nx : Nat → Kt} (hn : ∀ pc, Sd T 5 (QX T Q X 1 6) 1 6 pc (nx pc)) : Sd T 5 (QX T Q X 1 6) 1 6 44 (bX7_plug_44 Q X nx) := x_al_n C dX7_plug_44 rfl (gf_X7_11 C dX7_plug_45 (x_ic C dX7_plug_48 (by decide) (x_aald C (kd := 13) (t0 := 3) (by decide) (by decide) (fun _ => rfl) dX7_plug_49 (gf_X7_65 C dX7_plug_50 (x_il_n C dX7_plug_53 rfl (x_aald C (kd := 17) (t0 := 7) (by decide) (by decide) (fun _ => rfl) dX7_plug_54 (x_il_n C dX7_plug_55 rfl (x_cS C CR mX7_isTaken ⟨co_X7_isTaken, init_X7, md_X7_isTaken, by decide, by decide⟩ ml_X7_94 sm_X7_isTaken dX7_plug_56 (x_if_ne C (hn 80) dX7_plug_59 (by decide) (x_al_n C dX7_plug_62 rfl (gf_X7_11 C dX7_plug_63 (x_ic C dX7_plug_66 (by decide) (x_aald C (kd := 13) (t0 := 3) (by decide) (by decide) (fun _ => rfl) dX7_plug_67 (gf_X7_65 C dX7_plug_68 (x_il_n C dX7_plug_71 rfl (x_aald C (kd := 17) (t0 := 7) (by decide) (by decide) (fun _ => rfl) dX7_plug_72 (x_il_n C dX7_plug_73 rfl (x_cS C CR mX7_isTaken ⟨co_X7_isTaken, init_X7, md_X7_isTaken, by decide, by decide⟩ ml_X7_94 sm_X7_isTaken dX7_plug_74 (x_if_eq C (hn 90) dX7_plug_77 (by decide) (hn 80))))))))))))))))))))
set_option maxRecDepth 20000 in
theorem oX7_plug_80 {T : Ct} {Q : Option Value → MM → Prop} {X : String → MM → Prop} (C : Cx T cX7_plug 5 RX7 1 6) (CR : CxR T 6 109) (CX : CxX T) (hr : T.2.2.2.2.2.2.2.2.1.sig.returnType = none) (hnm : T.2.2.2.2.2.2.2.2.1.name = "plug") {nx : Nat → Kt} (hn : ∀ pc, Sd T 5 (QX T Q X 1 6) 1 6 pc (nx pc)) : Sd T 5 (QX T Q X 1 6) 1 6 80 (bX7_plug_80 Q X nx) := x_thr C CR CX (by decide) (by decide) (E := eS) (text := "another cable is in one of these ports") (by decide +kernel) cl_X7_41 init_eS (by decide) at_ise dX7_plug_80 dX7_plug_83 dX7_plug_84 dX7_plug_86 dX7_plug_89
set_option maxRecDepth 20000 in
theorem oX7_plug_90 {T : Ct} {Q : Option Value → MM → Prop} {X : String → MM → Prop} (C : Cx T cX7_plug 5 RX7 1 6) (CR : CxR T 6 109) (CX : CxX T) (hr : T.2.2.2.2.2.2.2.2.1.sig.returnType = none) (hnm : T.2.2.2.2.2.2.2.2.1.name = "plug") {nx : Nat → Kt} (hn : ∀ pc, Sd T 5 (QX T Q X 1 6) 1 6 pc (nx pc)) : Sd T 5 (QX T Q X 1 6) 1 6 90 (bX7_plug_90 Q X nx) := x_al_n C dX7_plug_90 rfl (x_al_n C dX7_plug_91 rfl (gf_X7_17 C dX7_plug_92 (x_il_n C dX7_plug_95 rfl (x_aald C (kd := 12) (t0 := 2) (by decide) (by decide) (fun _ => rfl) dX7_plug_96 (x_cV C CR mX7_takeOut ⟨co_X7_takeOut, init_X7, md_X7_takeOut, by decide, by decide⟩ (ci := 7) (TX := TX7) (N := 9) rfl (by decide) ml_X7_100 im_X7_takeOut se_X7_takeOut dX7_plug_97 (x_al_n C dX7_plug_100 rfl (x_il_n C dX7_plug_101 rfl (x_ic C dX7_plug_102 (by decide) (x_al_n C dX7_plug_103 rfl (gf_X7_11 C dX7_plug_104 (x_ic C dX7_plug_107 (by decide) (x_aald C (kd := 13) (t0 := 3) (by decide) (by decide) (fun _ => rfl) dX7_plug_108 (gf_X7_65 C dX7_plug_109 (x_il_n C dX7_plug_112 rfl (x_aald C (kd := 17) (t0 := 7) (by decide) (by decide) (fun _ => rfl) dX7_plug_113 (x_cV C CR mX7_putIn ⟨co_X7_putIn, init_X7, md_X7_putIn, by decide, by decide⟩ (ci := 7) (TX := TX7) (N := 9) rfl (by decide) ml_X7_104 im_X7_putIn se_X7_putIn dX7_plug_114 (x_al_n C dX7_plug_117 rfl (x_il_n C dX7_plug_118 rfl (x_ic C dX7_plug_119 (by decide) (x_al_n C dX7_plug_120 rfl (gf_X7_11 C dX7_plug_121 (x_ic C dX7_plug_124 (by decide) (x_aald C (kd := 13) (t0 := 3) (by decide) (by decide) (fun _ => rfl) dX7_plug_125 (gf_X7_65 C dX7_plug_126 (x_il_n C dX7_plug_129 rfl (x_aald C (kd := 17) (t0 := 7) (by decide) (by decide) (fun _ => rfl) dX7_plug_130 (x_cV C CR mX7_putIn ⟨co_X7_putIn, init_X7, md_X7_putIn, by decide, by decide⟩ (ci := 7) (TX := TX7) (N := 9) rfl (by decide) ml_X7_104 im_X7_putIn se_X7_putIn dX7_plug_131 (x_al_n C dX7_plug_134 rfl (gf_X7_17 C dX7_plug_135 (x_il_n C dX7_plug_138 rfl (x_aald C (kd := 12) (t0 := 2) (by decide) (by decide) (fun _ => rfl) dX7_plug_139 (x_il C dX7_plug_140 (pf_X7_108 C dX7_plug_142 (x_al_n C dX7_plug_145 rfl (x_al_n C dX7_plug_146 rfl (gf_X7_17 C dX7_plug_147 (x_il_n C dX7_plug_150 rfl (x_aald C (kd := 12) (t0 := 2) (by decide) (by decide) (fun _ => rfl) dX7_plug_151 (x_cV C CR mX7_switchOn ⟨co_X7_switchOn, init_X7, md_X7_switchOn, by decide, by decide⟩ (ci := 7) (TX := TX7) (N := 9) rfl (by decide) ml_X7_111 im_X7_switchOn se_X7_switchOn dX7_plug_152 (x_al_n C dX7_plug_155 rfl (x_cV C CR mX7_noteChange ⟨co_X7_noteChange, init_X7, md_X7_noteChange, by decide, by decide⟩ (ci := 7) (TX := TX7) (N := 9) rfl (by decide) ml_X7_49 im_X7_noteChange se_X7_noteChange dX7_plug_156 (x_up (x_rV C hr dX7_plug_159)))))))))))))))))))))))))))))))))))))))))))
set_option maxRecDepth 20000 in
theorem mX7_plug (l : Launch) (hst : l.stackTraces = false) (D : va_G) (cA : Nat → ClassId) (base : Nat) : McX l D cA base yX7_plug cX7_plug 5 none rX7_plug wX7_plug := mcX_of hst (by decide +kernel) kX7_plug (fun T Q X C CR CX hr hnm nx hn => bse_ok _ (List.forall_mem_cons.mpr ⟨oX7_plug_0 C CR CX hr hnm hn, List.forall_mem_cons.mpr ⟨oX7_plug_34 C CR CX hr hnm hn, List.forall_mem_cons.mpr ⟨oX7_plug_44 C CR CX hr hnm hn, List.forall_mem_cons.mpr ⟨oX7_plug_80 C CR CX hr hnm hn, List.forall_mem_cons.mpr ⟨oX7_plug_90 C CR CX hr hnm hn, fun _ h => nomatch h⟩⟩⟩⟩⟩))
theorem dX7_pull_0 : decode cX7_pull 0 = .ok (.iload_n 1, 1) := by decide +kernel
theorem dX7_pull_1 : decode cX7_pull 1 = .ok (.invokestatic 89, 3) := by decide +kernel
theorem dX7_pull_4 : decode cX7_pull 4 = .ok (.ifCond .ne 13, 3) := by decide +kernel
theorem dX7_pull_7 : decode cX7_pull 7 = .ok (.new 30, 3) := by decide +kernel
theorem dX7_pull_10 : decode cX7_pull 10 = .ok (.dup, 1) := by decide +kernel
theorem dX7_pull_11 : decode cX7_pull 11 = .ok (.ldc 114, 2) := by decide +kernel
theorem dX7_pull_13 : decode cX7_pull 13 = .ok (.invokespecial 34, 3) := by decide +kernel
theorem dX7_pull_16 : decode cX7_pull 16 = .ok (.athrow, 1) := by decide +kernel
theorem dX7_pull_17 : decode cX7_pull 17 = .ok (.aload_n 0, 1) := by decide +kernel
theorem dX7_pull_18 : decode cX7_pull 18 = .ok (.getfield 17, 3) := by decide +kernel
theorem dX7_pull_21 : decode cX7_pull 21 = .ok (.iload_n 1, 1) := by decide +kernel
theorem dX7_pull_22 : decode cX7_pull 22 = .ok (.aaload, 1) := by decide +kernel
theorem dX7_pull_23 : decode cX7_pull 23 = .ok (.invokevirtual 116, 3) := by decide +kernel
theorem dX7_pull_26 : decode cX7_pull 26 = .ok (.ifCond .ne 13, 3) := by decide +kernel
theorem dX7_pull_29 : decode cX7_pull 29 = .ok (.new 41, 3) := by decide +kernel
theorem dX7_pull_32 : decode cX7_pull 32 = .ok (.dup, 1) := by decide +kernel
theorem dX7_pull_33 : decode cX7_pull 33 = .ok (.ldc 120, 2) := by decide +kernel
theorem dX7_pull_35 : decode cX7_pull 35 = .ok (.invokespecial 45, 3) := by decide +kernel
theorem dX7_pull_38 : decode cX7_pull 38 = .ok (.athrow, 1) := by decide +kernel
theorem dX7_pull_39 : decode cX7_pull 39 = .ok (.aload_n 0, 1) := by decide +kernel
theorem dX7_pull_40 : decode cX7_pull 40 = .ok (.aload_n 0, 1) := by decide +kernel
theorem dX7_pull_41 : decode cX7_pull 41 = .ok (.getfield 17, 3) := by decide +kernel
theorem dX7_pull_44 : decode cX7_pull 44 = .ok (.iload_n 1, 1) := by decide +kernel
theorem dX7_pull_45 : decode cX7_pull 45 = .ok (.aaload, 1) := by decide +kernel
theorem dX7_pull_46 : decode cX7_pull 46 = .ok (.invokevirtual 100, 3) := by decide +kernel
theorem dX7_pull_49 : decode cX7_pull 49 = .ok (.aload_n 0, 1) := by decide +kernel
theorem dX7_pull_50 : decode cX7_pull 50 = .ok (.invokevirtual 49, 3) := by decide +kernel
theorem dX7_pull_53 : decode cX7_pull 53 = .ok (.return_, 1) := by decide +kernel
noncomputable def bX7_pull_0 (Q : Option Value → MM → Prop) (X : String → MM → Prop) (nx : Nat → Kt) : Kt := ldI 1 (cS 1 wX7_isCable 0 0 1 6 (ifz (fun x => x = 0) (thr eI X 1 6) (nx 17)))
noncomputable def bX7_pull_17 (Q : Option Value → MM → Prop) (X : String → MM → Prop) (nx : Nat → Kt) : Kt := ldA 0 (gR 7 1 (ldI 1 (aR 12 (cV 0 0 wX0_isPlugged 0 0 1 6 (ifz (fun x => x = 0) (thr eS X 1 6) (nx 39))))))
noncomputable def bX7_pull_39 (Q : Option Value → MM → Prop) (X : String → MM → Prop) (nx : Nat → Kt) : Kt := ldA 0 (ldA 0 (gR 7 1 (ldI 1 (aR 12 (cV 1 7 wX7_takeOut 0 0 1 6 (ldA 0 (cV 0 7 wX7_noteChange 0 0 1 6 (rV Q))))))))
noncomputable def kX7_pull (Q : Option Value → MM → Prop) (X : String → MM → Prop) (nx : Nat → Kt) : Nat → Kt := bse [(0, bX7_pull_0 Q X nx), (17, bX7_pull_17 Q X nx), (39, bX7_pull_39 Q X nx)]
abbrev rX7_pull : Room := { frames := 6, cells := 1, slots := 6, locals := 109 }
noncomputable def wX7_pull : Mx := mx 2 kX7_pull
set_option maxRecDepth 20000 in
theorem oX7_pull_0 {T : Ct} {Q : Option Value → MM → Prop} {X : String → MM → Prop} (C : Cx T cX7_pull 2 RX7 1 6) (CR : CxR T 6 109) (CX : CxX T) (hr : T.2.2.2.2.2.2.2.2.1.sig.returnType = none) (hnm : T.2.2.2.2.2.2.2.2.1.name = "pull") {nx : Nat → Kt} (hn : ∀ pc, Sd T 2 (QX T Q X 1 6) 1 6 pc (nx pc)) : Sd T 2 (QX T Q X 1 6) 1 6 0 (bX7_pull_0 Q X nx) := x_il_n C dX7_pull_0 rfl (x_cS C CR mX7_isCable ⟨co_X7_isCable, init_X7, md_X7_isCable, by decide, by decide⟩ ml_X7_89 sm_X7_isCable dX7_pull_1 (x_if_ne C (hn 17) dX7_pull_4 (by decide) (x_thr C CR CX (by decide) (by decide) (E := eI) (text := "no such cable") (by decide +kernel) cl_X7_30 init_eI (by decide) at_iae dX7_pull_7 dX7_pull_10 dX7_pull_11 dX7_pull_13 dX7_pull_16)))
set_option maxRecDepth 20000 in
theorem oX7_pull_17 {T : Ct} {Q : Option Value → MM → Prop} {X : String → MM → Prop} (C : Cx T cX7_pull 2 RX7 1 6) (CR : CxR T 6 109) (CX : CxX T) (hr : T.2.2.2.2.2.2.2.2.1.sig.returnType = none) (hnm : T.2.2.2.2.2.2.2.2.1.name = "pull") {nx : Nat → Kt} (hn : ∀ pc, Sd T 2 (QX T Q X 1 6) 1 6 pc (nx pc)) : Sd T 2 (QX T Q X 1 6) 1 6 17 (bX7_pull_17 Q X nx) := x_al_n C dX7_pull_17 rfl (gf_X7_17 C dX7_pull_18 (x_il_n C dX7_pull_21 rfl (x_aald C (kd := 12) (t0 := 2) (by decide) (by decide) (fun _ => rfl) dX7_pull_22 (x_cV C CR mX0_isPlugged ⟨co_X0_isPlugged, init_X0, md_X0_isPlugged, by decide, by decide⟩ (ci := 0) (TX := TX0) (N := 5) rfl (by decide) ml_X7_116 im_X0_isPlugged se_X0_isPlugged dX7_pull_23 (x_if_ne C (hn 39) dX7_pull_26 (by decide) (x_thr C CR CX (by decide) (by decide) (E := eS) (text := "the cable is not plugged") (by decide +kernel) cl_X7_41 init_eS (by decide) at_ise dX7_pull_29 dX7_pull_32 dX7_pull_33 dX7_pull_35 dX7_pull_38))))))
set_option maxRecDepth 20000 in
theorem oX7_pull_39 {T : Ct} {Q : Option Value → MM → Prop} {X : String → MM → Prop} (C : Cx T cX7_pull 2 RX7 1 6) (CR : CxR T 6 109) (CX : CxX T) (hr : T.2.2.2.2.2.2.2.2.1.sig.returnType = none) (hnm : T.2.2.2.2.2.2.2.2.1.name = "pull") {nx : Nat → Kt} (hn : ∀ pc, Sd T 2 (QX T Q X 1 6) 1 6 pc (nx pc)) : Sd T 2 (QX T Q X 1 6) 1 6 39 (bX7_pull_39 Q X nx) := x_al_n C dX7_pull_39 rfl (x_al_n C dX7_pull_40 rfl (gf_X7_17 C dX7_pull_41 (x_il_n C dX7_pull_44 rfl (x_aald C (kd := 12) (t0 := 2) (by decide) (by decide) (fun _ => rfl) dX7_pull_45 (x_cV C CR mX7_takeOut ⟨co_X7_takeOut, init_X7, md_X7_takeOut, by decide, by decide⟩ (ci := 7) (TX := TX7) (N := 9) rfl (by decide) ml_X7_100 im_X7_takeOut se_X7_takeOut dX7_pull_46 (x_al_n C dX7_pull_49 rfl (x_cV C CR mX7_noteChange ⟨co_X7_noteChange, init_X7, md_X7_noteChange, by decide, by decide⟩ (ci := 7) (TX := TX7) (N := 9) rfl (by decide) ml_X7_49 im_X7_noteChange se_X7_noteChange dX7_pull_50 (x_up (x_rV C hr dX7_pull_53)))))))))
set_option maxRecDepth 20000 in
theorem mX7_pull (l : Launch) (hst : l.stackTraces = false) (D : va_G) (cA : Nat → ClassId) (base : Nat) : McX l D cA base yX7_pull cX7_pull 2 none rX7_pull wX7_pull := mcX_of hst (by decide +kernel) kX7_pull (fun T Q X C CR CX hr hnm nx hn => bse_ok _ (List.forall_mem_cons.mpr ⟨oX7_pull_0 C CR CX hr hnm hn, List.forall_mem_cons.mpr ⟨oX7_pull_17 C CR CX hr hnm hn, List.forall_mem_cons.mpr ⟨oX7_pull_39 C CR CX hr hnm hn, fun _ h => nomatch h⟩⟩⟩))
theorem dX7_light_0 : decode cX7_light 0 = .ok (.iload_n 1, 1) := by decide +kernel
theorem dX7_light_1 : decode cX7_light 1 = .ok (.invokestatic 89, 3) := by decide +kernel
theorem dX7_light_4 : decode cX7_light 4 = .ok (.ifCond .ne 13, 3) := by decide +kernel
theorem dX7_light_7 : decode cX7_light 7 = .ok (.new 30, 3) := by decide +kernel
theorem dX7_light_10 : decode cX7_light 10 = .ok (.dup, 1) := by decide +kernel
theorem dX7_light_11 : decode cX7_light 11 = .ok (.ldc 114, 2) := by decide +kernel
theorem dX7_light_13 : decode cX7_light 13 = .ok (.invokespecial 34, 3) := by decide +kernel
theorem dX7_light_16 : decode cX7_light 16 = .ok (.athrow, 1) := by decide +kernel
theorem dX7_light_17 : decode cX7_light 17 = .ok (.aload_n 0, 1) := by decide +kernel
theorem dX7_light_18 : decode cX7_light 18 = .ok (.getfield 17, 3) := by decide +kernel
theorem dX7_light_21 : decode cX7_light 21 = .ok (.iload_n 1, 1) := by decide +kernel
theorem dX7_light_22 : decode cX7_light 22 = .ok (.aaload, 1) := by decide +kernel
theorem dX7_light_23 : decode cX7_light 23 = .ok (.astore_n 3, 1) := by decide +kernel
theorem dX7_light_24 : decode cX7_light 24 = .ok (.aload_n 3, 1) := by decide +kernel
theorem dX7_light_25 : decode cX7_light 25 = .ok (.invokevirtual 116, 3) := by decide +kernel
theorem dX7_light_28 : decode cX7_light 28 = .ok (.ifCond .eq 11, 3) := by decide +kernel
theorem dX7_light_31 : decode cX7_light 31 = .ok (.aload_n 3, 1) := by decide +kernel
theorem dX7_light_32 : decode cX7_light 32 = .ok (.getfield 122, 3) := by decide +kernel
theorem dX7_light_35 : decode cX7_light 35 = .ok (.iload_n 2, 1) := by decide +kernel
theorem dX7_light_36 : decode cX7_light 36 = .ok (.if_icmp .ne 13, 3) := by decide +kernel
theorem dX7_light_39 : decode cX7_light 39 = .ok (.new 41, 3) := by decide +kernel
theorem dX7_light_42 : decode cX7_light 42 = .ok (.dup, 1) := by decide +kernel
theorem dX7_light_43 : decode cX7_light 43 = .ok (.ldc 126, 2) := by decide +kernel
theorem dX7_light_45 : decode cX7_light 45 = .ok (.invokespecial 45, 3) := by decide +kernel
theorem dX7_light_48 : decode cX7_light 48 = .ok (.athrow, 1) := by decide +kernel
theorem dX7_light_49 : decode cX7_light 49 = .ok (.iload_n 2, 1) := by decide +kernel
theorem dX7_light_50 : decode cX7_light 50 = .ok (.ifCond .eq 11, 3) := by decide +kernel
theorem dX7_light_53 : decode cX7_light 53 = .ok (.aload_n 0, 1) := by decide +kernel
theorem dX7_light_54 : decode cX7_light 54 = .ok (.aload_n 3, 1) := by decide +kernel
theorem dX7_light_55 : decode cX7_light 55 = .ok (.invokevirtual 111, 3) := by decide +kernel
theorem dX7_light_58 : decode cX7_light 58 = .ok (.goto 8, 3) := by decide +kernel
theorem dX7_light_61 : decode cX7_light 61 = .ok (.aload_n 0, 1) := by decide +kernel
theorem dX7_light_62 : decode cX7_light 62 = .ok (.aload_n 3, 1) := by decide +kernel
theorem dX7_light_63 : decode cX7_light 63 = .ok (.invokevirtual 128, 3) := by decide +kernel
theorem dX7_light_66 : decode cX7_light 66 = .ok (.aload_n 0, 1) := by decide +kernel
theorem dX7_light_67 : decode cX7_light 67 = .ok (.invokevirtual 49, 3) := by decide +kernel
theorem dX7_light_70 : decode cX7_light 70 = .ok (.return_, 1) := by decide +kernel
noncomputable def bX7_light_0 (Q : Option Value → MM → Prop) (X : String → MM → Prop) (nx : Nat → Kt) : Kt := ldI 1 (cS 1 wX7_isCable 0 0 1 6 (ifz (fun x => x = 0) (thr eI X 1 6) (nx 17)))
noncomputable def bX7_light_17 (Q : Option Value → MM → Prop) (X : String → MM → Prop) (nx : Nat → Kt) : Kt := ldA 0 (gR 7 1 (ldI 1 (aR 12 (stA 3 (ldA 3 (cV 0 0 wX0_isPlugged 0 0 1 6 (ifz (fun x => x = 0) (nx 39) (ldA 3 (gI 0 3 (ldI 2 (ifc (fun x y => x = y) (nx 39) (nx 49))))))))))))
noncomputable def bX7_light_39 (Q : Option Value → MM → Prop) (X : String → MM → Prop) (nx : Nat → Kt) : Kt := thr eS X 1 6
noncomputable def bX7_light_49 (Q : Option Value → MM → Prop) (X : String → MM → Prop) (nx : Nat → Kt) : Kt := ldI 2 (ifz (fun x => x = 0) (nx 61) (ldA 0 (ldA 3 (cV 1 7 wX7_switchOn 0 0 1 6 (nx 66)))))
noncomputable def bX7_light_61 (Q : Option Value → MM → Prop) (X : String → MM → Prop) (nx : Nat → Kt) : Kt := ldA 0 (ldA 3 (cV 1 7 wX7_switchOff 0 0 1 6 (nx 66)))
noncomputable def bX7_light_66 (Q : Option Value → MM → Prop) (X : String → MM → Prop) (nx : Nat → Kt) : Kt := ldA 0 (cV 0 7 wX7_noteChange 0 0 1 6 (rV Q))
noncomputable def kX7_light (Q : Option Value → MM → Prop) (X : String → MM → Prop) (nx : Nat → Kt) : Nat → Kt := bse [(0, bX7_light_0 Q X nx), (17, bX7_light_17 Q X nx), (39, bX7_light_39 Q X nx), (49, bX7_light_49 Q X nx), (61, bX7_light_61 Q X nx), (66, bX7_light_66 Q X nx)]
abbrev rX7_light : Room := { frames := 6, cells := 1, slots := 6, locals := 88 }
noncomputable def wX7_light : Mx := mx 4 kX7_light
set_option maxRecDepth 20000 in
theorem oX7_light_0 {T : Ct} {Q : Option Value → MM → Prop} {X : String → MM → Prop} (C : Cx T cX7_light 4 RX7 1 6) (CR : CxR T 6 88) (CX : CxX T) (hr : T.2.2.2.2.2.2.2.2.1.sig.returnType = none) (hnm : T.2.2.2.2.2.2.2.2.1.name = "light") {nx : Nat → Kt} (hn : ∀ pc, Sd T 4 (QX T Q X 1 6) 1 6 pc (nx pc)) : Sd T 4 (QX T Q X 1 6) 1 6 0 (bX7_light_0 Q X nx) := x_il_n C dX7_light_0 rfl (x_cS C CR mX7_isCable ⟨co_X7_isCable, init_X7, md_X7_isCable, by decide, by decide⟩ ml_X7_89 sm_X7_isCable dX7_light_1 (x_if_ne C (hn 17) dX7_light_4 (by decide) (x_thr C CR CX (by decide) (by decide) (E := eI) (text := "no such cable") (by decide +kernel) cl_X7_30 init_eI (by decide) at_iae dX7_light_7 dX7_light_10 dX7_light_11 dX7_light_13 dX7_light_16)))
set_option maxRecDepth 20000 in
theorem oX7_light_17 {T : Ct} {Q : Option Value → MM → Prop} {X : String → MM → Prop} (C : Cx T cX7_light 4 RX7 1 6) (CR : CxR T 6 88) (CX : CxX T) (hr : T.2.2.2.2.2.2.2.2.1.sig.returnType = none) (hnm : T.2.2.2.2.2.2.2.2.1.name = "light") {nx : Nat → Kt} (hn : ∀ pc, Sd T 4 (QX T Q X 1 6) 1 6 pc (nx pc)) : Sd T 4 (QX T Q X 1 6) 1 6 17 (bX7_light_17 Q X nx) := x_al_n C dX7_light_17 rfl (gf_X7_17 C dX7_light_18 (x_il_n C dX7_light_21 rfl (x_aald C (kd := 12) (t0 := 2) (by decide) (by decide) (fun _ => rfl) dX7_light_22 (x_as_n C dX7_light_23 rfl (by decide) (x_al_n C dX7_light_24 rfl (x_cV C CR mX0_isPlugged ⟨co_X0_isPlugged, init_X0, md_X0_isPlugged, by decide, by decide⟩ (ci := 0) (TX := TX0) (N := 5) rfl (by decide) ml_X7_116 im_X0_isPlugged se_X0_isPlugged dX7_light_25 (x_if_eq C (hn 39) dX7_light_28 (by decide) (x_al_n C dX7_light_31 rfl (gf_X7_122 C dX7_light_32 (x_il_n C dX7_light_35 rfl (x_ic_ne C (hn 49) dX7_light_36 (by decide) (hn 39))))))))))))
set_option maxRecDepth 20000 in
theorem oX7_light_39 {T : Ct} {Q : Option Value → MM → Prop} {X : String → MM → Prop} (C : Cx T cX7_light 4 RX7 1 6) (CR : CxR T 6 88) (CX : CxX T) (hr : T.2.2.2.2.2.2.2.2.1.sig.returnType = none) (hnm : T.2.2.2.2.2.2.2.2.1.name = "light") {nx : Nat → Kt} (hn : ∀ pc, Sd T 4 (QX T Q X 1 6) 1 6 pc (nx pc)) : Sd T 4 (QX T Q X 1 6) 1 6 39 (bX7_light_39 Q X nx) := x_thr C CR CX (by decide) (by decide) (E := eS) (text := "the cable is not plugged, or is so already") (by decide +kernel) cl_X7_41 init_eS (by decide) at_ise dX7_light_39 dX7_light_42 dX7_light_43 dX7_light_45 dX7_light_48
set_option maxRecDepth 20000 in
theorem oX7_light_49 {T : Ct} {Q : Option Value → MM → Prop} {X : String → MM → Prop} (C : Cx T cX7_light 4 RX7 1 6) (CR : CxR T 6 88) (CX : CxX T) (hr : T.2.2.2.2.2.2.2.2.1.sig.returnType = none) (hnm : T.2.2.2.2.2.2.2.2.1.name = "light") {nx : Nat → Kt} (hn : ∀ pc, Sd T 4 (QX T Q X 1 6) 1 6 pc (nx pc)) : Sd T 4 (QX T Q X 1 6) 1 6 49 (bX7_light_49 Q X nx) := x_il_n C dX7_light_49 rfl (x_if_eq C (hn 61) dX7_light_50 (by decide) (x_al_n C dX7_light_53 rfl (x_al_n C dX7_light_54 rfl (x_cV C CR mX7_switchOn ⟨co_X7_switchOn, init_X7, md_X7_switchOn, by decide, by decide⟩ (ci := 7) (TX := TX7) (N := 9) rfl (by decide) ml_X7_111 im_X7_switchOn se_X7_switchOn dX7_light_55 (x_goto C (hn 66) dX7_light_58 (by decide))))))
set_option maxRecDepth 20000 in
theorem oX7_light_61 {T : Ct} {Q : Option Value → MM → Prop} {X : String → MM → Prop} (C : Cx T cX7_light 4 RX7 1 6) (CR : CxR T 6 88) (CX : CxX T) (hr : T.2.2.2.2.2.2.2.2.1.sig.returnType = none) (hnm : T.2.2.2.2.2.2.2.2.1.name = "light") {nx : Nat → Kt} (hn : ∀ pc, Sd T 4 (QX T Q X 1 6) 1 6 pc (nx pc)) : Sd T 4 (QX T Q X 1 6) 1 6 61 (bX7_light_61 Q X nx) := x_al_n C dX7_light_61 rfl (x_al_n C dX7_light_62 rfl (x_cV C CR mX7_switchOff ⟨co_X7_switchOff, init_X7, md_X7_switchOff, by decide, by decide⟩ (ci := 7) (TX := TX7) (N := 9) rfl (by decide) ml_X7_128 im_X7_switchOff se_X7_switchOff dX7_light_63 (hn 66)))
set_option maxRecDepth 20000 in
theorem oX7_light_66 {T : Ct} {Q : Option Value → MM → Prop} {X : String → MM → Prop} (C : Cx T cX7_light 4 RX7 1 6) (CR : CxR T 6 88) (CX : CxX T) (hr : T.2.2.2.2.2.2.2.2.1.sig.returnType = none) (hnm : T.2.2.2.2.2.2.2.2.1.name = "light") {nx : Nat → Kt} (hn : ∀ pc, Sd T 4 (QX T Q X 1 6) 1 6 pc (nx pc)) : Sd T 4 (QX T Q X 1 6) 1 6 66 (bX7_light_66 Q X nx) := x_al_n C dX7_light_66 rfl (x_cV C CR mX7_noteChange ⟨co_X7_noteChange, init_X7, md_X7_noteChange, by decide, by decide⟩ (ci := 7) (TX := TX7) (N := 9) rfl (by decide) ml_X7_49 im_X7_noteChange se_X7_noteChange dX7_light_67 (x_up (x_rV C hr dX7_light_70)))
set_option maxRecDepth 20000 in
theorem mX7_light (l : Launch) (hst : l.stackTraces = false) (D : va_G) (cA : Nat → ClassId) (base : Nat) : McX l D cA base yX7_light cX7_light 4 none rX7_light wX7_light := mcX_of hst (by decide +kernel) kX7_light (fun T Q X C CR CX hr hnm nx hn => bse_ok _ (List.forall_mem_cons.mpr ⟨oX7_light_0 C CR CX hr hnm hn, List.forall_mem_cons.mpr ⟨oX7_light_17 C CR CX hr hnm hn, List.forall_mem_cons.mpr ⟨oX7_light_39 C CR CX hr hnm hn, List.forall_mem_cons.mpr ⟨oX7_light_49 C CR CX hr hnm hn, List.forall_mem_cons.mpr ⟨oX7_light_61 C CR CX hr hnm hn, List.forall_mem_cons.mpr ⟨oX7_light_66 C CR CX hr hnm hn, fun _ h => nomatch h⟩⟩⟩⟩⟩⟩))
theorem dX7_lose_0 : decode cX7_lose 0 = .ok (.iload_n 1, 1) := by decide +kernel
theorem dX7_lose_1 : decode cX7_lose 1 = .ok (.invokestatic 25, 3) := by decide +kernel
theorem dX7_lose_4 : decode cX7_lose 4 = .ok (.ifCond .eq 20, 3) := by decide +kernel
theorem dX7_lose_7 : decode cX7_lose 7 = .ok (.iload_n 2, 1) := by decide +kernel
theorem dX7_lose_8 : decode cX7_lose 8 = .ok (.invokestatic 89, 3) := by decide +kernel
theorem dX7_lose_11 : decode cX7_lose 11 = .ok (.ifCond .eq 13, 3) := by decide +kernel
theorem dX7_lose_14 : decode cX7_lose 14 = .ok (.iload_n 3, 1) := by decide +kernel
theorem dX7_lose_15 : decode cX7_lose 15 = .ok (.ifCond .lt 9, 3) := by decide +kernel
theorem dX7_lose_18 : decode cX7_lose 18 = .ok (.iload_n 3, 1) := by decide +kernel
theorem dX7_lose_19 : decode cX7_lose 19 = .ok (.bipush 100, 2) := by decide +kernel
theorem dX7_lose_21 : decode cX7_lose 21 = .ok (.if_icmp .le 13, 3) := by decide +kernel
theorem dX7_lose_24 : decode cX7_lose 24 = .ok (.new 30, 3) := by decide +kernel
theorem dX7_lose_27 : decode cX7_lose 27 = .ok (.dup, 1) := by decide +kernel
theorem dX7_lose_28 : decode cX7_lose 28 = .ok (.ldc 131, 2) := by decide +kernel
theorem dX7_lose_30 : decode cX7_lose 30 = .ok (.invokespecial 34, 3) := by decide +kernel
theorem dX7_lose_33 : decode cX7_lose 33 = .ok (.athrow, 1) := by decide +kernel
theorem dX7_lose_34 : decode cX7_lose 34 = .ok (.aload_n 0, 1) := by decide +kernel
theorem dX7_lose_35 : decode cX7_lose 35 = .ok (.getfield 17, 3) := by decide +kernel
theorem dX7_lose_38 : decode cX7_lose 38 = .ok (.iload_n 2, 1) := by decide +kernel
theorem dX7_lose_39 : decode cX7_lose 39 = .ok (.aaload, 1) := by decide +kernel
theorem dX7_lose_40 : decode cX7_lose 40 = .ok (.getfield 133, 3) := by decide +kernel
theorem dX7_lose_43 : decode cX7_lose 43 = .ok (.iload_n 1, 1) := by decide +kernel
theorem dX7_lose_44 : decode cX7_lose 44 = .ok (.aaload, 1) := by decide +kernel
theorem dX7_lose_45 : decode cX7_lose 45 = .ok (.iload_n 3, 1) := by decide +kernel
theorem dX7_lose_46 : decode cX7_lose 46 = .ok (.putfield 137, 3) := by decide +kernel
theorem dX7_lose_49 : decode cX7_lose 49 = .ok (.aload_n 0, 1) := by decide +kernel
theorem dX7_lose_50 : decode cX7_lose 50 = .ok (.invokevirtual 49, 3) := by decide +kernel
theorem dX7_lose_53 : decode cX7_lose 53 = .ok (.return_, 1) := by decide +kernel
noncomputable def bX7_lose_0 (Q : Option Value → MM → Prop) (X : String → MM → Prop) (nx : Nat → Kt) : Kt := ldI 1 (cS 1 wX7_isEnd 0 0 1 6 (ifz (fun x => x = 0) (nx 24) (ldI 2 (cS 1 wX7_isCable 0 0 1 6 (ifz (fun x => x = 0) (nx 24) (ldI 3 (ifz (fun x => x < 0) (nx 24) (ldI 3 (cI 100 (ifc (fun x y => x ≤ y) (nx 34) (nx 24)))))))))))
noncomputable def bX7_lose_24 (Q : Option Value → MM → Prop) (X : String → MM → Prop) (nx : Nat → Kt) : Kt := thr eI X 1 6
noncomputable def bX7_lose_34 (Q : Option Value → MM → Prop) (X : String → MM → Prop) (nx : Nat → Kt) : Kt := ldA 0 (gR 7 1 (ldI 2 (aR 12 (gR 0 1 (ldI 1 (aR 15 (ldI 3 (tI 3 6 (ldA 0 (cV 0 7 wX7_noteChange 0 0 1 6 (rV Q)))))))))))
noncomputable def kX7_lose (Q : Option Value → MM → Prop) (X : String → MM → Prop) (nx : Nat → Kt) : Nat → Kt := bse [(0, bX7_lose_0 Q X nx), (24, bX7_lose_24 Q X nx), (34, bX7_lose_34 Q X nx)]
abbrev rX7_lose : Room := { frames := 6, cells := 1, slots := 6, locals := 88 }
noncomputable def wX7_lose : Mx := mx 4 kX7_lose
set_option maxRecDepth 20000 in
theorem oX7_lose_0 {T : Ct} {Q : Option Value → MM → Prop} {X : String → MM → Prop} (C : Cx T cX7_lose 4 RX7 1 6) (CR : CxR T 6 88) (CX : CxX T) (hr : T.2.2.2.2.2.2.2.2.1.sig.returnType = none) (hnm : T.2.2.2.2.2.2.2.2.1.name = "lose") {nx : Nat → Kt} (hn : ∀ pc, Sd T 4 (QX T Q X 1 6) 1 6 pc (nx pc)) : Sd T 4 (QX T Q X 1 6) 1 6 0 (bX7_lose_0 Q X nx) := x_il_n C dX7_lose_0 rfl (x_cS C CR mX7_isEnd ⟨co_X7_isEnd, init_X7, md_X7_isEnd, by decide, by decide⟩ ml_X7_25 sm_X7_isEnd dX7_lose_1 (x_if_eq C (hn 24) dX7_lose_4 (by decide) (x_il_n C dX7_lose_7 rfl (x_cS C CR mX7_isCable ⟨co_X7_isCable, init_X7, md_X7_isCable, by decide, by decide⟩ ml_X7_89 sm_X7_isCable dX7_lose_8 (x_if_eq C (hn 24) dX7_lose_11 (by decide) (x_il_n C dX7_lose_14 rfl (x_if_lt C (hn 24) dX7_lose_15 (by decide) (x_il_n C dX7_lose_18 rfl (x_bp C dX7_lose_19 (by decide) (x_ic_le C (hn 34) dX7_lose_21 (by decide) (hn 24)))))))))))
set_option maxRecDepth 20000 in
theorem oX7_lose_24 {T : Ct} {Q : Option Value → MM → Prop} {X : String → MM → Prop} (C : Cx T cX7_lose 4 RX7 1 6) (CR : CxR T 6 88) (CX : CxX T) (hr : T.2.2.2.2.2.2.2.2.1.sig.returnType = none) (hnm : T.2.2.2.2.2.2.2.2.1.name = "lose") {nx : Nat → Kt} (hn : ∀ pc, Sd T 4 (QX T Q X 1 6) 1 6 pc (nx pc)) : Sd T 4 (QX T Q X 1 6) 1 6 24 (bX7_lose_24 Q X nx) := x_thr C CR CX (by decide) (by decide) (E := eI) (text := "no such end or cable, or n is not 0 to 100") (by decide +kernel) cl_X7_30 init_eI (by decide) at_iae dX7_lose_24 dX7_lose_27 dX7_lose_28 dX7_lose_30 dX7_lose_33
set_option maxRecDepth 20000 in
theorem oX7_lose_34 {T : Ct} {Q : Option Value → MM → Prop} {X : String → MM → Prop} (C : Cx T cX7_lose 4 RX7 1 6) (CR : CxR T 6 88) (CX : CxX T) (hr : T.2.2.2.2.2.2.2.2.1.sig.returnType = none) (hnm : T.2.2.2.2.2.2.2.2.1.name = "lose") {nx : Nat → Kt} (hn : ∀ pc, Sd T 4 (QX T Q X 1 6) 1 6 pc (nx pc)) : Sd T 4 (QX T Q X 1 6) 1 6 34 (bX7_lose_34 Q X nx) := x_al_n C dX7_lose_34 rfl (gf_X7_17 C dX7_lose_35 (x_il_n C dX7_lose_38 rfl (x_aald C (kd := 12) (t0 := 2) (by decide) (by decide) (fun _ => rfl) dX7_lose_39 (gf_X7_133 C dX7_lose_40 (x_il_n C dX7_lose_43 rfl (x_aald C (kd := 15) (t0 := 5) (by decide) (by decide) (fun _ => rfl) dX7_lose_44 (x_il_n C dX7_lose_45 rfl (pf_X7_137 C dX7_lose_46 (x_al_n C dX7_lose_49 rfl (x_cV C CR mX7_noteChange ⟨co_X7_noteChange, init_X7, md_X7_noteChange, by decide, by decide⟩ (ci := 7) (TX := TX7) (N := 9) rfl (by decide) ml_X7_49 im_X7_noteChange se_X7_noteChange dX7_lose_50 (x_up (x_rV C hr dX7_lose_53))))))))))))
set_option maxRecDepth 20000 in
theorem mX7_lose (l : Launch) (hst : l.stackTraces = false) (D : va_G) (cA : Nat → ClassId) (base : Nat) : McX l D cA base yX7_lose cX7_lose 4 none rX7_lose wX7_lose := mcX_of hst (by decide +kernel) kX7_lose (fun T Q X C CR CX hr hnm nx hn => bse_ok _ (List.forall_mem_cons.mpr ⟨oX7_lose_0 C CR CX hr hnm hn, List.forall_mem_cons.mpr ⟨oX7_lose_24 C CR CX hr hnm hn, List.forall_mem_cons.mpr ⟨oX7_lose_34 C CR CX hr hnm hn, fun _ h => nomatch h⟩⟩⟩))
theorem dX7_tick_0 : decode cX7_tick 0 = .ok (.iload_n 1, 1) := by decide +kernel
theorem dX7_tick_1 : decode cX7_tick 1 = .ok (.iconst 1, 1) := by decide +kernel
theorem dX7_tick_2 : decode cX7_tick 2 = .ok (.if_icmp .lt 10, 3) := by decide +kernel
theorem dX7_tick_5 : decode cX7_tick 5 = .ok (.iload_n 1, 1) := by decide +kernel
theorem dX7_tick_6 : decode cX7_tick 6 = .ok (.sipush 1000, 3) := by decide +kernel
theorem dX7_tick_9 : decode cX7_tick 9 = .ok (.if_icmp .le 13, 3) := by decide +kernel
theorem dX7_tick_12 : decode cX7_tick 12 = .ok (.new 30, 3) := by decide +kernel
theorem dX7_tick_15 : decode cX7_tick 15 = .ok (.dup, 1) := by decide +kernel
theorem dX7_tick_16 : decode cX7_tick 16 = .ok (.ldc 142, 2) := by decide +kernel
theorem dX7_tick_18 : decode cX7_tick 18 = .ok (.invokespecial 34, 3) := by decide +kernel
theorem dX7_tick_21 : decode cX7_tick 21 = .ok (.athrow, 1) := by decide +kernel
theorem dX7_tick_22 : decode cX7_tick 22 = .ok (.aload_n 0, 1) := by decide +kernel
theorem dX7_tick_23 : decode cX7_tick 23 = .ok (.getfield 11, 3) := by decide +kernel
theorem dX7_tick_26 : decode cX7_tick 26 = .ok (.iconst 0, 1) := by decide +kernel
theorem dX7_tick_27 : decode cX7_tick 27 = .ok (.aaload, 1) := by decide +kernel
theorem dX7_tick_28 : decode cX7_tick 28 = .ok (.getfield 144, 3) := by decide +kernel
theorem dX7_tick_31 : decode cX7_tick 31 = .ok (.aload_n 0, 1) := by decide +kernel
theorem dX7_tick_32 : decode cX7_tick 32 = .ok (.getfield 11, 3) := by decide +kernel
theorem dX7_tick_35 : decode cX7_tick 35 = .ok (.iconst 1, 1) := by decide +kernel
theorem dX7_tick_36 : decode cX7_tick 36 = .ok (.aaload, 1) := by decide +kernel
theorem dX7_tick_37 : decode cX7_tick 37 = .ok (.getfield 144, 3) := by decide +kernel
theorem dX7_tick_40 : decode cX7_tick 40 = .ok (.iadd, 1) := by decide +kernel
theorem dX7_tick_41 : decode cX7_tick 41 = .ok (.istore_n 2, 1) := by decide +kernel
theorem dX7_tick_42 : decode cX7_tick 42 = .ok (.iconst 0, 1) := by decide +kernel
theorem dX7_tick_43 : decode cX7_tick 43 = .ok (.istore_n 3, 1) := by decide +kernel
theorem dX7_tick_44 : decode cX7_tick 44 = .ok (.iload_n 3, 1) := by decide +kernel
theorem dX7_tick_45 : decode cX7_tick 45 = .ok (.iload_n 1, 1) := by decide +kernel
theorem dX7_tick_46 : decode cX7_tick 46 = .ok (.if_icmp .ge 13, 3) := by decide +kernel
theorem dX7_tick_49 : decode cX7_tick 49 = .ok (.aload_n 0, 1) := by decide +kernel
theorem dX7_tick_50 : decode cX7_tick 50 = .ok (.invokevirtual 147, 3) := by decide +kernel
theorem dX7_tick_53 : decode cX7_tick 53 = .ok (.iinc 3 1, 3) := by decide +kernel
theorem dX7_tick_56 : decode cX7_tick 56 = .ok (.goto (-12), 3) := by decide +kernel
theorem dX7_tick_59 : decode cX7_tick 59 = .ok (.aload_n 0, 1) := by decide +kernel
theorem dX7_tick_60 : decode cX7_tick 60 = .ok (.getfield 11, 3) := by decide +kernel
theorem dX7_tick_63 : decode cX7_tick 63 = .ok (.iconst 0, 1) := by decide +kernel
theorem dX7_tick_64 : decode cX7_tick 64 = .ok (.aaload, 1) := by decide +kernel
theorem dX7_tick_65 : decode cX7_tick 65 = .ok (.getfield 144, 3) := by decide +kernel
theorem dX7_tick_68 : decode cX7_tick 68 = .ok (.aload_n 0, 1) := by decide +kernel
theorem dX7_tick_69 : decode cX7_tick 69 = .ok (.getfield 11, 3) := by decide +kernel
theorem dX7_tick_72 : decode cX7_tick 72 = .ok (.iconst 1, 1) := by decide +kernel
theorem dX7_tick_73 : decode cX7_tick 73 = .ok (.aaload, 1) := by decide +kernel
theorem dX7_tick_74 : decode cX7_tick 74 = .ok (.getfield 144, 3) := by decide +kernel
theorem dX7_tick_77 : decode cX7_tick 77 = .ok (.iadd, 1) := by decide +kernel
theorem dX7_tick_78 : decode cX7_tick 78 = .ok (.iload_n 2, 1) := by decide +kernel
theorem dX7_tick_79 : decode cX7_tick 79 = .ok (.isub, 1) := by decide +kernel
theorem dX7_tick_80 : decode cX7_tick 80 = .ok (.ireturn, 1) := by decide +kernel
noncomputable def bX7_tick_0 (Q : Option Value → MM → Prop) (X : String → MM → Prop) (nx : Nat → Kt) : Kt := ldI 1 (cI 1 (ifc (fun x y => x < y) (nx 12) (ldI 1 (cI 1000 (ifc (fun x y => x ≤ y) (nx 22) (nx 12))))))
noncomputable def bX7_tick_12 (Q : Option Value → MM → Prop) (X : String → MM → Prop) (nx : Nat → Kt) : Kt := thr eI X 1 6
noncomputable def bX7_tick_22 (Q : Option Value → MM → Prop) (X : String → MM → Prop) (nx : Nat → Kt) : Kt := ldA 0 (gR 7 0 (cI 0 (aR 13 (gI 1 3 (ldA 0 (gR 7 0 (cI 1 (aR 13 (gI 1 3 (bop (fun x y => x + y) (stI 2 (cI 0 (stI 3 (nx 44))))))))))))))
noncomputable def bX7_tick_44 (Q : Option Value → MM → Prop) (X : String → MM → Prop) (nx : Nat → Kt) : Kt := ldI 3 (ldI 1 (ifc (fun x y => y ≤ x) (nx 59) (ldA 0 (cV 0 7 wX7_runTick 0 0 1 6 (inc 3 1 (nx 44))))))
noncomputable def bX7_tick_59 (Q : Option Value → MM → Prop) (X : String → MM → Prop) (nx : Nat → Kt) : Kt := ldA 0 (gR 7 0 (cI 0 (aR 13 (gI 1 3 (ldA 0 (gR 7 0 (cI 1 (aR 13 (gI 1 3 (bop (fun x y => x + y) (ldI 2 (bop (fun x y => x - y) (rI Q)))))))))))))
noncomputable def kX7_tick (Q : Option Value → MM → Prop) (X : String → MM → Prop) (nx : Nat → Kt) : Nat → Kt := bse [(0, bX7_tick_0 Q X nx), (12, bX7_tick_12 Q X nx), (22, bX7_tick_22 Q X nx), (44, bX7_tick_44 Q X nx), (59, bX7_tick_59 Q X nx)]
abbrev rX7_tick : Room := { frames := 6, cells := 1, slots := 6, locals := 139 }
noncomputable def wX7_tick : Mx := mx 4 kX7_tick
set_option maxRecDepth 20000 in
theorem oX7_tick_0 {T : Ct} {Q : Option Value → MM → Prop} {X : String → MM → Prop} (C : Cx T cX7_tick 4 RX7 1 6) (CR : CxR T 6 139) (CX : CxX T) (hr : T.2.2.2.2.2.2.2.2.1.sig.returnType = (some .int)) (hnm : T.2.2.2.2.2.2.2.2.1.name = "tick") {nx : Nat → Kt} (hn : ∀ pc, Sd T 4 (QX T Q X 1 6) 1 6 pc (nx pc)) : Sd T 4 (QX T Q X 1 6) 1 6 0 (bX7_tick_0 Q X nx) := x_il_n C dX7_tick_0 rfl (x_ic C dX7_tick_1 (by decide) (x_ic_lt C (hn 12) dX7_tick_2 (by decide) (x_il_n C dX7_tick_5 rfl (x_sp C dX7_tick_6 (by decide) (x_ic_le C (hn 22) dX7_tick_9 (by decide) (hn 12))))))
set_option maxRecDepth 20000 in
theorem oX7_tick_12 {T : Ct} {Q : Option Value → MM → Prop} {X : String → MM → Prop} (C : Cx T cX7_tick 4 RX7 1 6) (CR : CxR T 6 139) (CX : CxX T) (hr : T.2.2.2.2.2.2.2.2.1.sig.returnType = (some .int)) (hnm : T.2.2.2.2.2.2.2.2.1.name = "tick") {nx : Nat → Kt} (hn : ∀ pc, Sd T 4 (QX T Q X 1 6) 1 6 pc (nx pc)) : Sd T 4 (QX T Q X 1 6) 1 6 12 (bX7_tick_12 Q X nx) := x_thr C CR CX (by decide) (by decide) (E := eI) (text := "n is not 1 to 1000") (by decide +kernel) cl_X7_30 init_eI (by decide) at_iae dX7_tick_12 dX7_tick_15 dX7_tick_16 dX7_tick_18 dX7_tick_21
set_option maxRecDepth 20000 in
theorem oX7_tick_22 {T : Ct} {Q : Option Value → MM → Prop} {X : String → MM → Prop} (C : Cx T cX7_tick 4 RX7 1 6) (CR : CxR T 6 139) (CX : CxX T) (hr : T.2.2.2.2.2.2.2.2.1.sig.returnType = (some .int)) (hnm : T.2.2.2.2.2.2.2.2.1.name = "tick") {nx : Nat → Kt} (hn : ∀ pc, Sd T 4 (QX T Q X 1 6) 1 6 pc (nx pc)) : Sd T 4 (QX T Q X 1 6) 1 6 22 (bX7_tick_22 Q X nx) := x_al_n C dX7_tick_22 rfl (gf_X7_11 C dX7_tick_23 (x_ic C dX7_tick_26 (by decide) (x_aald C (kd := 13) (t0 := 3) (by decide) (by decide) (fun _ => rfl) dX7_tick_27 (gf_X7_144 C dX7_tick_28 (x_al_n C dX7_tick_31 rfl (gf_X7_11 C dX7_tick_32 (x_ic C dX7_tick_35 (by decide) (x_aald C (kd := 13) (t0 := 3) (by decide) (by decide) (fun _ => rfl) dX7_tick_36 (gf_X7_144 C dX7_tick_37 (x_iadd C dX7_tick_40 (x_is_n C dX7_tick_41 rfl (by decide) (x_ic C dX7_tick_42 (by decide) (x_is_n C dX7_tick_43 rfl (by decide) (hn 44))))))))))))))
set_option maxRecDepth 20000 in
theorem oX7_tick_44 {T : Ct} {Q : Option Value → MM → Prop} {X : String → MM → Prop} (C : Cx T cX7_tick 4 RX7 1 6) (CR : CxR T 6 139) (CX : CxX T) (hr : T.2.2.2.2.2.2.2.2.1.sig.returnType = (some .int)) (hnm : T.2.2.2.2.2.2.2.2.1.name = "tick") {nx : Nat → Kt} (hn : ∀ pc, Sd T 4 (QX T Q X 1 6) 1 6 pc (nx pc)) : Sd T 4 (QX T Q X 1 6) 1 6 44 (bX7_tick_44 Q X nx) := x_il_n C dX7_tick_44 rfl (x_il_n C dX7_tick_45 rfl (x_ic_ge C (hn 59) dX7_tick_46 (by decide) (x_al_n C dX7_tick_49 rfl (x_cV C CR mX7_runTick ⟨co_X7_runTick, init_X7, md_X7_runTick, by decide, by decide⟩ (ci := 7) (TX := TX7) (N := 9) rfl (by decide) ml_X7_147 im_X7_runTick se_X7_runTick dX7_tick_50 (x_inc C dX7_tick_53 (by decide) (by decide) (x_goto C (hn 44) dX7_tick_56 (by decide)))))))
set_option maxRecDepth 20000 in
theorem oX7_tick_59 {T : Ct} {Q : Option Value → MM → Prop} {X : String → MM → Prop} (C : Cx T cX7_tick 4 RX7 1 6) (CR : CxR T 6 139) (CX : CxX T) (hr : T.2.2.2.2.2.2.2.2.1.sig.returnType = (some .int)) (hnm : T.2.2.2.2.2.2.2.2.1.name = "tick") {nx : Nat → Kt} (hn : ∀ pc, Sd T 4 (QX T Q X 1 6) 1 6 pc (nx pc)) : Sd T 4 (QX T Q X 1 6) 1 6 59 (bX7_tick_59 Q X nx) := x_al_n C dX7_tick_59 rfl (gf_X7_11 C dX7_tick_60 (x_ic C dX7_tick_63 (by decide) (x_aald C (kd := 13) (t0 := 3) (by decide) (by decide) (fun _ => rfl) dX7_tick_64 (gf_X7_144 C dX7_tick_65 (x_al_n C dX7_tick_68 rfl (gf_X7_11 C dX7_tick_69 (x_ic C dX7_tick_72 (by decide) (x_aald C (kd := 13) (t0 := 3) (by decide) (by decide) (fun _ => rfl) dX7_tick_73 (gf_X7_144 C dX7_tick_74 (x_iadd C dX7_tick_77 (x_il_n C dX7_tick_78 rfl (x_isub C dX7_tick_79 (x_up (x_rI C hr dX7_tick_80))))))))))))))
set_option maxRecDepth 20000 in
theorem mX7_tick (l : Launch) (hst : l.stackTraces = false) (D : va_G) (cA : Nat → ClassId) (base : Nat) : McX l D cA base yX7_tick cX7_tick 4 (some .int) rX7_tick wX7_tick := mcX_of hst (by decide +kernel) kX7_tick (fun T Q X C CR CX hr hnm nx hn => bse_ok _ (List.forall_mem_cons.mpr ⟨oX7_tick_0 C CR CX hr hnm hn, List.forall_mem_cons.mpr ⟨oX7_tick_12 C CR CX hr hnm hn, List.forall_mem_cons.mpr ⟨oX7_tick_22 C CR CX hr hnm hn, List.forall_mem_cons.mpr ⟨oX7_tick_44 C CR CX hr hnm hn, List.forall_mem_cons.mpr ⟨oX7_tick_59 C CR CX hr hnm hn, fun _ h => nomatch h⟩⟩⟩⟩⟩))
theorem dX7_give_0 : decode cX7_give 0 = .ok (.iload_n 1, 1) := by decide +kernel
theorem dX7_give_1 : decode cX7_give 1 = .ok (.invokestatic 25, 3) := by decide +kernel
theorem dX7_give_4 : decode cX7_give 4 = .ok (.ifCond .eq 14, 3) := by decide +kernel
theorem dX7_give_7 : decode cX7_give 7 = .ok (.iload_n 3, 1) := by decide +kernel
theorem dX7_give_8 : decode cX7_give 8 = .ok (.ifCond .lt 10, 3) := by decide +kernel
theorem dX7_give_11 : decode cX7_give 11 = .ok (.iload_n 3, 1) := by decide +kernel
theorem dX7_give_12 : decode cX7_give 12 = .ok (.sipush 255, 3) := by decide +kernel
theorem dX7_give_15 : decode cX7_give 15 = .ok (.if_icmp .le 13, 3) := by decide +kernel
theorem dX7_give_18 : decode cX7_give 18 = .ok (.new 30, 3) := by decide +kernel
theorem dX7_give_21 : decode cX7_give 21 = .ok (.dup, 1) := by decide +kernel
theorem dX7_give_22 : decode cX7_give 22 = .ok (.ldc 150, 2) := by decide +kernel
theorem dX7_give_24 : decode cX7_give 24 = .ok (.invokespecial 34, 3) := by decide +kernel
theorem dX7_give_27 : decode cX7_give 27 = .ok (.athrow, 1) := by decide +kernel
theorem dX7_give_28 : decode cX7_give 28 = .ok (.aload_n 0, 1) := by decide +kernel
theorem dX7_give_29 : decode cX7_give 29 = .ok (.getfield 11, 3) := by decide +kernel
theorem dX7_give_32 : decode cX7_give 32 = .ok (.iload_n 1, 1) := by decide +kernel
theorem dX7_give_33 : decode cX7_give 33 = .ok (.aaload, 1) := by decide +kernel
theorem dX7_give_34 : decode cX7_give 34 = .ok (.iload_n 2, 1) := by decide +kernel
theorem dX7_give_35 : decode cX7_give 35 = .ok (.iload_n 3, 1) := by decide +kernel
theorem dX7_give_36 : decode cX7_give 36 = .ok (.invokevirtual 152, 3) := by decide +kernel
theorem dX7_give_39 : decode cX7_give 39 = .ok (.astore 5, 2) := by decide +kernel
theorem dX7_give_41 : decode cX7_give 41 = .ok (.aload 5, 2) := by decide +kernel
theorem dX7_give_43 : decode cX7_give 43 = .ok (.ifnull 14, 3) := by decide +kernel
theorem dX7_give_46 : decode cX7_give 46 = .ok (.aload 5, 2) := by decide +kernel
theorem dX7_give_48 : decode cX7_give 48 = .ok (.getfield 156, 3) := by decide +kernel
theorem dX7_give_51 : decode cX7_give 51 = .ok (.invokestatic 89, 3) := by decide +kernel
theorem dX7_give_54 : decode cX7_give 54 = .ok (.ifCond .ne 5, 3) := by decide +kernel
theorem dX7_give_57 : decode cX7_give 57 = .ok (.iconst (-1), 1) := by decide +kernel
theorem dX7_give_58 : decode cX7_give 58 = .ok (.ireturn, 1) := by decide +kernel
theorem dX7_give_59 : decode cX7_give 59 = .ok (.aload_n 0, 1) := by decide +kernel
theorem dX7_give_60 : decode cX7_give 60 = .ok (.getfield 17, 3) := by decide +kernel
theorem dX7_give_63 : decode cX7_give 63 = .ok (.aload 5, 2) := by decide +kernel
theorem dX7_give_65 : decode cX7_give 65 = .ok (.getfield 156, 3) := by decide +kernel
theorem dX7_give_68 : decode cX7_give 68 = .ok (.aaload, 1) := by decide +kernel
theorem dX7_give_69 : decode cX7_give 69 = .ok (.astore 6, 2) := by decide +kernel
theorem dX7_give_71 : decode cX7_give 71 = .ok (.aload 6, 2) := by decide +kernel
theorem dX7_give_73 : decode cX7_give 73 = .ok (.getfield 133, 3) := by decide +kernel
theorem dX7_give_76 : decode cX7_give 76 = .ok (.iload_n 1, 1) := by decide +kernel
theorem dX7_give_77 : decode cX7_give 77 = .ok (.aaload, 1) := by decide +kernel
theorem dX7_give_78 : decode cX7_give 78 = .ok (.astore 7, 2) := by decide +kernel
theorem dX7_give_80 : decode cX7_give 80 = .ok (.aload 7, 2) := by decide +kernel
theorem dX7_give_82 : decode cX7_give 82 = .ok (.invokevirtual 159, 3) := by decide +kernel
theorem dX7_give_85 : decode cX7_give 85 = .ok (.ifCond .eq 5, 3) := by decide +kernel
theorem dX7_give_88 : decode cX7_give 88 = .ok (.iconst (-1), 1) := by decide +kernel
theorem dX7_give_89 : decode cX7_give 89 = .ok (.ireturn, 1) := by decide +kernel
theorem dX7_give_90 : decode cX7_give 90 = .ok (.aload 7, 2) := by decide +kernel
theorem dX7_give_92 : decode cX7_give 92 = .ok (.invokevirtual 162, 3) := by decide +kernel
theorem dX7_give_95 : decode cX7_give 95 = .ok (.astore 8, 2) := by decide +kernel
theorem dX7_give_97 : decode cX7_give 97 = .ok (.aload 8, 2) := by decide +kernel
theorem dX7_give_99 : decode cX7_give 99 = .ok (.iload_n 3, 1) := by decide +kernel
theorem dX7_give_100 : decode cX7_give 100 = .ok (.putfield 166, 3) := by decide +kernel
theorem dX7_give_103 : decode cX7_give 103 = .ok (.aload 8, 2) := by decide +kernel
theorem dX7_give_105 : decode cX7_give 105 = .ok (.iload 4, 2) := by decide +kernel
theorem dX7_give_107 : decode cX7_give 107 = .ok (.putfield 171, 3) := by decide +kernel
theorem dX7_give_110 : decode cX7_give 110 = .ok (.aload 8, 2) := by decide +kernel
theorem dX7_give_112 : decode cX7_give 112 = .ok (.iload_n 2, 1) := by decide +kernel
theorem dX7_give_113 : decode cX7_give 113 = .ok (.putfield 174, 3) := by decide +kernel
theorem dX7_give_116 : decode cX7_give 116 = .ok (.aload 8, 2) := by decide +kernel
theorem dX7_give_118 : decode cX7_give 118 = .ok (.aload_n 0, 1) := by decide +kernel
theorem dX7_give_119 : decode cX7_give 119 = .ok (.getfield 177, 3) := by decide +kernel
theorem dX7_give_122 : decode cX7_give 122 = .ok (.aload 6, 2) := by decide +kernel
theorem dX7_give_124 : decode cX7_give 124 = .ok (.getfield 108, 3) := by decide +kernel
theorem dX7_give_127 : decode cX7_give 127 = .ok (.iadd, 1) := by decide +kernel
theorem dX7_give_128 : decode cX7_give 128 = .ok (.putfield 180, 3) := by decide +kernel
theorem dX7_give_131 : decode cX7_give 131 = .ok (.aload 8, 2) := by decide +kernel
theorem dX7_give_133 : decode cX7_give 133 = .ok (.aload_n 0, 1) := by decide +kernel
theorem dX7_give_134 : decode cX7_give 134 = .ok (.getfield 11, 3) := by decide +kernel
theorem dX7_give_137 : decode cX7_give 137 = .ok (.iload_n 1, 1) := by decide +kernel
theorem dX7_give_138 : decode cX7_give 138 = .ok (.aaload, 1) := by decide +kernel
theorem dX7_give_139 : decode cX7_give 139 = .ok (.getfield 183, 3) := by decide +kernel
theorem dX7_give_142 : decode cX7_give 142 = .ok (.putfield 186, 3) := by decide +kernel
theorem dX7_give_145 : decode cX7_give 145 = .ok (.aload 8, 2) := by decide +kernel
theorem dX7_give_147 : decode cX7_give 147 = .ok (.aload_n 0, 1) := by decide +kernel
theorem dX7_give_148 : decode cX7_give 148 = .ok (.getfield 11, 3) := by decide +kernel
theorem dX7_give_151 : decode cX7_give 151 = .ok (.iload_n 1, 1) := by decide +kernel
theorem dX7_give_152 : decode cX7_give 152 = .ok (.aaload, 1) := by decide +kernel
theorem dX7_give_153 : decode cX7_give 153 = .ok (.dup, 1) := by decide +kernel
theorem dX7_give_154 : decode cX7_give 154 = .ok (.getfield 187, 3) := by decide +kernel
theorem dX7_give_157 : decode cX7_give 157 = .ok (.dup_x1, 1) := by decide +kernel
theorem dX7_give_158 : decode cX7_give 158 = .ok (.iconst 1, 1) := by decide +kernel
theorem dX7_give_159 : decode cX7_give 159 = .ok (.iadd, 1) := by decide +kernel
theorem dX7_give_160 : decode cX7_give 160 = .ok (.putfield 187, 3) := by decide +kernel
theorem dX7_give_163 : decode cX7_give 163 = .ok (.putfield 190, 3) := by decide +kernel
theorem dX7_give_166 : decode cX7_give 166 = .ok (.aload 8, 2) := by decide +kernel
theorem dX7_give_168 : decode cX7_give 168 = .ok (.iconst 0, 1) := by decide +kernel
theorem dX7_give_169 : decode cX7_give 169 = .ok (.putfield 193, 3) := by decide +kernel
theorem dX7_give_172 : decode cX7_give 172 = .ok (.aload 5, 2) := by decide +kernel
theorem dX7_give_174 : decode cX7_give 174 = .ok (.getfield 196, 3) := by decide +kernel
theorem dX7_give_177 : decode cX7_give 177 = .ok (.bipush 16, 2) := by decide +kernel
theorem dX7_give_179 : decode cX7_give 179 = .ok (.invokevirtual 199, 3) := by decide +kernel
theorem dX7_give_182 : decode cX7_give 182 = .ok (.ifCond .ne 13, 3) := by decide +kernel
theorem dX7_give_185 : decode cX7_give 185 = .ok (.aload_n 0, 1) := by decide +kernel
theorem dX7_give_186 : decode cX7_give 186 = .ok (.dup, 1) := by decide +kernel
theorem dX7_give_187 : decode cX7_give 187 = .ok (.getfield 202, 3) := by decide +kernel
theorem dX7_give_190 : decode cX7_give 190 = .ok (.iconst 1, 1) := by decide +kernel
theorem dX7_give_191 : decode cX7_give 191 = .ok (.iadd, 1) := by decide +kernel
theorem dX7_give_192 : decode cX7_give 192 = .ok (.putfield 202, 3) := by decide +kernel
theorem dX7_give_195 : decode cX7_give 195 = .ok (.aload 5, 2) := by decide +kernel
theorem dX7_give_197 : decode cX7_give 197 = .ok (.getfield 69, 3) := by decide +kernel
theorem dX7_give_200 : decode cX7_give 200 = .ok (.getfield 205, 3) := by decide +kernel
theorem dX7_give_203 : decode cX7_give 203 = .ok (.ireturn, 1) := by decide +kernel
noncomputable def bX7_give_0 (Q : Option Value → MM → Prop) (X : String → MM → Prop) (nx : Nat → Kt) : Kt := ldI 1 (cS 1 wX7_isEnd 0 0 2 13 (ifz (fun x => x = 0) (nx 18) (ldI 3 (ifz (fun x => x < 0) (nx 18) (ldI 3 (cI 255 (ifc (fun x y => x ≤ y) (nx 28) (nx 18))))))))
noncomputable def bX7_give_18 (Q : Option Value → MM → Prop) (X : String → MM → Prop) (nx : Nat → Kt) : Kt := thr eI X 2 13
noncomputable def bX7_give_28 (Q : Option Value → MM → Prop) (X : String → MM → Prop) (nx : Nat → Kt) : Kt := ldA 0 (gR 7 0 (ldI 1 (aR 13 (ldI 2 (ldI 3 (cV 2 1 wX1_giverOf 0 0 2 13 (stA 5 (ldA 5 (ifn (nx 57) (ldA 5 (gI 5 2 (cS 1 wX7_isCable 0 0 2 13 (ifz (fun x => x = 0) (nx 57) (nx 59))))))))))))))
noncomputable def bX7_give_57 (Q : Option Value → MM → Prop) (X : String → MM → Prop) (nx : Nat → Kt) : Kt := cI (-1) (rI Q)
noncomputable def bX7_give_59 (Q : Option Value → MM → Prop) (X : String → MM → Prop) (nx : Nat → Kt) : Kt := ldA 0 (gR 7 1 (ldA 5 (gI 5 2 (aR 12 (stA 6 (ldA 6 (gR 0 1 (ldI 1 (aR 15 (stA 7 (ldA 7 (cV 0 3 wX3_isFull 0 0 2 13 (ifz (fun x => x = 0) (nx 90) (cI (-1) (rI Q)))))))))))))))
noncomputable def bX7_give_90 (Q : Option Value → MM → Prop) (X : String → MM → Prop) (nx : Nat → Kt) : Kt := ldA 7 (cV 0 3 wX3_addFrame 1 7 2 13 (stA 8 (ldA 8 (ldI 3 (tI 2 0 (ldA 8 (ldI 4 (tI 2 1 (ldA 8 (ldI 2 (tI 2 2 (ldA 8 (ldA 0 (gI 7 2 (ldA 6 (gI 0 2 (bop (fun x y => x + y) (tI 2 3 (ldA 8 (ldA 0 (gR 7 0 (ldI 1 (aR 13 (gI 1 8 (tI 2 4 (ldA 8 (ldA 0 (gR 7 0 (ldI 1 (aR 13 (du (gI 1 7 (dux1 (cI 1 (bop (fun x y => x + y) (tI 1 7 (tI 2 5 (ldA 8 (cI 0 (tZ 2 6 (ldA 5 (gR 5 1 (cI 16 (cV 1 6 wX6_has 0 0 2 13 (nx 182)))))))))))))))))))))))))))))))))))))))))))))
noncomputable def bX7_give_182 (Q : Option Value → MM → Prop) (X : String → MM → Prop) (nx : Nat → Kt) : Kt := ifz (fun x => x = 0) (ldA 0 (du (gI 7 7 (cI 1 (bop (fun x y => x + y) (tI 7 7 (nx 195))))))) (nx 195)
noncomputable def bX7_give_195 (Q : Option Value → MM → Prop) (X : String → MM → Prop) (nx : Nat → Kt) : Kt := ldA 5 (gR 5 0 (gI 6 3 (rI Q)))
noncomputable def kX7_give (Q : Option Value → MM → Prop) (X : String → MM → Prop) (nx : Nat → Kt) : Nat → Kt := bse [(0, bX7_give_0 Q X nx), (18, bX7_give_18 Q X nx), (28, bX7_give_28 Q X nx), (57, bX7_give_57 Q X nx), (59, bX7_give_59 Q X nx), (90, bX7_give_90 Q X nx), (182, bX7_give_182 Q X nx), (195, bX7_give_195 Q X nx)]
abbrev rX7_give : Room := { frames := 6, cells := 2, slots := 13, locals := 82 }
noncomputable def wX7_give : Mx := mx 9 kX7_give
set_option maxRecDepth 20000 in
theorem oX7_give_0 {T : Ct} {Q : Option Value → MM → Prop} {X : String → MM → Prop} (C : Cx T cX7_give 9 RX7 2 13) (CR : CxR T 6 82) (CX : CxX T) (hr : T.2.2.2.2.2.2.2.2.1.sig.returnType = (some .int)) (hnm : T.2.2.2.2.2.2.2.2.1.name = "give") {nx : Nat → Kt} (hn : ∀ pc, Sd T 9 (QX T Q X 2 13) 2 13 pc (nx pc)) : Sd T 9 (QX T Q X 2 13) 2 13 0 (bX7_give_0 Q X nx) := x_il_n C dX7_give_0 rfl (x_cS C CR mX7_isEnd ⟨co_X7_isEnd, init_X7, md_X7_isEnd, by decide, by decide⟩ ml_X7_25 sm_X7_isEnd dX7_give_1 (x_if_eq C (hn 18) dX7_give_4 (by decide) (x_il_n C dX7_give_7 rfl (x_if_lt C (hn 18) dX7_give_8 (by decide) (x_il_n C dX7_give_11 rfl (x_sp C dX7_give_12 (by decide) (x_ic_le C (hn 28) dX7_give_15 (by decide) (hn 18))))))))
set_option maxRecDepth 20000 in
theorem oX7_give_18 {T : Ct} {Q : Option Value → MM → Prop} {X : String → MM → Prop} (C : Cx T cX7_give 9 RX7 2 13) (CR : CxR T 6 82) (CX : CxX T) (hr : T.2.2.2.2.2.2.2.2.1.sig.returnType = (some .int)) (hnm : T.2.2.2.2.2.2.2.2.1.name = "give") {nx : Nat → Kt} (hn : ∀ pc, Sd T 9 (QX T Q X 2 13) 2 13 pc (nx pc)) : Sd T 9 (QX T Q X 2 13) 2 13 18 (bX7_give_18 Q X nx) := x_thr C CR CX (by decide) (by decide) (E := eI) (text := "no such end, or conversation is not 0 to 255") (by decide +kernel) cl_X7_30 init_eI (by decide) at_iae dX7_give_18 dX7_give_21 dX7_give_22 dX7_give_24 dX7_give_27
set_option maxRecDepth 20000 in
theorem oX7_give_28 {T : Ct} {Q : Option Value → MM → Prop} {X : String → MM → Prop} (C : Cx T cX7_give 9 RX7 2 13) (CR : CxR T 6 82) (CX : CxX T) (hr : T.2.2.2.2.2.2.2.2.1.sig.returnType = (some .int)) (hnm : T.2.2.2.2.2.2.2.2.1.name = "give") {nx : Nat → Kt} (hn : ∀ pc, Sd T 9 (QX T Q X 2 13) 2 13 pc (nx pc)) : Sd T 9 (QX T Q X 2 13) 2 13 28 (bX7_give_28 Q X nx) := x_al_n C dX7_give_28 rfl (gf_X7_11 C dX7_give_29 (x_il_n C dX7_give_32 rfl (x_aald C (kd := 13) (t0 := 3) (by decide) (by decide) (fun _ => rfl) dX7_give_33 (x_il_n C dX7_give_34 rfl (x_il_n C dX7_give_35 rfl (x_cV C CR mX1_giverOf ⟨co_X1_giverOf, init_X1, md_X1_giverOf, by decide, by decide⟩ (ci := 1) (TX := TX1) (N := 9) rfl (by decide) ml_X7_152 im_X1_giverOf se_X1_giverOf dX7_give_36 (x_as C dX7_give_39 (by decide) (x_al C dX7_give_41 (x_ifnull C (hn 57) dX7_give_43 (by decide) (x_al C dX7_give_46 (gf_X7_156 C dX7_give_48 (x_cS C CR mX7_isCable ⟨co_X7_isCable, init_X7, md_X7_isCable, by decide, by decide⟩ ml_X7_89 sm_X7_isCable dX7_give_51 (x_if_ne C (hn 59) dX7_give_54 (by decide) (hn 57))))))))))))))
set_option maxRecDepth 20000 in
theorem oX7_give_57 {T : Ct} {Q : Option Value → MM → Prop} {X : String → MM → Prop} (C : Cx T cX7_give 9 RX7 2 13) (CR : CxR T 6 82) (CX : CxX T) (hr : T.2.2.2.2.2.2.2.2.1.sig.returnType = (some .int)) (hnm : T.2.2.2.2.2.2.2.2.1.name = "give") {nx : Nat → Kt} (hn : ∀ pc, Sd T 9 (QX T Q X 2 13) 2 13 pc (nx pc)) : Sd T 9 (QX T Q X 2 13) 2 13 57 (bX7_give_57 Q X nx) := x_ic C dX7_give_57 (by decide) (x_up (x_rI C hr dX7_give_58))
set_option maxRecDepth 20000 in
theorem oX7_give_59 {T : Ct} {Q : Option Value → MM → Prop} {X : String → MM → Prop} (C : Cx T cX7_give 9 RX7 2 13) (CR : CxR T 6 82) (CX : CxX T) (hr : T.2.2.2.2.2.2.2.2.1.sig.returnType = (some .int)) (hnm : T.2.2.2.2.2.2.2.2.1.name = "give") {nx : Nat → Kt} (hn : ∀ pc, Sd T 9 (QX T Q X 2 13) 2 13 pc (nx pc)) : Sd T 9 (QX T Q X 2 13) 2 13 59 (bX7_give_59 Q X nx) := x_al_n C dX7_give_59 rfl (gf_X7_17 C dX7_give_60 (x_al C dX7_give_63 (gf_X7_156 C dX7_give_65 (x_aald C (kd := 12) (t0 := 2) (by decide) (by decide) (fun _ => rfl) dX7_give_68 (x_as C dX7_give_69 (by decide) (x_al C dX7_give_71 (gf_X7_133 C dX7_give_73 (x_il_n C dX7_give_76 rfl (x_aald C (kd := 15) (t0 := 5) (by decide) (by decide) (fun _ => rfl) dX7_give_77 (x_as C dX7_give_78 (by decide) (x_al C dX7_give_80 (x_cV C CR mX3_isFull ⟨co_X3_isFull, init_X3, md_X3_isFull, by decide, by decide⟩ (ci := 3) (TX := TX3) (N := 7) rfl (by decide) ml_X7_159 im_X3_isFull se_X3_isFull dX7_give_82 (x_if_eq C (hn 90) dX7_give_85 (by decide) (x_ic C dX7_give_88 (by decide) (x_up (x_rI C hr dX7_give_89))))))))))))))))
set_option maxRecDepth 20000 in
theorem oX7_give_90 {T : Ct} {Q : Option Value → MM → Prop} {X : String → MM → Prop} (C : Cx T cX7_give 9 RX7 2 13) (CR : CxR T 6 82) (CX : CxX T) (hr : T.2.2.2.2.2.2.2.2.1.sig.returnType = (some .int)) (hnm : T.2.2.2.2.2.2.2.2.1.name = "give") {nx : Nat → Kt} (hn : ∀ pc, Sd T 9 (QX T Q X 2 13) 2 13 pc (nx pc)) : Sd T 9 (QX T Q X 2 13) 2 13 90 (bX7_give_90 Q X nx) := x_al C dX7_give_90 (x_cV C CR mX3_addFrame ⟨co_X3_addFrame, init_X3, md_X3_addFrame, by decide, by decide⟩ (ci := 3) (TX := TX3) (N := 7) rfl (by decide) ml_X7_162 im_X3_addFrame se_X3_addFrame dX7_give_92 (x_as C dX7_give_95 (by decide) (x_al C dX7_give_97 (x_il_n C dX7_give_99 rfl (pf_X7_166 C dX7_give_100 (x_al C dX7_give_103 (x_il C dX7_give_105 (pf_X7_171 C dX7_give_107 (x_al C dX7_give_110 (x_il_n C dX7_give_112 rfl (pf_X7_174 C dX7_give_113 (x_al C dX7_give_116 (x_al_n C dX7_give_118 rfl (gf_X7_177 C dX7_give_119 (x_al C dX7_give_122 (gf_X7_108 C dX7_give_124 (x_iadd C dX7_give_127 (pf_X7_180 C dX7_give_128 (x_al C dX7_give_131 (x_al_n C dX7_give_133 rfl (gf_X7_11 C dX7_give_134 (x_il_n C dX7_give_137 rfl (x_aald C (kd := 13) (t0 := 3) (by decide) (by decide) (fun _ => rfl) dX7_give_138 (gf_X7_183 C dX7_give_139 (pf_X7_186 C dX7_give_142 (x_al C dX7_give_145 (x_al_n C dX7_give_147 rfl (gf_X7_11 C dX7_give_148 (x_il_n C dX7_give_151 rfl (x_aald C (kd := 13) (t0 := 3) (by decide) (by decide) (fun _ => rfl) dX7_give_152 (x_dup C dX7_give_153 (gf_X7_187 C dX7_give_154 (x_dupx1 C dX7_give_157 (x_ic C dX7_give_158 (by decide) (x_iadd C dX7_give_159 (pf_X7_187 C dX7_give_160 (pf_X7_190 C dX7_give_163 (x_al C dX7_give_166 (x_ic C dX7_give_168 (by decide) (pf_X7_193 C dX7_give_169 (x_al C dX7_give_172 (gf_X7_196 C dX7_give_174 (x_bp C dX7_give_177 (by decide) (x_cV C CR mX6_has ⟨co_X6_has, init_X6, md_X6_has, by decide, by decide⟩ (ci := 6) (TX := TX6) (N := 5) rfl (by decide) ml_X7_199 im_X6_has se_X6_has dX7_give_179 (hn 182)))))))))))))))))))))))))))))))))))))))))))))
set_option maxRecDepth 20000 in
theorem oX7_give_182 {T : Ct} {Q : Option Value → MM → Prop} {X : String → MM → Prop} (C : Cx T cX7_give 9 RX7 2 13) (CR : CxR T 6 82) (CX : CxX T) (hr : T.2.2.2.2.2.2.2.2.1.sig.returnType = (some .int)) (hnm : T.2.2.2.2.2.2.2.2.1.name = "give") {nx : Nat → Kt} (hn : ∀ pc, Sd T 9 (QX T Q X 2 13) 2 13 pc (nx pc)) : Sd T 9 (QX T Q X 2 13) 2 13 182 (bX7_give_182 Q X nx) := x_if_ne C (hn 195) dX7_give_182 (by decide) (x_al_n C dX7_give_185 rfl (x_dup C dX7_give_186 (gf_X7_202 C dX7_give_187 (x_ic C dX7_give_190 (by decide) (x_iadd C dX7_give_191 (pf_X7_202 C dX7_give_192 (hn 195)))))))
set_option maxRecDepth 20000 in
theorem oX7_give_195 {T : Ct} {Q : Option Value → MM → Prop} {X : String → MM → Prop} (C : Cx T cX7_give 9 RX7 2 13) (CR : CxR T 6 82) (CX : CxX T) (hr : T.2.2.2.2.2.2.2.2.1.sig.returnType = (some .int)) (hnm : T.2.2.2.2.2.2.2.2.1.name = "give") {nx : Nat → Kt} (hn : ∀ pc, Sd T 9 (QX T Q X 2 13) 2 13 pc (nx pc)) : Sd T 9 (QX T Q X 2 13) 2 13 195 (bX7_give_195 Q X nx) := x_al C dX7_give_195 (gf_X7_69 C dX7_give_197 (gf_X7_205 C dX7_give_200 (x_up (x_rI C hr dX7_give_203))))
set_option maxRecDepth 20000 in
theorem mX7_give (l : Launch) (hst : l.stackTraces = false) (D : va_G) (cA : Nat → ClassId) (base : Nat) : McX l D cA base yX7_give cX7_give 9 (some .int) rX7_give wX7_give := mcX_of hst (by decide +kernel) kX7_give (fun T Q X C CR CX hr hnm nx hn => bse_ok _ (List.forall_mem_cons.mpr ⟨oX7_give_0 C CR CX hr hnm hn, List.forall_mem_cons.mpr ⟨oX7_give_18 C CR CX hr hnm hn, List.forall_mem_cons.mpr ⟨oX7_give_28 C CR CX hr hnm hn, List.forall_mem_cons.mpr ⟨oX7_give_57 C CR CX hr hnm hn, List.forall_mem_cons.mpr ⟨oX7_give_59 C CR CX hr hnm hn, List.forall_mem_cons.mpr ⟨oX7_give_90 C CR CX hr hnm hn, List.forall_mem_cons.mpr ⟨oX7_give_182 C CR CX hr hnm hn, List.forall_mem_cons.mpr ⟨oX7_give_195 C CR CX hr hnm hn, fun _ h => nomatch h⟩⟩⟩⟩⟩⟩⟩⟩))
theorem dX7_came_0 : decode cX7_came 0 = .ok (.iload_n 1, 1) := by decide +kernel
theorem dX7_came_1 : decode cX7_came 1 = .ok (.invokestatic 25, 3) := by decide +kernel
theorem dX7_came_4 : decode cX7_came 4 = .ok (.ifCond .eq 20, 3) := by decide +kernel
theorem dX7_came_7 : decode cX7_came 7 = .ok (.iload_n 2, 1) := by decide +kernel
theorem dX7_came_8 : decode cX7_came 8 = .ok (.ifCond .lt 16, 3) := by decide +kernel
theorem dX7_came_11 : decode cX7_came 11 = .ok (.iload_n 2, 1) := by decide +kernel
theorem dX7_came_12 : decode cX7_came 12 = .ok (.aload_n 0, 1) := by decide +kernel
theorem dX7_came_13 : decode cX7_came 13 = .ok (.getfield 11, 3) := by decide +kernel
theorem dX7_came_16 : decode cX7_came 16 = .ok (.iload_n 1, 1) := by decide +kernel
theorem dX7_came_17 : decode cX7_came 17 = .ok (.aaload, 1) := by decide +kernel
theorem dX7_came_18 : decode cX7_came 18 = .ok (.getfield 208, 3) := by decide +kernel
theorem dX7_came_21 : decode cX7_came 21 = .ok (.if_icmp .lt 13, 3) := by decide +kernel
theorem dX7_came_24 : decode cX7_came 24 = .ok (.new 211, 3) := by decide +kernel
theorem dX7_came_27 : decode cX7_came 27 = .ok (.dup, 1) := by decide +kernel
theorem dX7_came_28 : decode cX7_came 28 = .ok (.ldc 213, 2) := by decide +kernel
theorem dX7_came_30 : decode cX7_came 30 = .ok (.invokespecial 215, 3) := by decide +kernel
theorem dX7_came_33 : decode cX7_came 33 = .ok (.athrow, 1) := by decide +kernel
theorem dX7_came_34 : decode cX7_came 34 = .ok (.iload_n 3, 1) := by decide +kernel
theorem dX7_came_35 : decode cX7_came 35 = .ok (.ifCond .lt 8, 3) := by decide +kernel
theorem dX7_came_38 : decode cX7_came 38 = .ok (.iload_n 3, 1) := by decide +kernel
theorem dX7_came_39 : decode cX7_came 39 = .ok (.iconst 4, 1) := by decide +kernel
theorem dX7_came_40 : decode cX7_came 40 = .ok (.if_icmp .lt 5, 3) := by decide +kernel
theorem dX7_came_43 : decode cX7_came 43 = .ok (.iconst (-1), 1) := by decide +kernel
theorem dX7_came_44 : decode cX7_came 44 = .ok (.ireturn, 1) := by decide +kernel
theorem dX7_came_45 : decode cX7_came 45 = .ok (.aload_n 0, 1) := by decide +kernel
theorem dX7_came_46 : decode cX7_came 46 = .ok (.getfield 11, 3) := by decide +kernel
theorem dX7_came_49 : decode cX7_came 49 = .ok (.iload_n 1, 1) := by decide +kernel
theorem dX7_came_50 : decode cX7_came 50 = .ok (.aaload, 1) := by decide +kernel
theorem dX7_came_51 : decode cX7_came 51 = .ok (.getfield 216, 3) := by decide +kernel
theorem dX7_came_54 : decode cX7_came 54 = .ok (.iconst 1, 1) := by decide +kernel
theorem dX7_came_55 : decode cX7_came 55 = .ok (.isub, 1) := by decide +kernel
theorem dX7_came_56 : decode cX7_came 56 = .ok (.iload_n 2, 1) := by decide +kernel
theorem dX7_came_57 : decode cX7_came 57 = .ok (.isub, 1) := by decide +kernel
theorem dX7_came_58 : decode cX7_came 58 = .ok (.bipush 50, 2) := by decide +kernel
theorem dX7_came_60 : decode cX7_came 60 = .ok (.invokestatic 219, 3) := by decide +kernel
theorem dX7_came_63 : decode cX7_came 63 = .ok (.istore 4, 2) := by decide +kernel
theorem dX7_came_65 : decode cX7_came 65 = .ok (.aload_n 0, 1) := by decide +kernel
theorem dX7_came_66 : decode cX7_came 66 = .ok (.getfield 11, 3) := by decide +kernel
theorem dX7_came_69 : decode cX7_came 69 = .ok (.iload_n 1, 1) := by decide +kernel
theorem dX7_came_70 : decode cX7_came 70 = .ok (.aaload, 1) := by decide +kernel
theorem dX7_came_71 : decode cX7_came 71 = .ok (.getfield 225, 3) := by decide +kernel
theorem dX7_came_74 : decode cX7_came 74 = .ok (.iload 4, 2) := by decide +kernel
theorem dX7_came_76 : decode cX7_came 76 = .ok (.iconst 4, 1) := by decide +kernel
theorem dX7_came_77 : decode cX7_came 77 = .ok (.imul, 1) := by decide +kernel
theorem dX7_came_78 : decode cX7_came 78 = .ok (.iload_n 3, 1) := by decide +kernel
theorem dX7_came_79 : decode cX7_came 79 = .ok (.iadd, 1) := by decide +kernel
theorem dX7_came_80 : decode cX7_came 80 = .ok (.iaload, 1) := by decide +kernel
theorem dX7_came_81 : decode cX7_came 81 = .ok (.ireturn, 1) := by decide +kernel
noncomputable def bX7_came_0 (Q : Option Value → MM → Prop) (X : String → MM → Prop) (nx : Nat → Kt) : Kt := ldI 1 (cS 1 wX7_isEnd 0 0 1 6 (ifz (fun x => x = 0) (nx 24) (ldI 2 (ifz (fun x => x < 0) (nx 24) (ldI 2 (ldA 0 (gR 7 0 (ldI 1 (aR 13 (gI 1 5 (ifc (fun x y => x < y) (nx 34) (nx 24))))))))))))
noncomputable def bX7_came_24 (Q : Option Value → MM → Prop) (X : String → MM → Prop) (nx : Nat → Kt) : Kt := thr nseC X 1 6
noncomputable def bX7_came_34 (Q : Option Value → MM → Prop) (X : String → MM → Prop) (nx : Nat → Kt) : Kt := ldI 3 (ifz (fun x => x < 0) (nx 43) (ldI 3 (cI 4 (ifc (fun x y => x < y) (nx 45) (nx 43)))))
noncomputable def bX7_came_43 (Q : Option Value → MM → Prop) (X : String → MM → Prop) (nx : Nat → Kt) : Kt := cI (-1) (rI Q)
noncomputable def bX7_came_45 (Q : Option Value → MM → Prop) (X : String → MM → Prop) (nx : Nat → Kt) : Kt := ldA 0 (gR 7 0 (ldI 1 (aR 13 (gI 1 6 (cI 1 (bop (fun x y => x - y) (ldI 2 (bop (fun x y => x - y) (cI 50 (cS 2 wM_floorMod 0 0 1 6 (stI 4 (ldA 0 (gR 7 0 (ldI 1 (aR 13 (gR 1 4 (ldI 4 (cI 4 (bop (fun x y => x * y) (ldI 3 (bop (fun x y => x + y) (aI 10 (rI Q)))))))))))))))))))))))
noncomputable def kX7_came (Q : Option Value → MM → Prop) (X : String → MM → Prop) (nx : Nat → Kt) : Nat → Kt := bse [(0, bX7_came_0 Q X nx), (24, bX7_came_24 Q X nx), (34, bX7_came_34 Q X nx), (43, bX7_came_43 Q X nx), (45, bX7_came_45 Q X nx)]
abbrev rX7_came : Room := { frames := 6, cells := 1, slots := 6, locals := 82 }
noncomputable def wX7_came : Mx := mx 5 kX7_came
set_option maxRecDepth 20000 in
theorem oX7_came_0 {T : Ct} {Q : Option Value → MM → Prop} {X : String → MM → Prop} (C : Cx T cX7_came 5 RX7 1 6) (CR : CxR T 6 82) (CX : CxX T) (hr : T.2.2.2.2.2.2.2.2.1.sig.returnType = (some .int)) (hnm : T.2.2.2.2.2.2.2.2.1.name = "came") {nx : Nat → Kt} (hn : ∀ pc, Sd T 5 (QX T Q X 1 6) 1 6 pc (nx pc)) : Sd T 5 (QX T Q X 1 6) 1 6 0 (bX7_came_0 Q X nx) := x_il_n C dX7_came_0 rfl (x_cS C CR mX7_isEnd ⟨co_X7_isEnd, init_X7, md_X7_isEnd, by decide, by decide⟩ ml_X7_25 sm_X7_isEnd dX7_came_1 (x_if_eq C (hn 24) dX7_came_4 (by decide) (x_il_n C dX7_came_7 rfl (x_if_lt C (hn 24) dX7_came_8 (by decide) (x_il_n C dX7_came_11 rfl (x_al_n C dX7_came_12 rfl (gf_X7_11 C dX7_came_13 (x_il_n C dX7_came_16 rfl (x_aald C (kd := 13) (t0 := 3) (by decide) (by decide) (fun _ => rfl) dX7_came_17 (gf_X7_208 C dX7_came_18 (x_ic_lt C (hn 34) dX7_came_21 (by decide) (hn 24))))))))))))
set_option maxRecDepth 20000 in
theorem oX7_came_24 {T : Ct} {Q : Option Value → MM → Prop} {X : String → MM → Prop} (C : Cx T cX7_came 5 RX7 1 6) (CR : CxR T 6 82) (CX : CxX T) (hr : T.2.2.2.2.2.2.2.2.1.sig.returnType = (some .int)) (hnm : T.2.2.2.2.2.2.2.2.1.name = "came") {nx : Nat → Kt} (hn : ∀ pc, Sd T 5 (QX T Q X 1 6) 1 6 pc (nx pc)) : Sd T 5 (QX T Q X 1 6) 1 6 24 (bX7_came_24 Q X nx) := x_thrN C CR CX (by decide) (by decide) (text := "no such end or frame") cl_X7_211 init_nseC (by decide) dX7_came_24 dX7_came_27 dX7_came_28 dX7_came_30 dX7_came_33
set_option maxRecDepth 20000 in
theorem oX7_came_34 {T : Ct} {Q : Option Value → MM → Prop} {X : String → MM → Prop} (C : Cx T cX7_came 5 RX7 1 6) (CR : CxR T 6 82) (CX : CxX T) (hr : T.2.2.2.2.2.2.2.2.1.sig.returnType = (some .int)) (hnm : T.2.2.2.2.2.2.2.2.1.name = "came") {nx : Nat → Kt} (hn : ∀ pc, Sd T 5 (QX T Q X 1 6) 1 6 pc (nx pc)) : Sd T 5 (QX T Q X 1 6) 1 6 34 (bX7_came_34 Q X nx) := x_il_n C dX7_came_34 rfl (x_if_lt C (hn 43) dX7_came_35 (by decide) (x_il_n C dX7_came_38 rfl (x_ic C dX7_came_39 (by decide) (x_ic_lt C (hn 45) dX7_came_40 (by decide) (hn 43)))))
set_option maxRecDepth 20000 in
theorem oX7_came_43 {T : Ct} {Q : Option Value → MM → Prop} {X : String → MM → Prop} (C : Cx T cX7_came 5 RX7 1 6) (CR : CxR T 6 82) (CX : CxX T) (hr : T.2.2.2.2.2.2.2.2.1.sig.returnType = (some .int)) (hnm : T.2.2.2.2.2.2.2.2.1.name = "came") {nx : Nat → Kt} (hn : ∀ pc, Sd T 5 (QX T Q X 1 6) 1 6 pc (nx pc)) : Sd T 5 (QX T Q X 1 6) 1 6 43 (bX7_came_43 Q X nx) := x_ic C dX7_came_43 (by decide) (x_up (x_rI C hr dX7_came_44))
set_option maxRecDepth 20000 in
theorem oX7_came_45 {T : Ct} {Q : Option Value → MM → Prop} {X : String → MM → Prop} (C : Cx T cX7_came 5 RX7 1 6) (CR : CxR T 6 82) (CX : CxX T) (hr : T.2.2.2.2.2.2.2.2.1.sig.returnType = (some .int)) (hnm : T.2.2.2.2.2.2.2.2.1.name = "came") {nx : Nat → Kt} (hn : ∀ pc, Sd T 5 (QX T Q X 1 6) 1 6 pc (nx pc)) : Sd T 5 (QX T Q X 1 6) 1 6 45 (bX7_came_45 Q X nx) := x_al_n C dX7_came_45 rfl (gf_X7_11 C dX7_came_46 (x_il_n C dX7_came_49 rfl (x_aald C (kd := 13) (t0 := 3) (by decide) (by decide) (fun _ => rfl) dX7_came_50 (gf_X7_216 C dX7_came_51 (x_ic C dX7_came_54 (by decide) (x_isub C dX7_came_55 (x_il_n C dX7_came_56 rfl (x_isub C dX7_came_57 (x_bp C dX7_came_58 (by decide) (x_cS C CR mM_floorMod ⟨co_M_floorMod, init_M, md_M_floorMod, by decide, by decide⟩ ml_X7_219 sm_M_floorMod dX7_came_60 (x_is C dX7_came_63 (by decide) (x_al_n C dX7_came_65 rfl (gf_X7_11 C dX7_came_66 (x_il_n C dX7_came_69 rfl (x_aald C (kd := 13) (t0 := 3) (by decide) (by decide) (fun _ => rfl) dX7_came_70 (gf_X7_225 C dX7_came_71 (x_il C dX7_came_74 (x_ic C dX7_came_76 (by decide) (x_imul C dX7_came_77 (x_il_n C dX7_came_78 rfl (x_iadd C dX7_came_79 (x_iald C dX7_came_80 (x_up (x_rI C hr dX7_came_81))))))))))))))))))))))))
set_option maxRecDepth 20000 in
theorem mX7_came (l : Launch) (hst : l.stackTraces = false) (D : va_G) (cA : Nat → ClassId) (base : Nat) : McX l D cA base yX7_came cX7_came 5 (some .int) rX7_came wX7_came := mcX_of hst (by decide +kernel) kX7_came (fun T Q X C CR CX hr hnm nx hn => bse_ok _ (List.forall_mem_cons.mpr ⟨oX7_came_0 C CR CX hr hnm hn, List.forall_mem_cons.mpr ⟨oX7_came_24 C CR CX hr hnm hn, List.forall_mem_cons.mpr ⟨oX7_came_34 C CR CX hr hnm hn, List.forall_mem_cons.mpr ⟨oX7_came_43 C CR CX hr hnm hn, List.forall_mem_cons.mpr ⟨oX7_came_45 C CR CX hr hnm hn, fun _ h => nomatch h⟩⟩⟩⟩⟩))
theorem dX7_look_0 : decode cX7_look 0 = .ok (.iload_n 1, 1) := by decide +kernel
theorem dX7_look_1 : decode cX7_look 1 = .ok (.invokestatic 25, 3) := by decide +kernel
theorem dX7_look_4 : decode cX7_look 4 = .ok (.ifCond .eq 10, 3) := by decide +kernel
theorem dX7_look_7 : decode cX7_look 7 = .ok (.iload_n 2, 1) := by decide +kernel
theorem dX7_look_8 : decode cX7_look 8 = .ok (.invokestatic 57, 3) := by decide +kernel
theorem dX7_look_11 : decode cX7_look 11 = .ok (.ifCond .ne 13, 3) := by decide +kernel
theorem dX7_look_14 : decode cX7_look 14 = .ok (.new 211, 3) := by decide +kernel
theorem dX7_look_17 : decode cX7_look 17 = .ok (.dup, 1) := by decide +kernel
theorem dX7_look_18 : decode cX7_look 18 = .ok (.ldc 87, 2) := by decide +kernel
theorem dX7_look_20 : decode cX7_look 20 = .ok (.invokespecial 215, 3) := by decide +kernel
theorem dX7_look_23 : decode cX7_look 23 = .ok (.athrow, 1) := by decide +kernel
theorem dX7_look_24 : decode cX7_look 24 = .ok (.aload_n 0, 1) := by decide +kernel
theorem dX7_look_25 : decode cX7_look 25 = .ok (.getfield 11, 3) := by decide +kernel
theorem dX7_look_28 : decode cX7_look 28 = .ok (.iload_n 1, 1) := by decide +kernel
theorem dX7_look_29 : decode cX7_look 29 = .ok (.aaload, 1) := by decide +kernel
theorem dX7_look_30 : decode cX7_look 30 = .ok (.getfield 65, 3) := by decide +kernel
theorem dX7_look_33 : decode cX7_look 33 = .ok (.iload_n 2, 1) := by decide +kernel
theorem dX7_look_34 : decode cX7_look 34 = .ok (.aaload, 1) := by decide +kernel
theorem dX7_look_35 : decode cX7_look 35 = .ok (.astore 4, 2) := by decide +kernel
theorem dX7_look_37 : decode cX7_look 37 = .ok (.iload_n 3, 1) := by decide +kernel
theorem dX7_look_38 : decode cX7_look 38 = .ok (.tableswitch 226 0 15 #[78, 87, 96, 105, 111, 117, 123, 141, 163, 169, 178, 187, 196, 205, 214, 220], 78) := by decide +kernel
theorem dX7_look_116 : decode cX7_look 116 = .ok (.aload 4, 2) := by decide +kernel
theorem dX7_look_118 : decode cX7_look 118 = .ok (.getfield 69, 3) := by decide +kernel
theorem dX7_look_121 : decode cX7_look 121 = .ok (.getfield 75, 3) := by decide +kernel
theorem dX7_look_124 : decode cX7_look 124 = .ok (.ireturn, 1) := by decide +kernel
theorem dX7_look_125 : decode cX7_look 125 = .ok (.aload 4, 2) := by decide +kernel
theorem dX7_look_127 : decode cX7_look 127 = .ok (.getfield 69, 3) := by decide +kernel
theorem dX7_look_130 : decode cX7_look 130 = .ok (.getfield 80, 3) := by decide +kernel
theorem dX7_look_133 : decode cX7_look 133 = .ok (.ireturn, 1) := by decide +kernel
theorem dX7_look_134 : decode cX7_look 134 = .ok (.aload 4, 2) := by decide +kernel
theorem dX7_look_136 : decode cX7_look 136 = .ok (.getfield 69, 3) := by decide +kernel
theorem dX7_look_139 : decode cX7_look 139 = .ok (.getfield 229, 3) := by decide +kernel
theorem dX7_look_142 : decode cX7_look 142 = .ok (.ireturn, 1) := by decide +kernel
theorem dX7_look_143 : decode cX7_look 143 = .ok (.aload 4, 2) := by decide +kernel
theorem dX7_look_145 : decode cX7_look 145 = .ok (.getfield 232, 3) := by decide +kernel
theorem dX7_look_148 : decode cX7_look 148 = .ok (.ireturn, 1) := by decide +kernel
theorem dX7_look_149 : decode cX7_look 149 = .ok (.aload 4, 2) := by decide +kernel
theorem dX7_look_151 : decode cX7_look 151 = .ok (.getfield 235, 3) := by decide +kernel
theorem dX7_look_154 : decode cX7_look 154 = .ok (.ireturn, 1) := by decide +kernel
theorem dX7_look_155 : decode cX7_look 155 = .ok (.aload 4, 2) := by decide +kernel
theorem dX7_look_157 : decode cX7_look 157 = .ok (.getfield 238, 3) := by decide +kernel
theorem dX7_look_160 : decode cX7_look 160 = .ok (.ireturn, 1) := by decide +kernel
theorem dX7_look_161 : decode cX7_look 161 = .ok (.aload 4, 2) := by decide +kernel
theorem dX7_look_163 : decode cX7_look 163 = .ok (.invokevirtual 241, 3) := by decide +kernel
theorem dX7_look_166 : decode cX7_look 166 = .ok (.ifCond .eq 11, 3) := by decide +kernel
theorem dX7_look_169 : decode cX7_look 169 = .ok (.aload 4, 2) := by decide +kernel
theorem dX7_look_171 : decode cX7_look 171 = .ok (.getfield 244, 3) := by decide +kernel
theorem dX7_look_174 : decode cX7_look 174 = .ok (.goto 4, 3) := by decide +kernel
theorem dX7_look_177 : decode cX7_look 177 = .ok (.iconst (-1), 1) := by decide +kernel
theorem dX7_look_178 : decode cX7_look 178 = .ok (.ireturn, 1) := by decide +kernel
theorem dX7_look_179 : decode cX7_look 179 = .ok (.aload 4, 2) := by decide +kernel
theorem dX7_look_181 : decode cX7_look 181 = .ok (.invokevirtual 241, 3) := by decide +kernel
theorem dX7_look_184 : decode cX7_look 184 = .ok (.ifCond .eq 15, 3) := by decide +kernel
theorem dX7_look_187 : decode cX7_look 187 = .ok (.aload 4, 2) := by decide +kernel
theorem dX7_look_189 : decode cX7_look 189 = .ok (.getfield 245, 3) := by decide +kernel
theorem dX7_look_192 : decode cX7_look 192 = .ok (.ifCond .eq 7, 3) := by decide +kernel
theorem dX7_look_195 : decode cX7_look 195 = .ok (.iconst 1, 1) := by decide +kernel
theorem dX7_look_196 : decode cX7_look 196 = .ok (.goto 4, 3) := by decide +kernel
theorem dX7_look_199 : decode cX7_look 199 = .ok (.iconst 0, 1) := by decide +kernel
theorem dX7_look_200 : decode cX7_look 200 = .ok (.ireturn, 1) := by decide +kernel
theorem dX7_look_201 : decode cX7_look 201 = .ok (.aload 4, 2) := by decide +kernel
theorem dX7_look_203 : decode cX7_look 203 = .ok (.getfield 156, 3) := by decide +kernel
theorem dX7_look_206 : decode cX7_look 206 = .ok (.ireturn, 1) := by decide +kernel
theorem dX7_look_207 : decode cX7_look 207 = .ok (.aload 4, 2) := by decide +kernel
theorem dX7_look_209 : decode cX7_look 209 = .ok (.getfield 196, 3) := by decide +kernel
theorem dX7_look_212 : decode cX7_look 212 = .ok (.getfield 248, 3) := by decide +kernel
theorem dX7_look_215 : decode cX7_look 215 = .ok (.ireturn, 1) := by decide +kernel
theorem dX7_look_216 : decode cX7_look 216 = .ok (.aload 4, 2) := by decide +kernel
theorem dX7_look_218 : decode cX7_look 218 = .ok (.getfield 196, 3) := by decide +kernel
theorem dX7_look_221 : decode cX7_look 221 = .ok (.getfield 75, 3) := by decide +kernel
theorem dX7_look_224 : decode cX7_look 224 = .ok (.ireturn, 1) := by decide +kernel
theorem dX7_look_225 : decode cX7_look 225 = .ok (.aload 4, 2) := by decide +kernel
theorem dX7_look_227 : decode cX7_look 227 = .ok (.getfield 196, 3) := by decide +kernel
theorem dX7_look_230 : decode cX7_look 230 = .ok (.getfield 80, 3) := by decide +kernel
theorem dX7_look_233 : decode cX7_look 233 = .ok (.ireturn, 1) := by decide +kernel
theorem dX7_look_234 : decode cX7_look 234 = .ok (.aload 4, 2) := by decide +kernel
theorem dX7_look_236 : decode cX7_look 236 = .ok (.getfield 196, 3) := by decide +kernel
theorem dX7_look_239 : decode cX7_look 239 = .ok (.getfield 205, 3) := by decide +kernel
theorem dX7_look_242 : decode cX7_look 242 = .ok (.ireturn, 1) := by decide +kernel
theorem dX7_look_243 : decode cX7_look 243 = .ok (.aload 4, 2) := by decide +kernel
theorem dX7_look_245 : decode cX7_look 245 = .ok (.getfield 196, 3) := by decide +kernel
theorem dX7_look_248 : decode cX7_look 248 = .ok (.getfield 229, 3) := by decide +kernel
theorem dX7_look_251 : decode cX7_look 251 = .ok (.ireturn, 1) := by decide +kernel
theorem dX7_look_252 : decode cX7_look 252 = .ok (.aload 4, 2) := by decide +kernel
theorem dX7_look_254 : decode cX7_look 254 = .ok (.getfield 249, 3) := by decide +kernel
theorem dX7_look_257 : decode cX7_look 257 = .ok (.ireturn, 1) := by decide +kernel
theorem dX7_look_258 : decode cX7_look 258 = .ok (.aload 4, 2) := by decide +kernel
theorem dX7_look_260 : decode cX7_look 260 = .ok (.getfield 252, 3) := by decide +kernel
theorem dX7_look_263 : decode cX7_look 263 = .ok (.ireturn, 1) := by decide +kernel
theorem dX7_look_264 : decode cX7_look 264 = .ok (.iconst (-1), 1) := by decide +kernel
theorem dX7_look_265 : decode cX7_look 265 = .ok (.ireturn, 1) := by decide +kernel
noncomputable def bX7_look_0 (Q : Option Value → MM → Prop) (X : String → MM → Prop) (nx : Nat → Kt) : Kt := ldI 1 (cS 1 wX7_isEnd 0 0 1 6 (ifz (fun x => x = 0) (nx 14) (ldI 2 (cS 1 wX7_isPort 0 0 1 6 (ifz (fun x => x = 0) (nx 14) (nx 24))))))
noncomputable def bX7_look_14 (Q : Option Value → MM → Prop) (X : String → MM → Prop) (nx : Nat → Kt) : Kt := thr nseC X 1 6
noncomputable def bX7_look_24 (Q : Option Value → MM → Prop) (X : String → MM → Prop) (nx : Nat → Kt) : Kt := ldA 0 (gR 7 0 (ldI 1 (aR 13 (gR 1 0 (ldI 2 (aR 17 (stA 4 (ldI 3 (swt 0 15 (fun j => nx (([116, 125, 134, 143, 149, 155, 161, 179, 201, 207, 216, 225, 234, 243, 252, 258] : List Nat).getD j 0)) (nx 264))))))))))
noncomputable def bX7_look_116 (Q : Option Value → MM → Prop) (X : String → MM → Prop) (nx : Nat → Kt) : Kt := ldA 4 (gR 5 0 (gI 6 1 (rI Q)))
noncomputable def bX7_look_125 (Q : Option Value → MM → Prop) (X : String → MM → Prop) (nx : Nat → Kt) : Kt := ldA 4 (gR 5 0 (gI 6 2 (rI Q)))
noncomputable def bX7_look_134 (Q : Option Value → MM → Prop) (X : String → MM → Prop) (nx : Nat → Kt) : Kt := ldA 4 (gR 5 0 (gI 6 4 (rI Q)))
noncomputable def bX7_look_143 (Q : Option Value → MM → Prop) (X : String → MM → Prop) (nx : Nat → Kt) : Kt := ldA 4 (gI 5 3 (rI Q))
noncomputable def bX7_look_149 (Q : Option Value → MM → Prop) (X : String → MM → Prop) (nx : Nat → Kt) : Kt := ldA 4 (gI 5 4 (rI Q))
noncomputable def bX7_look_155 (Q : Option Value → MM → Prop) (X : String → MM → Prop) (nx : Nat → Kt) : Kt := ldA 4 (gI 5 5 (rI Q))
noncomputable def bX7_look_161 (Q : Option Value → MM → Prop) (X : String → MM → Prop) (nx : Nat → Kt) : Kt := ldA 4 (cV 0 5 wX5_isLit 0 0 1 6 (ifz (fun x => x = 0) (nx 177) (ldA 4 (gI 5 10 (nx 178)))))
noncomputable def bX7_look_177 (Q : Option Value → MM → Prop) (X : String → MM → Prop) (nx : Nat → Kt) : Kt := cI (-1) (nx 178)
noncomputable def bX7_look_178 (Q : Option Value → MM → Prop) (X : String → MM → Prop) (nx : Nat → Kt) : Kt := rI Q
noncomputable def bX7_look_179 (Q : Option Value → MM → Prop) (X : String → MM → Prop) (nx : Nat → Kt) : Kt := ldA 4 (cV 0 5 wX5_isLit 0 0 1 6 (ifz (fun x => x = 0) (nx 199) (ldA 4 (gI 5 11 (ifz (fun x => x = 0) (nx 199) (cI 1 (nx 200)))))))
noncomputable def bX7_look_199 (Q : Option Value → MM → Prop) (X : String → MM → Prop) (nx : Nat → Kt) : Kt := cI 0 (nx 200)
noncomputable def bX7_look_200 (Q : Option Value → MM → Prop) (X : String → MM → Prop) (nx : Nat → Kt) : Kt := rI Q
noncomputable def bX7_look_201 (Q : Option Value → MM → Prop) (X : String → MM → Prop) (nx : Nat → Kt) : Kt := ldA 4 (gI 5 2 (rI Q))
noncomputable def bX7_look_207 (Q : Option Value → MM → Prop) (X : String → MM → Prop) (nx : Nat → Kt) : Kt := ldA 4 (gR 5 1 (gI 6 0 (rI Q)))
noncomputable def bX7_look_216 (Q : Option Value → MM → Prop) (X : String → MM → Prop) (nx : Nat → Kt) : Kt := ldA 4 (gR 5 1 (gI 6 1 (rI Q)))
noncomputable def bX7_look_225 (Q : Option Value → MM → Prop) (X : String → MM → Prop) (nx : Nat → Kt) : Kt := ldA 4 (gR 5 1 (gI 6 2 (rI Q)))
noncomputable def bX7_look_234 (Q : Option Value → MM → Prop) (X : String → MM → Prop) (nx : Nat → Kt) : Kt := ldA 4 (gR 5 1 (gI 6 3 (rI Q)))
noncomputable def bX7_look_243 (Q : Option Value → MM → Prop) (X : String → MM → Prop) (nx : Nat → Kt) : Kt := ldA 4 (gR 5 1 (gI 6 4 (rI Q)))
noncomputable def bX7_look_252 (Q : Option Value → MM → Prop) (X : String → MM → Prop) (nx : Nat → Kt) : Kt := ldA 4 (gI 5 16 (rI Q))
noncomputable def bX7_look_258 (Q : Option Value → MM → Prop) (X : String → MM → Prop) (nx : Nat → Kt) : Kt := ldA 4 (gI 5 17 (rI Q))
noncomputable def bX7_look_264 (Q : Option Value → MM → Prop) (X : String → MM → Prop) (nx : Nat → Kt) : Kt := cI (-1) (rI Q)
noncomputable def kX7_look (Q : Option Value → MM → Prop) (X : String → MM → Prop) (nx : Nat → Kt) : Nat → Kt := bse [(0, bX7_look_0 Q X nx), (14, bX7_look_14 Q X nx), (24, bX7_look_24 Q X nx), (116, bX7_look_116 Q X nx), (125, bX7_look_125 Q X nx), (134, bX7_look_134 Q X nx), (143, bX7_look_143 Q X nx), (149, bX7_look_149 Q X nx), (155, bX7_look_155 Q X nx), (161, bX7_look_161 Q X nx), (177, bX7_look_177 Q X nx), (178, bX7_look_178 Q X nx), (179, bX7_look_179 Q X nx), (199, bX7_look_199 Q X nx), (200, bX7_look_200 Q X nx), (201, bX7_look_201 Q X nx), (207, bX7_look_207 Q X nx), (216, bX7_look_216 Q X nx), (225, bX7_look_225 Q X nx), (234, bX7_look_234 Q X nx), (243, bX7_look_243 Q X nx), (252, bX7_look_252 Q X nx), (258, bX7_look_258 Q X nx), (264, bX7_look_264 Q X nx)]
abbrev rX7_look : Room := { frames := 6, cells := 1, slots := 6, locals := 82 }
noncomputable def wX7_look : Mx := mx 5 kX7_look
set_option maxRecDepth 20000 in
theorem oX7_look_0 {T : Ct} {Q : Option Value → MM → Prop} {X : String → MM → Prop} (C : Cx T cX7_look 5 RX7 1 6) (CR : CxR T 6 82) (CX : CxX T) (hr : T.2.2.2.2.2.2.2.2.1.sig.returnType = (some .int)) (hnm : T.2.2.2.2.2.2.2.2.1.name = "look") {nx : Nat → Kt} (hn : ∀ pc, Sd T 5 (QX T Q X 1 6) 1 6 pc (nx pc)) : Sd T 5 (QX T Q X 1 6) 1 6 0 (bX7_look_0 Q X nx) := x_il_n C dX7_look_0 rfl (x_cS C CR mX7_isEnd ⟨co_X7_isEnd, init_X7, md_X7_isEnd, by decide, by decide⟩ ml_X7_25 sm_X7_isEnd dX7_look_1 (x_if_eq C (hn 14) dX7_look_4 (by decide) (x_il_n C dX7_look_7 rfl (x_cS C CR mX7_isPort ⟨co_X7_isPort, init_X7, md_X7_isPort, by decide, by decide⟩ ml_X7_57 sm_X7_isPort dX7_look_8 (x_if_ne C (hn 24) dX7_look_11 (by decide) (hn 14))))))
set_option maxRecDepth 20000 in
theorem oX7_look_14 {T : Ct} {Q : Option Value → MM → Prop} {X : String → MM → Prop} (C : Cx T cX7_look 5 RX7 1 6) (CR : CxR T 6 82) (CX : CxX T) (hr : T.2.2.2.2.2.2.2.2.1.sig.returnType = (some .int)) (hnm : T.2.2.2.2.2.2.2.2.1.name = "look") {nx : Nat → Kt} (hn : ∀ pc, Sd T 5 (QX T Q X 1 6) 1 6 pc (nx pc)) : Sd T 5 (QX T Q X 1 6) 1 6 14 (bX7_look_14 Q X nx) := x_thrN C CR CX (by decide) (by decide) (text := "no such end or port") cl_X7_211 init_nseC (by decide) dX7_look_14 dX7_look_17 dX7_look_18 dX7_look_20 dX7_look_23
set_option maxRecDepth 20000 in
theorem oX7_look_24 {T : Ct} {Q : Option Value → MM → Prop} {X : String → MM → Prop} (C : Cx T cX7_look 5 RX7 1 6) (CR : CxR T 6 82) (CX : CxX T) (hr : T.2.2.2.2.2.2.2.2.1.sig.returnType = (some .int)) (hnm : T.2.2.2.2.2.2.2.2.1.name = "look") {nx : Nat → Kt} (hn : ∀ pc, Sd T 5 (QX T Q X 1 6) 1 6 pc (nx pc)) : Sd T 5 (QX T Q X 1 6) 1 6 24 (bX7_look_24 Q X nx) := x_al_n C dX7_look_24 rfl (gf_X7_11 C dX7_look_25 (x_il_n C dX7_look_28 rfl (x_aald C (kd := 13) (t0 := 3) (by decide) (by decide) (fun _ => rfl) dX7_look_29 (gf_X7_65 C dX7_look_30 (x_il_n C dX7_look_33 rfl (x_aald C (kd := 17) (t0 := 7) (by decide) (by decide) (fun _ => rfl) dX7_look_34 (x_as C dX7_look_35 (by decide) (x_il_n C dX7_look_37 rfl (x_sw C (tl := [116, 125, 134, 143, 149, 155, 161, 179, 201, 207, 216, 225, 234, 243, 252, 258]) hn dX7_look_38 (by decide) (by decide) (by decide))))))))))
set_option maxRecDepth 20000 in
theorem oX7_look_116 {T : Ct} {Q : Option Value → MM → Prop} {X : String → MM → Prop} (C : Cx T cX7_look 5 RX7 1 6) (CR : CxR T 6 82) (CX : CxX T) (hr : T.2.2.2.2.2.2.2.2.1.sig.returnType = (some .int)) (hnm : T.2.2.2.2.2.2.2.2.1.name = "look") {nx : Nat → Kt} (hn : ∀ pc, Sd T 5 (QX T Q X 1 6) 1 6 pc (nx pc)) : Sd T 5 (QX T Q X 1 6) 1 6 116 (bX7_look_116 Q X nx) := x_al C dX7_look_116 (gf_X7_69 C dX7_look_118 (gf_X7_75 C dX7_look_121 (x_up (x_rI C hr dX7_look_124))))
set_option maxRecDepth 20000 in
theorem oX7_look_125 {T : Ct} {Q : Option Value → MM → Prop} {X : String → MM → Prop} (C : Cx T cX7_look 5 RX7 1 6) (CR : CxR T 6 82) (CX : CxX T) (hr : T.2.2.2.2.2.2.2.2.1.sig.returnType = (some .int)) (hnm : T.2.2.2.2.2.2.2.2.1.name = "look") {nx : Nat → Kt} (hn : ∀ pc, Sd T 5 (QX T Q X 1 6) 1 6 pc (nx pc)) : Sd T 5 (QX T Q X 1 6) 1 6 125 (bX7_look_125 Q X nx) := x_al C dX7_look_125 (gf_X7_69 C dX7_look_127 (gf_X7_80 C dX7_look_130 (x_up (x_rI C hr dX7_look_133))))
set_option maxRecDepth 20000 in
theorem oX7_look_134 {T : Ct} {Q : Option Value → MM → Prop} {X : String → MM → Prop} (C : Cx T cX7_look 5 RX7 1 6) (CR : CxR T 6 82) (CX : CxX T) (hr : T.2.2.2.2.2.2.2.2.1.sig.returnType = (some .int)) (hnm : T.2.2.2.2.2.2.2.2.1.name = "look") {nx : Nat → Kt} (hn : ∀ pc, Sd T 5 (QX T Q X 1 6) 1 6 pc (nx pc)) : Sd T 5 (QX T Q X 1 6) 1 6 134 (bX7_look_134 Q X nx) := x_al C dX7_look_134 (gf_X7_69 C dX7_look_136 (gf_X7_229 C dX7_look_139 (x_up (x_rI C hr dX7_look_142))))
set_option maxRecDepth 20000 in
theorem oX7_look_143 {T : Ct} {Q : Option Value → MM → Prop} {X : String → MM → Prop} (C : Cx T cX7_look 5 RX7 1 6) (CR : CxR T 6 82) (CX : CxX T) (hr : T.2.2.2.2.2.2.2.2.1.sig.returnType = (some .int)) (hnm : T.2.2.2.2.2.2.2.2.1.name = "look") {nx : Nat → Kt} (hn : ∀ pc, Sd T 5 (QX T Q X 1 6) 1 6 pc (nx pc)) : Sd T 5 (QX T Q X 1 6) 1 6 143 (bX7_look_143 Q X nx) := x_al C dX7_look_143 (gf_X7_232 C dX7_look_145 (x_up (x_rI C hr dX7_look_148)))
set_option maxRecDepth 20000 in
theorem oX7_look_149 {T : Ct} {Q : Option Value → MM → Prop} {X : String → MM → Prop} (C : Cx T cX7_look 5 RX7 1 6) (CR : CxR T 6 82) (CX : CxX T) (hr : T.2.2.2.2.2.2.2.2.1.sig.returnType = (some .int)) (hnm : T.2.2.2.2.2.2.2.2.1.name = "look") {nx : Nat → Kt} (hn : ∀ pc, Sd T 5 (QX T Q X 1 6) 1 6 pc (nx pc)) : Sd T 5 (QX T Q X 1 6) 1 6 149 (bX7_look_149 Q X nx) := x_al C dX7_look_149 (gf_X7_235 C dX7_look_151 (x_up (x_rI C hr dX7_look_154)))
set_option maxRecDepth 20000 in
theorem oX7_look_155 {T : Ct} {Q : Option Value → MM → Prop} {X : String → MM → Prop} (C : Cx T cX7_look 5 RX7 1 6) (CR : CxR T 6 82) (CX : CxX T) (hr : T.2.2.2.2.2.2.2.2.1.sig.returnType = (some .int)) (hnm : T.2.2.2.2.2.2.2.2.1.name = "look") {nx : Nat → Kt} (hn : ∀ pc, Sd T 5 (QX T Q X 1 6) 1 6 pc (nx pc)) : Sd T 5 (QX T Q X 1 6) 1 6 155 (bX7_look_155 Q X nx) := x_al C dX7_look_155 (gf_X7_238 C dX7_look_157 (x_up (x_rI C hr dX7_look_160)))
set_option maxRecDepth 20000 in
theorem oX7_look_161 {T : Ct} {Q : Option Value → MM → Prop} {X : String → MM → Prop} (C : Cx T cX7_look 5 RX7 1 6) (CR : CxR T 6 82) (CX : CxX T) (hr : T.2.2.2.2.2.2.2.2.1.sig.returnType = (some .int)) (hnm : T.2.2.2.2.2.2.2.2.1.name = "look") {nx : Nat → Kt} (hn : ∀ pc, Sd T 5 (QX T Q X 1 6) 1 6 pc (nx pc)) : Sd T 5 (QX T Q X 1 6) 1 6 161 (bX7_look_161 Q X nx) := x_al C dX7_look_161 (x_cV C CR mX5_isLit ⟨co_X5_isLit, init_X5, md_X5_isLit, by decide, by decide⟩ (ci := 5) (TX := TX5) (N := 18) rfl (by decide) ml_X7_241 im_X5_isLit se_X5_isLit dX7_look_163 (x_if_eq C (hn 177) dX7_look_166 (by decide) (x_al C dX7_look_169 (gf_X7_244 C dX7_look_171 (x_goto C (hn 178) dX7_look_174 (by decide))))))
set_option maxRecDepth 20000 in
theorem oX7_look_177 {T : Ct} {Q : Option Value → MM → Prop} {X : String → MM → Prop} (C : Cx T cX7_look 5 RX7 1 6) (CR : CxR T 6 82) (CX : CxX T) (hr : T.2.2.2.2.2.2.2.2.1.sig.returnType = (some .int)) (hnm : T.2.2.2.2.2.2.2.2.1.name = "look") {nx : Nat → Kt} (hn : ∀ pc, Sd T 5 (QX T Q X 1 6) 1 6 pc (nx pc)) : Sd T 5 (QX T Q X 1 6) 1 6 177 (bX7_look_177 Q X nx) := x_ic C dX7_look_177 (by decide) (hn 178)
set_option maxRecDepth 20000 in
theorem oX7_look_178 {T : Ct} {Q : Option Value → MM → Prop} {X : String → MM → Prop} (C : Cx T cX7_look 5 RX7 1 6) (CR : CxR T 6 82) (CX : CxX T) (hr : T.2.2.2.2.2.2.2.2.1.sig.returnType = (some .int)) (hnm : T.2.2.2.2.2.2.2.2.1.name = "look") {nx : Nat → Kt} (hn : ∀ pc, Sd T 5 (QX T Q X 1 6) 1 6 pc (nx pc)) : Sd T 5 (QX T Q X 1 6) 1 6 178 (bX7_look_178 Q X nx) := x_up (x_rI C hr dX7_look_178)
set_option maxRecDepth 20000 in
theorem oX7_look_179 {T : Ct} {Q : Option Value → MM → Prop} {X : String → MM → Prop} (C : Cx T cX7_look 5 RX7 1 6) (CR : CxR T 6 82) (CX : CxX T) (hr : T.2.2.2.2.2.2.2.2.1.sig.returnType = (some .int)) (hnm : T.2.2.2.2.2.2.2.2.1.name = "look") {nx : Nat → Kt} (hn : ∀ pc, Sd T 5 (QX T Q X 1 6) 1 6 pc (nx pc)) : Sd T 5 (QX T Q X 1 6) 1 6 179 (bX7_look_179 Q X nx) := x_al C dX7_look_179 (x_cV C CR mX5_isLit ⟨co_X5_isLit, init_X5, md_X5_isLit, by decide, by decide⟩ (ci := 5) (TX := TX5) (N := 18) rfl (by decide) ml_X7_241 im_X5_isLit se_X5_isLit dX7_look_181 (x_if_eq C (hn 199) dX7_look_184 (by decide) (x_al C dX7_look_187 (gf_X7_245 C dX7_look_189 (x_if_eq C (hn 199) dX7_look_192 (by decide) (x_ic C dX7_look_195 (by decide) (x_goto C (hn 200) dX7_look_196 (by decide))))))))
set_option maxRecDepth 20000 in
theorem oX7_look_199 {T : Ct} {Q : Option Value → MM → Prop} {X : String → MM → Prop} (C : Cx T cX7_look 5 RX7 1 6) (CR : CxR T 6 82) (CX : CxX T) (hr : T.2.2.2.2.2.2.2.2.1.sig.returnType = (some .int)) (hnm : T.2.2.2.2.2.2.2.2.1.name = "look") {nx : Nat → Kt} (hn : ∀ pc, Sd T 5 (QX T Q X 1 6) 1 6 pc (nx pc)) : Sd T 5 (QX T Q X 1 6) 1 6 199 (bX7_look_199 Q X nx) := x_ic C dX7_look_199 (by decide) (hn 200)
set_option maxRecDepth 20000 in
theorem oX7_look_200 {T : Ct} {Q : Option Value → MM → Prop} {X : String → MM → Prop} (C : Cx T cX7_look 5 RX7 1 6) (CR : CxR T 6 82) (CX : CxX T) (hr : T.2.2.2.2.2.2.2.2.1.sig.returnType = (some .int)) (hnm : T.2.2.2.2.2.2.2.2.1.name = "look") {nx : Nat → Kt} (hn : ∀ pc, Sd T 5 (QX T Q X 1 6) 1 6 pc (nx pc)) : Sd T 5 (QX T Q X 1 6) 1 6 200 (bX7_look_200 Q X nx) := x_up (x_rI C hr dX7_look_200)
set_option maxRecDepth 20000 in
theorem oX7_look_201 {T : Ct} {Q : Option Value → MM → Prop} {X : String → MM → Prop} (C : Cx T cX7_look 5 RX7 1 6) (CR : CxR T 6 82) (CX : CxX T) (hr : T.2.2.2.2.2.2.2.2.1.sig.returnType = (some .int)) (hnm : T.2.2.2.2.2.2.2.2.1.name = "look") {nx : Nat → Kt} (hn : ∀ pc, Sd T 5 (QX T Q X 1 6) 1 6 pc (nx pc)) : Sd T 5 (QX T Q X 1 6) 1 6 201 (bX7_look_201 Q X nx) := x_al C dX7_look_201 (gf_X7_156 C dX7_look_203 (x_up (x_rI C hr dX7_look_206)))
set_option maxRecDepth 20000 in
theorem oX7_look_207 {T : Ct} {Q : Option Value → MM → Prop} {X : String → MM → Prop} (C : Cx T cX7_look 5 RX7 1 6) (CR : CxR T 6 82) (CX : CxX T) (hr : T.2.2.2.2.2.2.2.2.1.sig.returnType = (some .int)) (hnm : T.2.2.2.2.2.2.2.2.1.name = "look") {nx : Nat → Kt} (hn : ∀ pc, Sd T 5 (QX T Q X 1 6) 1 6 pc (nx pc)) : Sd T 5 (QX T Q X 1 6) 1 6 207 (bX7_look_207 Q X nx) := x_al C dX7_look_207 (gf_X7_196 C dX7_look_209 (gf_X7_248 C dX7_look_212 (x_up (x_rI C hr dX7_look_215))))
set_option maxRecDepth 20000 in
theorem oX7_look_216 {T : Ct} {Q : Option Value → MM → Prop} {X : String → MM → Prop} (C : Cx T cX7_look 5 RX7 1 6) (CR : CxR T 6 82) (CX : CxX T) (hr : T.2.2.2.2.2.2.2.2.1.sig.returnType = (some .int)) (hnm : T.2.2.2.2.2.2.2.2.1.name = "look") {nx : Nat → Kt} (hn : ∀ pc, Sd T 5 (QX T Q X 1 6) 1 6 pc (nx pc)) : Sd T 5 (QX T Q X 1 6) 1 6 216 (bX7_look_216 Q X nx) := x_al C dX7_look_216 (gf_X7_196 C dX7_look_218 (gf_X7_75 C dX7_look_221 (x_up (x_rI C hr dX7_look_224))))
set_option maxRecDepth 20000 in
theorem oX7_look_225 {T : Ct} {Q : Option Value → MM → Prop} {X : String → MM → Prop} (C : Cx T cX7_look 5 RX7 1 6) (CR : CxR T 6 82) (CX : CxX T) (hr : T.2.2.2.2.2.2.2.2.1.sig.returnType = (some .int)) (hnm : T.2.2.2.2.2.2.2.2.1.name = "look") {nx : Nat → Kt} (hn : ∀ pc, Sd T 5 (QX T Q X 1 6) 1 6 pc (nx pc)) : Sd T 5 (QX T Q X 1 6) 1 6 225 (bX7_look_225 Q X nx) := x_al C dX7_look_225 (gf_X7_196 C dX7_look_227 (gf_X7_80 C dX7_look_230 (x_up (x_rI C hr dX7_look_233))))
set_option maxRecDepth 20000 in
theorem oX7_look_234 {T : Ct} {Q : Option Value → MM → Prop} {X : String → MM → Prop} (C : Cx T cX7_look 5 RX7 1 6) (CR : CxR T 6 82) (CX : CxX T) (hr : T.2.2.2.2.2.2.2.2.1.sig.returnType = (some .int)) (hnm : T.2.2.2.2.2.2.2.2.1.name = "look") {nx : Nat → Kt} (hn : ∀ pc, Sd T 5 (QX T Q X 1 6) 1 6 pc (nx pc)) : Sd T 5 (QX T Q X 1 6) 1 6 234 (bX7_look_234 Q X nx) := x_al C dX7_look_234 (gf_X7_196 C dX7_look_236 (gf_X7_205 C dX7_look_239 (x_up (x_rI C hr dX7_look_242))))
set_option maxRecDepth 20000 in
theorem oX7_look_243 {T : Ct} {Q : Option Value → MM → Prop} {X : String → MM → Prop} (C : Cx T cX7_look 5 RX7 1 6) (CR : CxR T 6 82) (CX : CxX T) (hr : T.2.2.2.2.2.2.2.2.1.sig.returnType = (some .int)) (hnm : T.2.2.2.2.2.2.2.2.1.name = "look") {nx : Nat → Kt} (hn : ∀ pc, Sd T 5 (QX T Q X 1 6) 1 6 pc (nx pc)) : Sd T 5 (QX T Q X 1 6) 1 6 243 (bX7_look_243 Q X nx) := x_al C dX7_look_243 (gf_X7_196 C dX7_look_245 (gf_X7_229 C dX7_look_248 (x_up (x_rI C hr dX7_look_251))))
set_option maxRecDepth 20000 in
theorem oX7_look_252 {T : Ct} {Q : Option Value → MM → Prop} {X : String → MM → Prop} (C : Cx T cX7_look 5 RX7 1 6) (CR : CxR T 6 82) (CX : CxX T) (hr : T.2.2.2.2.2.2.2.2.1.sig.returnType = (some .int)) (hnm : T.2.2.2.2.2.2.2.2.1.name = "look") {nx : Nat → Kt} (hn : ∀ pc, Sd T 5 (QX T Q X 1 6) 1 6 pc (nx pc)) : Sd T 5 (QX T Q X 1 6) 1 6 252 (bX7_look_252 Q X nx) := x_al C dX7_look_252 (gf_X7_249 C dX7_look_254 (x_up (x_rI C hr dX7_look_257)))
set_option maxRecDepth 20000 in
theorem oX7_look_258 {T : Ct} {Q : Option Value → MM → Prop} {X : String → MM → Prop} (C : Cx T cX7_look 5 RX7 1 6) (CR : CxR T 6 82) (CX : CxX T) (hr : T.2.2.2.2.2.2.2.2.1.sig.returnType = (some .int)) (hnm : T.2.2.2.2.2.2.2.2.1.name = "look") {nx : Nat → Kt} (hn : ∀ pc, Sd T 5 (QX T Q X 1 6) 1 6 pc (nx pc)) : Sd T 5 (QX T Q X 1 6) 1 6 258 (bX7_look_258 Q X nx) := x_al C dX7_look_258 (gf_X7_252 C dX7_look_260 (x_up (x_rI C hr dX7_look_263)))
set_option maxRecDepth 20000 in
theorem oX7_look_264 {T : Ct} {Q : Option Value → MM → Prop} {X : String → MM → Prop} (C : Cx T cX7_look 5 RX7 1 6) (CR : CxR T 6 82) (CX : CxX T) (hr : T.2.2.2.2.2.2.2.2.1.sig.returnType = (some .int)) (hnm : T.2.2.2.2.2.2.2.2.1.name = "look") {nx : Nat → Kt} (hn : ∀ pc, Sd T 5 (QX T Q X 1 6) 1 6 pc (nx pc)) : Sd T 5 (QX T Q X 1 6) 1 6 264 (bX7_look_264 Q X nx) := x_ic C dX7_look_264 (by decide) (x_up (x_rI C hr dX7_look_265))
set_option maxRecDepth 20000 in
theorem mX7_look (l : Launch) (hst : l.stackTraces = false) (D : va_G) (cA : Nat → ClassId) (base : Nat) : McX l D cA base yX7_look cX7_look 5 (some .int) rX7_look wX7_look := mcX_of hst (by decide +kernel) kX7_look (fun T Q X C CR CX hr hnm nx hn => bse_ok _ (List.forall_mem_cons.mpr ⟨oX7_look_0 C CR CX hr hnm hn, List.forall_mem_cons.mpr ⟨oX7_look_14 C CR CX hr hnm hn, List.forall_mem_cons.mpr ⟨oX7_look_24 C CR CX hr hnm hn, List.forall_mem_cons.mpr ⟨oX7_look_116 C CR CX hr hnm hn, List.forall_mem_cons.mpr ⟨oX7_look_125 C CR CX hr hnm hn, List.forall_mem_cons.mpr ⟨oX7_look_134 C CR CX hr hnm hn, List.forall_mem_cons.mpr ⟨oX7_look_143 C CR CX hr hnm hn, List.forall_mem_cons.mpr ⟨oX7_look_149 C CR CX hr hnm hn, List.forall_mem_cons.mpr ⟨oX7_look_155 C CR CX hr hnm hn, List.forall_mem_cons.mpr ⟨oX7_look_161 C CR CX hr hnm hn, List.forall_mem_cons.mpr ⟨oX7_look_177 C CR CX hr hnm hn, List.forall_mem_cons.mpr ⟨oX7_look_178 C CR CX hr hnm hn, List.forall_mem_cons.mpr ⟨oX7_look_179 C CR CX hr hnm hn, List.forall_mem_cons.mpr ⟨oX7_look_199 C CR CX hr hnm hn, List.forall_mem_cons.mpr ⟨oX7_look_200 C CR CX hr hnm hn, List.forall_mem_cons.mpr ⟨oX7_look_201 C CR CX hr hnm hn, List.forall_mem_cons.mpr ⟨oX7_look_207 C CR CX hr hnm hn, List.forall_mem_cons.mpr ⟨oX7_look_216 C CR CX hr hnm hn, List.forall_mem_cons.mpr ⟨oX7_look_225 C CR CX hr hnm hn, List.forall_mem_cons.mpr ⟨oX7_look_234 C CR CX hr hnm hn, List.forall_mem_cons.mpr ⟨oX7_look_243 C CR CX hr hnm hn, List.forall_mem_cons.mpr ⟨oX7_look_252 C CR CX hr hnm hn, List.forall_mem_cons.mpr ⟨oX7_look_258 C CR CX hr hnm hn, List.forall_mem_cons.mpr ⟨oX7_look_264 C CR CX hr hnm hn, fun _ h => nomatch h⟩⟩⟩⟩⟩⟩⟩⟩⟩⟩⟩⟩⟩⟩⟩⟩⟩⟩⟩⟩⟩⟩⟩⟩))
theorem dX7_cable_0 : decode cX7_cable 0 = .ok (.iload_n 1, 1) := by decide +kernel
theorem dX7_cable_1 : decode cX7_cable 1 = .ok (.invokestatic 89, 3) := by decide +kernel
theorem dX7_cable_4 : decode cX7_cable 4 = .ok (.ifCond .ne 13, 3) := by decide +kernel
theorem dX7_cable_7 : decode cX7_cable 7 = .ok (.new 211, 3) := by decide +kernel
theorem dX7_cable_10 : decode cX7_cable 10 = .ok (.dup, 1) := by decide +kernel
theorem dX7_cable_11 : decode cX7_cable 11 = .ok (.ldc 114, 2) := by decide +kernel
theorem dX7_cable_13 : decode cX7_cable 13 = .ok (.invokespecial 215, 3) := by decide +kernel
theorem dX7_cable_16 : decode cX7_cable 16 = .ok (.athrow, 1) := by decide +kernel
theorem dX7_cable_17 : decode cX7_cable 17 = .ok (.aload_n 0, 1) := by decide +kernel
theorem dX7_cable_18 : decode cX7_cable 18 = .ok (.getfield 17, 3) := by decide +kernel
theorem dX7_cable_21 : decode cX7_cable 21 = .ok (.iload_n 1, 1) := by decide +kernel
theorem dX7_cable_22 : decode cX7_cable 22 = .ok (.aaload, 1) := by decide +kernel
theorem dX7_cable_23 : decode cX7_cable 23 = .ok (.astore_n 3, 1) := by decide +kernel
theorem dX7_cable_24 : decode cX7_cable 24 = .ok (.iload_n 2, 1) := by decide +kernel
theorem dX7_cable_25 : decode cX7_cable 25 = .ok (.tableswitch 181 0 8 #[51, 75, 99, 115, 128, 141, 151, 161, 171], 51) := by decide +kernel
theorem dX7_cable_76 : decode cX7_cable 76 = .ok (.aload_n 3, 1) := by decide +kernel
theorem dX7_cable_77 : decode cX7_cable 77 = .ok (.invokevirtual 116, 3) := by decide +kernel
theorem dX7_cable_80 : decode cX7_cable 80 = .ok (.ifCond .eq 18, 3) := by decide +kernel
theorem dX7_cable_83 : decode cX7_cable 83 = .ok (.aload_n 3, 1) := by decide +kernel
theorem dX7_cable_84 : decode cX7_cable 84 = .ok (.getfield 255, 3) := by decide +kernel
theorem dX7_cable_87 : decode cX7_cable 87 = .ok (.iconst 0, 1) := by decide +kernel
theorem dX7_cable_88 : decode cX7_cable 88 = .ok (.aaload, 1) := by decide +kernel
theorem dX7_cable_89 : decode cX7_cable 89 = .ok (.getfield 69, 3) := by decide +kernel
theorem dX7_cable_92 : decode cX7_cable 92 = .ok (.getfield 205, 3) := by decide +kernel
theorem dX7_cable_95 : decode cX7_cable 95 = .ok (.goto 4, 3) := by decide +kernel
theorem dX7_cable_98 : decode cX7_cable 98 = .ok (.iconst (-1), 1) := by decide +kernel
theorem dX7_cable_99 : decode cX7_cable 99 = .ok (.ireturn, 1) := by decide +kernel
theorem dX7_cable_100 : decode cX7_cable 100 = .ok (.aload_n 3, 1) := by decide +kernel
theorem dX7_cable_101 : decode cX7_cable 101 = .ok (.invokevirtual 116, 3) := by decide +kernel
theorem dX7_cable_104 : decode cX7_cable 104 = .ok (.ifCond .eq 18, 3) := by decide +kernel
theorem dX7_cable_107 : decode cX7_cable 107 = .ok (.aload_n 3, 1) := by decide +kernel
theorem dX7_cable_108 : decode cX7_cable 108 = .ok (.getfield 255, 3) := by decide +kernel
theorem dX7_cable_111 : decode cX7_cable 111 = .ok (.iconst 1, 1) := by decide +kernel
theorem dX7_cable_112 : decode cX7_cable 112 = .ok (.aaload, 1) := by decide +kernel
theorem dX7_cable_113 : decode cX7_cable 113 = .ok (.getfield 69, 3) := by decide +kernel
theorem dX7_cable_116 : decode cX7_cable 116 = .ok (.getfield 205, 3) := by decide +kernel
theorem dX7_cable_119 : decode cX7_cable 119 = .ok (.goto 4, 3) := by decide +kernel
theorem dX7_cable_122 : decode cX7_cable 122 = .ok (.iconst (-1), 1) := by decide +kernel
theorem dX7_cable_123 : decode cX7_cable 123 = .ok (.ireturn, 1) := by decide +kernel
theorem dX7_cable_124 : decode cX7_cable 124 = .ok (.aload_n 3, 1) := by decide +kernel
theorem dX7_cable_125 : decode cX7_cable 125 = .ok (.invokevirtual 116, 3) := by decide +kernel
theorem dX7_cable_128 : decode cX7_cable 128 = .ok (.ifCond .eq 10, 3) := by decide +kernel
theorem dX7_cable_131 : decode cX7_cable 131 = .ok (.aload_n 3, 1) := by decide +kernel
theorem dX7_cable_132 : decode cX7_cable 132 = .ok (.getfield 108, 3) := by decide +kernel
theorem dX7_cable_135 : decode cX7_cable 135 = .ok (.goto 4, 3) := by decide +kernel
theorem dX7_cable_138 : decode cX7_cable 138 = .ok (.iconst (-1), 1) := by decide +kernel
theorem dX7_cable_139 : decode cX7_cable 139 = .ok (.ireturn, 1) := by decide +kernel
theorem dX7_cable_140 : decode cX7_cable 140 = .ok (.aload_n 3, 1) := by decide +kernel
theorem dX7_cable_141 : decode cX7_cable 141 = .ok (.getfield 122, 3) := by decide +kernel
theorem dX7_cable_144 : decode cX7_cable 144 = .ok (.ifCond .eq 7, 3) := by decide +kernel
theorem dX7_cable_147 : decode cX7_cable 147 = .ok (.iconst 1, 1) := by decide +kernel
theorem dX7_cable_148 : decode cX7_cable 148 = .ok (.goto 4, 3) := by decide +kernel
theorem dX7_cable_151 : decode cX7_cable 151 = .ok (.iconst 0, 1) := by decide +kernel
theorem dX7_cable_152 : decode cX7_cable 152 = .ok (.ireturn, 1) := by decide +kernel
theorem dX7_cable_153 : decode cX7_cable 153 = .ok (.aload_n 3, 1) := by decide +kernel
theorem dX7_cable_154 : decode cX7_cable 154 = .ok (.getfield 256, 3) := by decide +kernel
theorem dX7_cable_157 : decode cX7_cable 157 = .ok (.ifCond .eq 7, 3) := by decide +kernel
theorem dX7_cable_160 : decode cX7_cable 160 = .ok (.iconst 1, 1) := by decide +kernel
theorem dX7_cable_161 : decode cX7_cable 161 = .ok (.goto 4, 3) := by decide +kernel
theorem dX7_cable_164 : decode cX7_cable 164 = .ok (.iconst 0, 1) := by decide +kernel
theorem dX7_cable_165 : decode cX7_cable 165 = .ok (.ireturn, 1) := by decide +kernel
theorem dX7_cable_166 : decode cX7_cable 166 = .ok (.aload_n 3, 1) := by decide +kernel
theorem dX7_cable_167 : decode cX7_cable 167 = .ok (.getfield 133, 3) := by decide +kernel
theorem dX7_cable_170 : decode cX7_cable 170 = .ok (.iconst 0, 1) := by decide +kernel
theorem dX7_cable_171 : decode cX7_cable 171 = .ok (.aaload, 1) := by decide +kernel
theorem dX7_cable_172 : decode cX7_cable 172 = .ok (.getfield 259, 3) := by decide +kernel
theorem dX7_cable_175 : decode cX7_cable 175 = .ok (.ireturn, 1) := by decide +kernel
theorem dX7_cable_176 : decode cX7_cable 176 = .ok (.aload_n 3, 1) := by decide +kernel
theorem dX7_cable_177 : decode cX7_cable 177 = .ok (.getfield 133, 3) := by decide +kernel
theorem dX7_cable_180 : decode cX7_cable 180 = .ok (.iconst 1, 1) := by decide +kernel
theorem dX7_cable_181 : decode cX7_cable 181 = .ok (.aaload, 1) := by decide +kernel
theorem dX7_cable_182 : decode cX7_cable 182 = .ok (.getfield 259, 3) := by decide +kernel
theorem dX7_cable_185 : decode cX7_cable 185 = .ok (.ireturn, 1) := by decide +kernel
theorem dX7_cable_186 : decode cX7_cable 186 = .ok (.aload_n 3, 1) := by decide +kernel
theorem dX7_cable_187 : decode cX7_cable 187 = .ok (.getfield 133, 3) := by decide +kernel
theorem dX7_cable_190 : decode cX7_cable 190 = .ok (.iconst 0, 1) := by decide +kernel
theorem dX7_cable_191 : decode cX7_cable 191 = .ok (.aaload, 1) := by decide +kernel
theorem dX7_cable_192 : decode cX7_cable 192 = .ok (.getfield 262, 3) := by decide +kernel
theorem dX7_cable_195 : decode cX7_cable 195 = .ok (.ireturn, 1) := by decide +kernel
theorem dX7_cable_196 : decode cX7_cable 196 = .ok (.aload_n 3, 1) := by decide +kernel
theorem dX7_cable_197 : decode cX7_cable 197 = .ok (.getfield 133, 3) := by decide +kernel
theorem dX7_cable_200 : decode cX7_cable 200 = .ok (.iconst 1, 1) := by decide +kernel
theorem dX7_cable_201 : decode cX7_cable 201 = .ok (.aaload, 1) := by decide +kernel
theorem dX7_cable_202 : decode cX7_cable 202 = .ok (.getfield 262, 3) := by decide +kernel
theorem dX7_cable_205 : decode cX7_cable 205 = .ok (.ireturn, 1) := by decide +kernel
theorem dX7_cable_206 : decode cX7_cable 206 = .ok (.iconst (-1), 1) := by decide +kernel
theorem dX7_cable_207 : decode cX7_cable 207 = .ok (.ireturn, 1) := by decide +kernel
noncomputable def bX7_cable_0 (Q : Option Value → MM → Prop) (X : String → MM → Prop) (nx : Nat → Kt) : Kt := ldI 1 (cS 1 wX7_isCable 0 0 1 6 (ifz (fun x => x = 0) (thr nseC X 1 6) (nx 17)))
noncomputable def bX7_cable_17 (Q : Option Value → MM → Prop) (X : String → MM → Prop) (nx : Nat → Kt) : Kt := ldA 0 (gR 7 1 (ldI 1 (aR 12 (stA 3 (ldI 2 (swt 0 8 (fun j => nx (([76, 100, 124, 140, 153, 166, 176, 186, 196] : List Nat).getD j 0)) (nx 206)))))))
noncomputable def bX7_cable_76 (Q : Option Value → MM → Prop) (X : String → MM → Prop) (nx : Nat → Kt) : Kt := ldA 3 (cV 0 0 wX0_isPlugged 0 0 1 6 (ifz (fun x => x = 0) (nx 98) (ldA 3 (gR 0 0 (cI 0 (aR 17 (gR 5 0 (gI 6 3 (nx 99)))))))))
noncomputable def bX7_cable_98 (Q : Option Value → MM → Prop) (X : String → MM → Prop) (nx : Nat → Kt) : Kt := cI (-1) (nx 99)
noncomputable def bX7_cable_99 (Q : Option Value → MM → Prop) (X : String → MM → Prop) (nx : Nat → Kt) : Kt := rI Q
noncomputable def bX7_cable_100 (Q : Option Value → MM → Prop) (X : String → MM → Prop) (nx : Nat → Kt) : Kt := ldA 3 (cV 0 0 wX0_isPlugged 0 0 1 6 (ifz (fun x => x = 0) (nx 122) (ldA 3 (gR 0 0 (cI 1 (aR 17 (gR 5 0 (gI 6 3 (nx 123)))))))))
noncomputable def bX7_cable_122 (Q : Option Value → MM → Prop) (X : String → MM → Prop) (nx : Nat → Kt) : Kt := cI (-1) (nx 123)
noncomputable def bX7_cable_123 (Q : Option Value → MM → Prop) (X : String → MM → Prop) (nx : Nat → Kt) : Kt := rI Q
noncomputable def bX7_cable_124 (Q : Option Value → MM → Prop) (X : String → MM → Prop) (nx : Nat → Kt) : Kt := ldA 3 (cV 0 0 wX0_isPlugged 0 0 1 6 (ifz (fun x => x = 0) (nx 138) (ldA 3 (gI 0 2 (nx 139)))))
noncomputable def bX7_cable_138 (Q : Option Value → MM → Prop) (X : String → MM → Prop) (nx : Nat → Kt) : Kt := cI (-1) (nx 139)
noncomputable def bX7_cable_139 (Q : Option Value → MM → Prop) (X : String → MM → Prop) (nx : Nat → Kt) : Kt := rI Q
noncomputable def bX7_cable_140 (Q : Option Value → MM → Prop) (X : String → MM → Prop) (nx : Nat → Kt) : Kt := ldA 3 (gI 0 3 (ifz (fun x => x = 0) (nx 151) (cI 1 (nx 152))))
noncomputable def bX7_cable_151 (Q : Option Value → MM → Prop) (X : String → MM → Prop) (nx : Nat → Kt) : Kt := cI 0 (nx 152)
noncomputable def bX7_cable_152 (Q : Option Value → MM → Prop) (X : String → MM → Prop) (nx : Nat → Kt) : Kt := rI Q
noncomputable def bX7_cable_153 (Q : Option Value → MM → Prop) (X : String → MM → Prop) (nx : Nat → Kt) : Kt := ldA 3 (gI 0 4 (ifz (fun x => x = 0) (nx 164) (cI 1 (nx 165))))
noncomputable def bX7_cable_164 (Q : Option Value → MM → Prop) (X : String → MM → Prop) (nx : Nat → Kt) : Kt := cI 0 (nx 165)
noncomputable def bX7_cable_165 (Q : Option Value → MM → Prop) (X : String → MM → Prop) (nx : Nat → Kt) : Kt := rI Q
noncomputable def bX7_cable_166 (Q : Option Value → MM → Prop) (X : String → MM → Prop) (nx : Nat → Kt) : Kt := ldA 3 (gR 0 1 (cI 0 (aR 15 (gI 3 5 (rI Q)))))
noncomputable def bX7_cable_176 (Q : Option Value → MM → Prop) (X : String → MM → Prop) (nx : Nat → Kt) : Kt := ldA 3 (gR 0 1 (cI 1 (aR 15 (gI 3 5 (rI Q)))))
noncomputable def bX7_cable_186 (Q : Option Value → MM → Prop) (X : String → MM → Prop) (nx : Nat → Kt) : Kt := ldA 3 (gR 0 1 (cI 0 (aR 15 (gI 3 2 (rI Q)))))
noncomputable def bX7_cable_196 (Q : Option Value → MM → Prop) (X : String → MM → Prop) (nx : Nat → Kt) : Kt := ldA 3 (gR 0 1 (cI 1 (aR 15 (gI 3 2 (rI Q)))))
noncomputable def bX7_cable_206 (Q : Option Value → MM → Prop) (X : String → MM → Prop) (nx : Nat → Kt) : Kt := cI (-1) (rI Q)
noncomputable def kX7_cable (Q : Option Value → MM → Prop) (X : String → MM → Prop) (nx : Nat → Kt) : Nat → Kt := bse [(0, bX7_cable_0 Q X nx), (17, bX7_cable_17 Q X nx), (76, bX7_cable_76 Q X nx), (98, bX7_cable_98 Q X nx), (99, bX7_cable_99 Q X nx), (100, bX7_cable_100 Q X nx), (122, bX7_cable_122 Q X nx), (123, bX7_cable_123 Q X nx), (124, bX7_cable_124 Q X nx), (138, bX7_cable_138 Q X nx), (139, bX7_cable_139 Q X nx), (140, bX7_cable_140 Q X nx), (151, bX7_cable_151 Q X nx), (152, bX7_cable_152 Q X nx), (153, bX7_cable_153 Q X nx), (164, bX7_cable_164 Q X nx), (165, bX7_cable_165 Q X nx), (166, bX7_cable_166 Q X nx), (176, bX7_cable_176 Q X nx), (186, bX7_cable_186 Q X nx), (196, bX7_cable_196 Q X nx), (206, bX7_cable_206 Q X nx)]
abbrev rX7_cable : Room := { frames := 6, cells := 1, slots := 6, locals := 82 }
noncomputable def wX7_cable : Mx := mx 4 kX7_cable
set_option maxRecDepth 20000 in
theorem oX7_cable_0 {T : Ct} {Q : Option Value → MM → Prop} {X : String → MM → Prop} (C : Cx T cX7_cable 4 RX7 1 6) (CR : CxR T 6 82) (CX : CxX T) (hr : T.2.2.2.2.2.2.2.2.1.sig.returnType = (some .int)) (hnm : T.2.2.2.2.2.2.2.2.1.name = "cable") {nx : Nat → Kt} (hn : ∀ pc, Sd T 4 (QX T Q X 1 6) 1 6 pc (nx pc)) : Sd T 4 (QX T Q X 1 6) 1 6 0 (bX7_cable_0 Q X nx) := x_il_n C dX7_cable_0 rfl (x_cS C CR mX7_isCable ⟨co_X7_isCable, init_X7, md_X7_isCable, by decide, by decide⟩ ml_X7_89 sm_X7_isCable dX7_cable_1 (x_if_ne C (hn 17) dX7_cable_4 (by decide) (x_thrN C CR CX (by decide) (by decide) (text := "no such cable") cl_X7_211 init_nseC (by decide) dX7_cable_7 dX7_cable_10 dX7_cable_11 dX7_cable_13 dX7_cable_16)))
set_option maxRecDepth 20000 in
theorem oX7_cable_17 {T : Ct} {Q : Option Value → MM → Prop} {X : String → MM → Prop} (C : Cx T cX7_cable 4 RX7 1 6) (CR : CxR T 6 82) (CX : CxX T) (hr : T.2.2.2.2.2.2.2.2.1.sig.returnType = (some .int)) (hnm : T.2.2.2.2.2.2.2.2.1.name = "cable") {nx : Nat → Kt} (hn : ∀ pc, Sd T 4 (QX T Q X 1 6) 1 6 pc (nx pc)) : Sd T 4 (QX T Q X 1 6) 1 6 17 (bX7_cable_17 Q X nx) := x_al_n C dX7_cable_17 rfl (gf_X7_17 C dX7_cable_18 (x_il_n C dX7_cable_21 rfl (x_aald C (kd := 12) (t0 := 2) (by decide) (by decide) (fun _ => rfl) dX7_cable_22 (x_as_n C dX7_cable_23 rfl (by decide) (x_il_n C dX7_cable_24 rfl (x_sw C (tl := [76, 100, 124, 140, 153, 166, 176, 186, 196]) hn dX7_cable_25 (by decide) (by decide) (by decide)))))))
set_option maxRecDepth 20000 in
theorem oX7_cable_76 {T : Ct} {Q : Option Value → MM → Prop} {X : String → MM → Prop} (C : Cx T cX7_cable 4 RX7 1 6) (CR : CxR T 6 82) (CX : CxX T) (hr : T.2.2.2.2.2.2.2.2.1.sig.returnType = (some .int)) (hnm : T.2.2.2.2.2.2.2.2.1.name = "cable") {nx : Nat → Kt} (hn : ∀ pc, Sd T 4 (QX T Q X 1 6) 1 6 pc (nx pc)) : Sd T 4 (QX T Q X 1 6) 1 6 76 (bX7_cable_76 Q X nx) := x_al_n C dX7_cable_76 rfl (x_cV C CR mX0_isPlugged ⟨co_X0_isPlugged, init_X0, md_X0_isPlugged, by decide, by decide⟩ (ci := 0) (TX := TX0) (N := 5) rfl (by decide) ml_X7_116 im_X0_isPlugged se_X0_isPlugged dX7_cable_77 (x_if_eq C (hn 98) dX7_cable_80 (by decide) (x_al_n C dX7_cable_83 rfl (gf_X7_255 C dX7_cable_84 (x_ic C dX7_cable_87 (by decide) (x_aald C (kd := 17) (t0 := 7) (by decide) (by decide) (fun _ => rfl) dX7_cable_88 (gf_X7_69 C dX7_cable_89 (gf_X7_205 C dX7_cable_92 (x_goto C (hn 99) dX7_cable_95 (by decide))))))))))
set_option maxRecDepth 20000 in
theorem oX7_cable_98 {T : Ct} {Q : Option Value → MM → Prop} {X : String → MM → Prop} (C : Cx T cX7_cable 4 RX7 1 6) (CR : CxR T 6 82) (CX : CxX T) (hr : T.2.2.2.2.2.2.2.2.1.sig.returnType = (some .int)) (hnm : T.2.2.2.2.2.2.2.2.1.name = "cable") {nx : Nat → Kt} (hn : ∀ pc, Sd T 4 (QX T Q X 1 6) 1 6 pc (nx pc)) : Sd T 4 (QX T Q X 1 6) 1 6 98 (bX7_cable_98 Q X nx) := x_ic C dX7_cable_98 (by decide) (hn 99)
set_option maxRecDepth 20000 in
theorem oX7_cable_99 {T : Ct} {Q : Option Value → MM → Prop} {X : String → MM → Prop} (C : Cx T cX7_cable 4 RX7 1 6) (CR : CxR T 6 82) (CX : CxX T) (hr : T.2.2.2.2.2.2.2.2.1.sig.returnType = (some .int)) (hnm : T.2.2.2.2.2.2.2.2.1.name = "cable") {nx : Nat → Kt} (hn : ∀ pc, Sd T 4 (QX T Q X 1 6) 1 6 pc (nx pc)) : Sd T 4 (QX T Q X 1 6) 1 6 99 (bX7_cable_99 Q X nx) := x_up (x_rI C hr dX7_cable_99)
set_option maxRecDepth 20000 in
theorem oX7_cable_100 {T : Ct} {Q : Option Value → MM → Prop} {X : String → MM → Prop} (C : Cx T cX7_cable 4 RX7 1 6) (CR : CxR T 6 82) (CX : CxX T) (hr : T.2.2.2.2.2.2.2.2.1.sig.returnType = (some .int)) (hnm : T.2.2.2.2.2.2.2.2.1.name = "cable") {nx : Nat → Kt} (hn : ∀ pc, Sd T 4 (QX T Q X 1 6) 1 6 pc (nx pc)) : Sd T 4 (QX T Q X 1 6) 1 6 100 (bX7_cable_100 Q X nx) := x_al_n C dX7_cable_100 rfl (x_cV C CR mX0_isPlugged ⟨co_X0_isPlugged, init_X0, md_X0_isPlugged, by decide, by decide⟩ (ci := 0) (TX := TX0) (N := 5) rfl (by decide) ml_X7_116 im_X0_isPlugged se_X0_isPlugged dX7_cable_101 (x_if_eq C (hn 122) dX7_cable_104 (by decide) (x_al_n C dX7_cable_107 rfl (gf_X7_255 C dX7_cable_108 (x_ic C dX7_cable_111 (by decide) (x_aald C (kd := 17) (t0 := 7) (by decide) (by decide) (fun _ => rfl) dX7_cable_112 (gf_X7_69 C dX7_cable_113 (gf_X7_205 C dX7_cable_116 (x_goto C (hn 123) dX7_cable_119 (by decide))))))))))
set_option maxRecDepth 20000 in
theorem oX7_cable_122 {T : Ct} {Q : Option Value → MM → Prop} {X : String → MM → Prop} (C : Cx T cX7_cable 4 RX7 1 6) (CR : CxR T 6 82) (CX : CxX T) (hr : T.2.2.2.2.2.2.2.2.1.sig.returnType = (some .int)) (hnm : T.2.2.2.2.2.2.2.2.1.name = "cable") {nx : Nat → Kt} (hn : ∀ pc, Sd T 4 (QX T Q X 1 6) 1 6 pc (nx pc)) : Sd T 4 (QX T Q X 1 6) 1 6 122 (bX7_cable_122 Q X nx) := x_ic C dX7_cable_122 (by decide) (hn 123)
set_option maxRecDepth 20000 in
theorem oX7_cable_123 {T : Ct} {Q : Option Value → MM → Prop} {X : String → MM → Prop} (C : Cx T cX7_cable 4 RX7 1 6) (CR : CxR T 6 82) (CX : CxX T) (hr : T.2.2.2.2.2.2.2.2.1.sig.returnType = (some .int)) (hnm : T.2.2.2.2.2.2.2.2.1.name = "cable") {nx : Nat → Kt} (hn : ∀ pc, Sd T 4 (QX T Q X 1 6) 1 6 pc (nx pc)) : Sd T 4 (QX T Q X 1 6) 1 6 123 (bX7_cable_123 Q X nx) := x_up (x_rI C hr dX7_cable_123)
set_option maxRecDepth 20000 in
theorem oX7_cable_124 {T : Ct} {Q : Option Value → MM → Prop} {X : String → MM → Prop} (C : Cx T cX7_cable 4 RX7 1 6) (CR : CxR T 6 82) (CX : CxX T) (hr : T.2.2.2.2.2.2.2.2.1.sig.returnType = (some .int)) (hnm : T.2.2.2.2.2.2.2.2.1.name = "cable") {nx : Nat → Kt} (hn : ∀ pc, Sd T 4 (QX T Q X 1 6) 1 6 pc (nx pc)) : Sd T 4 (QX T Q X 1 6) 1 6 124 (bX7_cable_124 Q X nx) := x_al_n C dX7_cable_124 rfl (x_cV C CR mX0_isPlugged ⟨co_X0_isPlugged, init_X0, md_X0_isPlugged, by decide, by decide⟩ (ci := 0) (TX := TX0) (N := 5) rfl (by decide) ml_X7_116 im_X0_isPlugged se_X0_isPlugged dX7_cable_125 (x_if_eq C (hn 138) dX7_cable_128 (by decide) (x_al_n C dX7_cable_131 rfl (gf_X7_108 C dX7_cable_132 (x_goto C (hn 139) dX7_cable_135 (by decide))))))
set_option maxRecDepth 20000 in
theorem oX7_cable_138 {T : Ct} {Q : Option Value → MM → Prop} {X : String → MM → Prop} (C : Cx T cX7_cable 4 RX7 1 6) (CR : CxR T 6 82) (CX : CxX T) (hr : T.2.2.2.2.2.2.2.2.1.sig.returnType = (some .int)) (hnm : T.2.2.2.2.2.2.2.2.1.name = "cable") {nx : Nat → Kt} (hn : ∀ pc, Sd T 4 (QX T Q X 1 6) 1 6 pc (nx pc)) : Sd T 4 (QX T Q X 1 6) 1 6 138 (bX7_cable_138 Q X nx) := x_ic C dX7_cable_138 (by decide) (hn 139)
set_option maxRecDepth 20000 in
theorem oX7_cable_139 {T : Ct} {Q : Option Value → MM → Prop} {X : String → MM → Prop} (C : Cx T cX7_cable 4 RX7 1 6) (CR : CxR T 6 82) (CX : CxX T) (hr : T.2.2.2.2.2.2.2.2.1.sig.returnType = (some .int)) (hnm : T.2.2.2.2.2.2.2.2.1.name = "cable") {nx : Nat → Kt} (hn : ∀ pc, Sd T 4 (QX T Q X 1 6) 1 6 pc (nx pc)) : Sd T 4 (QX T Q X 1 6) 1 6 139 (bX7_cable_139 Q X nx) := x_up (x_rI C hr dX7_cable_139)
set_option maxRecDepth 20000 in
theorem oX7_cable_140 {T : Ct} {Q : Option Value → MM → Prop} {X : String → MM → Prop} (C : Cx T cX7_cable 4 RX7 1 6) (CR : CxR T 6 82) (CX : CxX T) (hr : T.2.2.2.2.2.2.2.2.1.sig.returnType = (some .int)) (hnm : T.2.2.2.2.2.2.2.2.1.name = "cable") {nx : Nat → Kt} (hn : ∀ pc, Sd T 4 (QX T Q X 1 6) 1 6 pc (nx pc)) : Sd T 4 (QX T Q X 1 6) 1 6 140 (bX7_cable_140 Q X nx) := x_al_n C dX7_cable_140 rfl (gf_X7_122 C dX7_cable_141 (x_if_eq C (hn 151) dX7_cable_144 (by decide) (x_ic C dX7_cable_147 (by decide) (x_goto C (hn 152) dX7_cable_148 (by decide)))))
set_option maxRecDepth 20000 in
theorem oX7_cable_151 {T : Ct} {Q : Option Value → MM → Prop} {X : String → MM → Prop} (C : Cx T cX7_cable 4 RX7 1 6) (CR : CxR T 6 82) (CX : CxX T) (hr : T.2.2.2.2.2.2.2.2.1.sig.returnType = (some .int)) (hnm : T.2.2.2.2.2.2.2.2.1.name = "cable") {nx : Nat → Kt} (hn : ∀ pc, Sd T 4 (QX T Q X 1 6) 1 6 pc (nx pc)) : Sd T 4 (QX T Q X 1 6) 1 6 151 (bX7_cable_151 Q X nx) := x_ic C dX7_cable_151 (by decide) (hn 152)
set_option maxRecDepth 20000 in
theorem oX7_cable_152 {T : Ct} {Q : Option Value → MM → Prop} {X : String → MM → Prop} (C : Cx T cX7_cable 4 RX7 1 6) (CR : CxR T 6 82) (CX : CxX T) (hr : T.2.2.2.2.2.2.2.2.1.sig.returnType = (some .int)) (hnm : T.2.2.2.2.2.2.2.2.1.name = "cable") {nx : Nat → Kt} (hn : ∀ pc, Sd T 4 (QX T Q X 1 6) 1 6 pc (nx pc)) : Sd T 4 (QX T Q X 1 6) 1 6 152 (bX7_cable_152 Q X nx) := x_up (x_rI C hr dX7_cable_152)
set_option maxRecDepth 20000 in
theorem oX7_cable_153 {T : Ct} {Q : Option Value → MM → Prop} {X : String → MM → Prop} (C : Cx T cX7_cable 4 RX7 1 6) (CR : CxR T 6 82) (CX : CxX T) (hr : T.2.2.2.2.2.2.2.2.1.sig.returnType = (some .int)) (hnm : T.2.2.2.2.2.2.2.2.1.name = "cable") {nx : Nat → Kt} (hn : ∀ pc, Sd T 4 (QX T Q X 1 6) 1 6 pc (nx pc)) : Sd T 4 (QX T Q X 1 6) 1 6 153 (bX7_cable_153 Q X nx) := x_al_n C dX7_cable_153 rfl (gf_X7_256 C dX7_cable_154 (x_if_eq C (hn 164) dX7_cable_157 (by decide) (x_ic C dX7_cable_160 (by decide) (x_goto C (hn 165) dX7_cable_161 (by decide)))))
set_option maxRecDepth 20000 in
theorem oX7_cable_164 {T : Ct} {Q : Option Value → MM → Prop} {X : String → MM → Prop} (C : Cx T cX7_cable 4 RX7 1 6) (CR : CxR T 6 82) (CX : CxX T) (hr : T.2.2.2.2.2.2.2.2.1.sig.returnType = (some .int)) (hnm : T.2.2.2.2.2.2.2.2.1.name = "cable") {nx : Nat → Kt} (hn : ∀ pc, Sd T 4 (QX T Q X 1 6) 1 6 pc (nx pc)) : Sd T 4 (QX T Q X 1 6) 1 6 164 (bX7_cable_164 Q X nx) := x_ic C dX7_cable_164 (by decide) (hn 165)
set_option maxRecDepth 20000 in
theorem oX7_cable_165 {T : Ct} {Q : Option Value → MM → Prop} {X : String → MM → Prop} (C : Cx T cX7_cable 4 RX7 1 6) (CR : CxR T 6 82) (CX : CxX T) (hr : T.2.2.2.2.2.2.2.2.1.sig.returnType = (some .int)) (hnm : T.2.2.2.2.2.2.2.2.1.name = "cable") {nx : Nat → Kt} (hn : ∀ pc, Sd T 4 (QX T Q X 1 6) 1 6 pc (nx pc)) : Sd T 4 (QX T Q X 1 6) 1 6 165 (bX7_cable_165 Q X nx) := x_up (x_rI C hr dX7_cable_165)
set_option maxRecDepth 20000 in
theorem oX7_cable_166 {T : Ct} {Q : Option Value → MM → Prop} {X : String → MM → Prop} (C : Cx T cX7_cable 4 RX7 1 6) (CR : CxR T 6 82) (CX : CxX T) (hr : T.2.2.2.2.2.2.2.2.1.sig.returnType = (some .int)) (hnm : T.2.2.2.2.2.2.2.2.1.name = "cable") {nx : Nat → Kt} (hn : ∀ pc, Sd T 4 (QX T Q X 1 6) 1 6 pc (nx pc)) : Sd T 4 (QX T Q X 1 6) 1 6 166 (bX7_cable_166 Q X nx) := x_al_n C dX7_cable_166 rfl (gf_X7_133 C dX7_cable_167 (x_ic C dX7_cable_170 (by decide) (x_aald C (kd := 15) (t0 := 5) (by decide) (by decide) (fun _ => rfl) dX7_cable_171 (gf_X7_259 C dX7_cable_172 (x_up (x_rI C hr dX7_cable_175))))))
set_option maxRecDepth 20000 in
theorem oX7_cable_176 {T : Ct} {Q : Option Value → MM → Prop} {X : String → MM → Prop} (C : Cx T cX7_cable 4 RX7 1 6) (CR : CxR T 6 82) (CX : CxX T) (hr : T.2.2.2.2.2.2.2.2.1.sig.returnType = (some .int)) (hnm : T.2.2.2.2.2.2.2.2.1.name = "cable") {nx : Nat → Kt} (hn : ∀ pc, Sd T 4 (QX T Q X 1 6) 1 6 pc (nx pc)) : Sd T 4 (QX T Q X 1 6) 1 6 176 (bX7_cable_176 Q X nx) := x_al_n C dX7_cable_176 rfl (gf_X7_133 C dX7_cable_177 (x_ic C dX7_cable_180 (by decide) (x_aald C (kd := 15) (t0 := 5) (by decide) (by decide) (fun _ => rfl) dX7_cable_181 (gf_X7_259 C dX7_cable_182 (x_up (x_rI C hr dX7_cable_185))))))
set_option maxRecDepth 20000 in
theorem oX7_cable_186 {T : Ct} {Q : Option Value → MM → Prop} {X : String → MM → Prop} (C : Cx T cX7_cable 4 RX7 1 6) (CR : CxR T 6 82) (CX : CxX T) (hr : T.2.2.2.2.2.2.2.2.1.sig.returnType = (some .int)) (hnm : T.2.2.2.2.2.2.2.2.1.name = "cable") {nx : Nat → Kt} (hn : ∀ pc, Sd T 4 (QX T Q X 1 6) 1 6 pc (nx pc)) : Sd T 4 (QX T Q X 1 6) 1 6 186 (bX7_cable_186 Q X nx) := x_al_n C dX7_cable_186 rfl (gf_X7_133 C dX7_cable_187 (x_ic C dX7_cable_190 (by decide) (x_aald C (kd := 15) (t0 := 5) (by decide) (by decide) (fun _ => rfl) dX7_cable_191 (gf_X7_262 C dX7_cable_192 (x_up (x_rI C hr dX7_cable_195))))))
set_option maxRecDepth 20000 in
theorem oX7_cable_196 {T : Ct} {Q : Option Value → MM → Prop} {X : String → MM → Prop} (C : Cx T cX7_cable 4 RX7 1 6) (CR : CxR T 6 82) (CX : CxX T) (hr : T.2.2.2.2.2.2.2.2.1.sig.returnType = (some .int)) (hnm : T.2.2.2.2.2.2.2.2.1.name = "cable") {nx : Nat → Kt} (hn : ∀ pc, Sd T 4 (QX T Q X 1 6) 1 6 pc (nx pc)) : Sd T 4 (QX T Q X 1 6) 1 6 196 (bX7_cable_196 Q X nx) := x_al_n C dX7_cable_196 rfl (gf_X7_133 C dX7_cable_197 (x_ic C dX7_cable_200 (by decide) (x_aald C (kd := 15) (t0 := 5) (by decide) (by decide) (fun _ => rfl) dX7_cable_201 (gf_X7_262 C dX7_cable_202 (x_up (x_rI C hr dX7_cable_205))))))
set_option maxRecDepth 20000 in
theorem oX7_cable_206 {T : Ct} {Q : Option Value → MM → Prop} {X : String → MM → Prop} (C : Cx T cX7_cable 4 RX7 1 6) (CR : CxR T 6 82) (CX : CxX T) (hr : T.2.2.2.2.2.2.2.2.1.sig.returnType = (some .int)) (hnm : T.2.2.2.2.2.2.2.2.1.name = "cable") {nx : Nat → Kt} (hn : ∀ pc, Sd T 4 (QX T Q X 1 6) 1 6 pc (nx pc)) : Sd T 4 (QX T Q X 1 6) 1 6 206 (bX7_cable_206 Q X nx) := x_ic C dX7_cable_206 (by decide) (x_up (x_rI C hr dX7_cable_207))
set_option maxRecDepth 20000 in
theorem mX7_cable (l : Launch) (hst : l.stackTraces = false) (D : va_G) (cA : Nat → ClassId) (base : Nat) : McX l D cA base yX7_cable cX7_cable 4 (some .int) rX7_cable wX7_cable := mcX_of hst (by decide +kernel) kX7_cable (fun T Q X C CR CX hr hnm nx hn => bse_ok _ (List.forall_mem_cons.mpr ⟨oX7_cable_0 C CR CX hr hnm hn, List.forall_mem_cons.mpr ⟨oX7_cable_17 C CR CX hr hnm hn, List.forall_mem_cons.mpr ⟨oX7_cable_76 C CR CX hr hnm hn, List.forall_mem_cons.mpr ⟨oX7_cable_98 C CR CX hr hnm hn, List.forall_mem_cons.mpr ⟨oX7_cable_99 C CR CX hr hnm hn, List.forall_mem_cons.mpr ⟨oX7_cable_100 C CR CX hr hnm hn, List.forall_mem_cons.mpr ⟨oX7_cable_122 C CR CX hr hnm hn, List.forall_mem_cons.mpr ⟨oX7_cable_123 C CR CX hr hnm hn, List.forall_mem_cons.mpr ⟨oX7_cable_124 C CR CX hr hnm hn, List.forall_mem_cons.mpr ⟨oX7_cable_138 C CR CX hr hnm hn, List.forall_mem_cons.mpr ⟨oX7_cable_139 C CR CX hr hnm hn, List.forall_mem_cons.mpr ⟨oX7_cable_140 C CR CX hr hnm hn, List.forall_mem_cons.mpr ⟨oX7_cable_151 C CR CX hr hnm hn, List.forall_mem_cons.mpr ⟨oX7_cable_152 C CR CX hr hnm hn, List.forall_mem_cons.mpr ⟨oX7_cable_153 C CR CX hr hnm hn, List.forall_mem_cons.mpr ⟨oX7_cable_164 C CR CX hr hnm hn, List.forall_mem_cons.mpr ⟨oX7_cable_165 C CR CX hr hnm hn, List.forall_mem_cons.mpr ⟨oX7_cable_166 C CR CX hr hnm hn, List.forall_mem_cons.mpr ⟨oX7_cable_176 C CR CX hr hnm hn, List.forall_mem_cons.mpr ⟨oX7_cable_186 C CR CX hr hnm hn, List.forall_mem_cons.mpr ⟨oX7_cable_196 C CR CX hr hnm hn, List.forall_mem_cons.mpr ⟨oX7_cable_206 C CR CX hr hnm hn, fun _ h => nomatch h⟩⟩⟩⟩⟩⟩⟩⟩⟩⟩⟩⟩⟩⟩⟩⟩⟩⟩⟩⟩⟩⟩))
