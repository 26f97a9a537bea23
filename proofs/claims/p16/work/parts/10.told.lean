theorem dX6_init_0 : decode cX6_init 0 = .ok (.aload_n 0, 1) := by decide +kernel
theorem dX6_init_1 : decode cX6_init 1 = .ok (.invokespecial 3, 3) := by decide +kernel
theorem dX6_init_4 : decode cX6_init 4 = .ok (.return_, 1) := by decide +kernel
noncomputable def bX6_init_0 (Q : Option Value → MM → Prop) (nx : Nat → Kt) : Kt := ldA 0 (oI (rV Q))
noncomputable def kX6_init (Q : Option Value → MM → Prop) (nx : Nat → Kt) : Nat → Kt := bse [(0, bX6_init_0 Q nx)]
abbrev rX6_init : Room := { frames := 1, cells := 0, slots := 0, locals := 20 }
noncomputable def wX6_init : Mw := mw 1 kX6_init
set_option maxRecDepth 20000 in
theorem oX6_init_0 {T : Ct} {Q : Option Value → MM → Prop} (C : Cx T cX6_init 1 RX6 0 0) (CR : CxR T 1 20) (hr : T.2.2.2.2.2.2.2.2.1.sig.returnType = none) (hnm : T.2.2.2.2.2.2.2.2.1.name = "<init>") {nx : Nat → Kt} (hn : ∀ pc, Sd T 1 (QT T Q 0 0) 0 0 pc (nx pc)) : Sd T 1 (QT T Q 0 0) 0 0 0 (bX6_init_0 Q nx) := x_al_n C dX6_init_0 rfl (x_oI C CR (by decide) (by decide) ml_X6_3 im_obj co_obj dX6_init_1 (x_rV C hr dX6_init_4))
set_option maxRecDepth 20000 in
theorem mX6_init (l : Launch) (D : va_G) (cA : Nat → ClassId) (base : Nat) : Mc l D cA base yX6_init cX6_init 1 none rX6_init wX6_init := mc_of (by decide +kernel) kX6_init (fun T Q C CR hr hnm nx hn => bse_ok _ (List.forall_mem_cons.mpr ⟨oX6_init_0 C CR hr hnm hn, fun _ h => nomatch h⟩))
theorem dX6_has_0 : decode cX6_has 0 = .ok (.aload_n 0, 1) := by decide +kernel
theorem dX6_has_1 : decode cX6_has 1 = .ok (.getfield 9, 3) := by decide +kernel
theorem dX6_has_4 : decode cX6_has 4 = .ok (.iload_n 1, 1) := by decide +kernel
theorem dX6_has_5 : decode cX6_has 5 = .ok (.iand, 1) := by decide +kernel
theorem dX6_has_6 : decode cX6_has 6 = .ok (.ifCond .eq 7, 3) := by decide +kernel
theorem dX6_has_9 : decode cX6_has 9 = .ok (.iconst 1, 1) := by decide +kernel
theorem dX6_has_10 : decode cX6_has 10 = .ok (.goto 4, 3) := by decide +kernel
theorem dX6_has_13 : decode cX6_has 13 = .ok (.iconst 0, 1) := by decide +kernel
theorem dX6_has_14 : decode cX6_has 14 = .ok (.ireturn, 1) := by decide +kernel
noncomputable def bX6_has_0 (Q : Option Value → MM → Prop) (nx : Nat → Kt) : Kt := ldA 0 (gI 6 4 (ldI 1 (bop (fun x y => x &&& y) (ifz (fun x => x = 0) (nx 13) (cI 1 (nx 14))))))
noncomputable def bX6_has_13 (Q : Option Value → MM → Prop) (nx : Nat → Kt) : Kt := cI 0 (nx 14)
noncomputable def bX6_has_14 (Q : Option Value → MM → Prop) (nx : Nat → Kt) : Kt := rZ Q
noncomputable def kX6_has (Q : Option Value → MM → Prop) (nx : Nat → Kt) : Nat → Kt := bse [(0, bX6_has_0 Q nx), (13, bX6_has_13 Q nx), (14, bX6_has_14 Q nx)]
abbrev rX6_has : Room := { frames := 0, cells := 0, slots := 0, locals := 0 }
noncomputable def wX6_has : Mw := mw 2 kX6_has
set_option maxRecDepth 20000 in
theorem oX6_has_0 {T : Ct} {Q : Option Value → MM → Prop} (C : Cx T cX6_has 2 RX6 0 0) (CR : CxR T 0 0) (hr : T.2.2.2.2.2.2.2.2.1.sig.returnType = (some .boolean)) (hnm : T.2.2.2.2.2.2.2.2.1.name = "has") {nx : Nat → Kt} (hn : ∀ pc, Sd T 2 (QT T Q 0 0) 0 0 pc (nx pc)) : Sd T 2 (QT T Q 0 0) 0 0 0 (bX6_has_0 Q nx) := x_al_n C dX6_has_0 rfl (gf_X6_9 C dX6_has_1 (x_il_n C dX6_has_4 rfl (x_iand C dX6_has_5 (x_if_eq C (hn 13) dX6_has_6 (by decide) (x_ic C dX6_has_9 (by decide) (x_goto C (hn 14) dX6_has_10 (by decide)))))))
set_option maxRecDepth 20000 in
theorem oX6_has_13 {T : Ct} {Q : Option Value → MM → Prop} (C : Cx T cX6_has 2 RX6 0 0) (CR : CxR T 0 0) (hr : T.2.2.2.2.2.2.2.2.1.sig.returnType = (some .boolean)) (hnm : T.2.2.2.2.2.2.2.2.1.name = "has") {nx : Nat → Kt} (hn : ∀ pc, Sd T 2 (QT T Q 0 0) 0 0 pc (nx pc)) : Sd T 2 (QT T Q 0 0) 0 0 13 (bX6_has_13 Q nx) := x_ic C dX6_has_13 (by decide) (hn 14)
set_option maxRecDepth 20000 in
theorem oX6_has_14 {T : Ct} {Q : Option Value → MM → Prop} (C : Cx T cX6_has 2 RX6 0 0) (CR : CxR T 0 0) (hr : T.2.2.2.2.2.2.2.2.1.sig.returnType = (some .boolean)) (hnm : T.2.2.2.2.2.2.2.2.1.name = "has") {nx : Nat → Kt} (hn : ∀ pc, Sd T 2 (QT T Q 0 0) 0 0 pc (nx pc)) : Sd T 2 (QT T Q 0 0) 0 0 14 (bX6_has_14 Q nx) := x_rZ C hr dX6_has_14
set_option maxRecDepth 20000 in
theorem mX6_has (l : Launch) (D : va_G) (cA : Nat → ClassId) (base : Nat) : Mc l D cA base yX6_has cX6_has 2 (some .boolean) rX6_has wX6_has := mc_of (by decide +kernel) kX6_has (fun T Q C CR hr hnm nx hn => bse_ok _ (List.forall_mem_cons.mpr ⟨oX6_has_0 C CR hr hnm hn, List.forall_mem_cons.mpr ⟨oX6_has_13 C CR hr hnm hn, List.forall_mem_cons.mpr ⟨oX6_has_14 C CR hr hnm hn, fun _ h => nomatch h⟩⟩⟩))
theorem dX6_clear_0 : decode cX6_clear 0 = .ok (.aload_n 0, 1) := by decide +kernel
theorem dX6_clear_1 : decode cX6_clear 1 = .ok (.iconst 0, 1) := by decide +kernel
theorem dX6_clear_2 : decode cX6_clear 2 = .ok (.putfield 15, 3) := by decide +kernel
theorem dX6_clear_5 : decode cX6_clear 5 = .ok (.aload_n 0, 1) := by decide +kernel
theorem dX6_clear_6 : decode cX6_clear 6 = .ok (.iconst 0, 1) := by decide +kernel
theorem dX6_clear_7 : decode cX6_clear 7 = .ok (.putfield 18, 3) := by decide +kernel
theorem dX6_clear_10 : decode cX6_clear 10 = .ok (.aload_n 0, 1) := by decide +kernel
theorem dX6_clear_11 : decode cX6_clear 11 = .ok (.iconst 0, 1) := by decide +kernel
theorem dX6_clear_12 : decode cX6_clear 12 = .ok (.putfield 21, 3) := by decide +kernel
theorem dX6_clear_15 : decode cX6_clear 15 = .ok (.aload_n 0, 1) := by decide +kernel
theorem dX6_clear_16 : decode cX6_clear 16 = .ok (.iconst 0, 1) := by decide +kernel
theorem dX6_clear_17 : decode cX6_clear 17 = .ok (.putfield 24, 3) := by decide +kernel
theorem dX6_clear_20 : decode cX6_clear 20 = .ok (.aload_n 0, 1) := by decide +kernel
theorem dX6_clear_21 : decode cX6_clear 21 = .ok (.iconst 0, 1) := by decide +kernel
theorem dX6_clear_22 : decode cX6_clear 22 = .ok (.putfield 9, 3) := by decide +kernel
theorem dX6_clear_25 : decode cX6_clear 25 = .ok (.return_, 1) := by decide +kernel
noncomputable def bX6_clear_0 (Q : Option Value → MM → Prop) (nx : Nat → Kt) : Kt := ldA 0 (cI 0 (tI 6 0 (ldA 0 (cI 0 (tI 6 1 (ldA 0 (cI 0 (tI 6 2 (ldA 0 (cI 0 (tI 6 3 (ldA 0 (cI 0 (tI 6 4 (rV Q)))))))))))))))
noncomputable def kX6_clear (Q : Option Value → MM → Prop) (nx : Nat → Kt) : Nat → Kt := bse [(0, bX6_clear_0 Q nx)]
abbrev rX6_clear : Room := { frames := 0, cells := 0, slots := 0, locals := 0 }
noncomputable def wX6_clear : Mw := mw 1 kX6_clear
set_option maxRecDepth 20000 in
theorem oX6_clear_0 {T : Ct} {Q : Option Value → MM → Prop} (C : Cx T cX6_clear 1 RX6 0 0) (CR : CxR T 0 0) (hr : T.2.2.2.2.2.2.2.2.1.sig.returnType = none) (hnm : T.2.2.2.2.2.2.2.2.1.name = "clear") {nx : Nat → Kt} (hn : ∀ pc, Sd T 1 (QT T Q 0 0) 0 0 pc (nx pc)) : Sd T 1 (QT T Q 0 0) 0 0 0 (bX6_clear_0 Q nx) := x_al_n C dX6_clear_0 rfl (x_ic C dX6_clear_1 (by decide) (pf_X6_15 C dX6_clear_2 (x_al_n C dX6_clear_5 rfl (x_ic C dX6_clear_6 (by decide) (pf_X6_18 C dX6_clear_7 (x_al_n C dX6_clear_10 rfl (x_ic C dX6_clear_11 (by decide) (pf_X6_21 C dX6_clear_12 (x_al_n C dX6_clear_15 rfl (x_ic C dX6_clear_16 (by decide) (pf_X6_24 C dX6_clear_17 (x_al_n C dX6_clear_20 rfl (x_ic C dX6_clear_21 (by decide) (pf_X6_9 C dX6_clear_22 (x_rV C hr dX6_clear_25)))))))))))))))
set_option maxRecDepth 20000 in
theorem mX6_clear (l : Launch) (D : va_G) (cA : Nat → ClassId) (base : Nat) : Mc l D cA base yX6_clear cX6_clear 1 none rX6_clear wX6_clear := mc_of (by decide +kernel) kX6_clear (fun T Q C CR hr hnm nx hn => bse_ok _ (List.forall_mem_cons.mpr ⟨oX6_clear_0 C CR hr hnm hn, fun _ h => nomatch h⟩))
theorem dX6_copyFrom_0 : decode cX6_copyFrom 0 = .ok (.aload_n 0, 1) := by decide +kernel
theorem dX6_copyFrom_1 : decode cX6_copyFrom 1 = .ok (.aload_n 1, 1) := by decide +kernel
theorem dX6_copyFrom_2 : decode cX6_copyFrom 2 = .ok (.getfield 15, 3) := by decide +kernel
theorem dX6_copyFrom_5 : decode cX6_copyFrom 5 = .ok (.putfield 15, 3) := by decide +kernel
theorem dX6_copyFrom_8 : decode cX6_copyFrom 8 = .ok (.aload_n 0, 1) := by decide +kernel
theorem dX6_copyFrom_9 : decode cX6_copyFrom 9 = .ok (.aload_n 1, 1) := by decide +kernel
theorem dX6_copyFrom_10 : decode cX6_copyFrom 10 = .ok (.getfield 18, 3) := by decide +kernel
theorem dX6_copyFrom_13 : decode cX6_copyFrom 13 = .ok (.putfield 18, 3) := by decide +kernel
theorem dX6_copyFrom_16 : decode cX6_copyFrom 16 = .ok (.aload_n 0, 1) := by decide +kernel
theorem dX6_copyFrom_17 : decode cX6_copyFrom 17 = .ok (.aload_n 1, 1) := by decide +kernel
theorem dX6_copyFrom_18 : decode cX6_copyFrom 18 = .ok (.getfield 21, 3) := by decide +kernel
theorem dX6_copyFrom_21 : decode cX6_copyFrom 21 = .ok (.putfield 21, 3) := by decide +kernel
theorem dX6_copyFrom_24 : decode cX6_copyFrom 24 = .ok (.aload_n 0, 1) := by decide +kernel
theorem dX6_copyFrom_25 : decode cX6_copyFrom 25 = .ok (.aload_n 1, 1) := by decide +kernel
theorem dX6_copyFrom_26 : decode cX6_copyFrom 26 = .ok (.getfield 24, 3) := by decide +kernel
theorem dX6_copyFrom_29 : decode cX6_copyFrom 29 = .ok (.putfield 24, 3) := by decide +kernel
theorem dX6_copyFrom_32 : decode cX6_copyFrom 32 = .ok (.aload_n 0, 1) := by decide +kernel
theorem dX6_copyFrom_33 : decode cX6_copyFrom 33 = .ok (.aload_n 1, 1) := by decide +kernel
theorem dX6_copyFrom_34 : decode cX6_copyFrom 34 = .ok (.getfield 9, 3) := by decide +kernel
theorem dX6_copyFrom_37 : decode cX6_copyFrom 37 = .ok (.putfield 9, 3) := by decide +kernel
theorem dX6_copyFrom_40 : decode cX6_copyFrom 40 = .ok (.return_, 1) := by decide +kernel
noncomputable def bX6_copyFrom_0 (Q : Option Value → MM → Prop) (nx : Nat → Kt) : Kt := ldA 0 (ldA 1 (gI 6 0 (tI 6 0 (ldA 0 (ldA 1 (gI 6 1 (tI 6 1 (ldA 0 (ldA 1 (gI 6 2 (tI 6 2 (ldA 0 (ldA 1 (gI 6 3 (tI 6 3 (ldA 0 (ldA 1 (gI 6 4 (tI 6 4 (rV Q))))))))))))))))))))
noncomputable def kX6_copyFrom (Q : Option Value → MM → Prop) (nx : Nat → Kt) : Nat → Kt := bse [(0, bX6_copyFrom_0 Q nx)]
abbrev rX6_copyFrom : Room := { frames := 0, cells := 0, slots := 0, locals := 0 }
noncomputable def wX6_copyFrom : Mw := mw 2 kX6_copyFrom
set_option maxRecDepth 20000 in
theorem oX6_copyFrom_0 {T : Ct} {Q : Option Value → MM → Prop} (C : Cx T cX6_copyFrom 2 RX6 0 0) (CR : CxR T 0 0) (hr : T.2.2.2.2.2.2.2.2.1.sig.returnType = none) (hnm : T.2.2.2.2.2.2.2.2.1.name = "copyFrom") {nx : Nat → Kt} (hn : ∀ pc, Sd T 2 (QT T Q 0 0) 0 0 pc (nx pc)) : Sd T 2 (QT T Q 0 0) 0 0 0 (bX6_copyFrom_0 Q nx) := x_al_n C dX6_copyFrom_0 rfl (x_al_n C dX6_copyFrom_1 rfl (gf_X6_15 C dX6_copyFrom_2 (pf_X6_15 C dX6_copyFrom_5 (x_al_n C dX6_copyFrom_8 rfl (x_al_n C dX6_copyFrom_9 rfl (gf_X6_18 C dX6_copyFrom_10 (pf_X6_18 C dX6_copyFrom_13 (x_al_n C dX6_copyFrom_16 rfl (x_al_n C dX6_copyFrom_17 rfl (gf_X6_21 C dX6_copyFrom_18 (pf_X6_21 C dX6_copyFrom_21 (x_al_n C dX6_copyFrom_24 rfl (x_al_n C dX6_copyFrom_25 rfl (gf_X6_24 C dX6_copyFrom_26 (pf_X6_24 C dX6_copyFrom_29 (x_al_n C dX6_copyFrom_32 rfl (x_al_n C dX6_copyFrom_33 rfl (gf_X6_9 C dX6_copyFrom_34 (pf_X6_9 C dX6_copyFrom_37 (x_rV C hr dX6_copyFrom_40))))))))))))))))))))
set_option maxRecDepth 20000 in
theorem mX6_copyFrom (l : Launch) (D : va_G) (cA : Nat → ClassId) (base : Nat) : Mc l D cA base yX6_copyFrom cX6_copyFrom 2 none rX6_copyFrom wX6_copyFrom := mc_of (by decide +kernel) kX6_copyFrom (fun T Q C CR hr hnm nx hn => bse_ok _ (List.forall_mem_cons.mpr ⟨oX6_copyFrom_0 C CR hr hnm hn, fun _ h => nomatch h⟩))
theorem dX6_setBits_0 : decode cX6_setBits 0 = .ok (.aload_n 0, 1) := by decide +kernel
theorem dX6_setBits_1 : decode cX6_setBits 1 = .ok (.iload_n 2, 1) := by decide +kernel
theorem dX6_setBits_2 : decode cX6_setBits 2 = .ok (.ifCond .eq 12, 3) := by decide +kernel
theorem dX6_setBits_5 : decode cX6_setBits 5 = .ok (.aload_n 0, 1) := by decide +kernel
theorem dX6_setBits_6 : decode cX6_setBits 6 = .ok (.getfield 9, 3) := by decide +kernel
theorem dX6_setBits_9 : decode cX6_setBits 9 = .ok (.iload_n 1, 1) := by decide +kernel
theorem dX6_setBits_10 : decode cX6_setBits 10 = .ok (.ior, 1) := by decide +kernel
theorem dX6_setBits_11 : decode cX6_setBits 11 = .ok (.goto 11, 3) := by decide +kernel
theorem dX6_setBits_14 : decode cX6_setBits 14 = .ok (.aload_n 0, 1) := by decide +kernel
theorem dX6_setBits_15 : decode cX6_setBits 15 = .ok (.getfield 9, 3) := by decide +kernel
theorem dX6_setBits_18 : decode cX6_setBits 18 = .ok (.iload_n 1, 1) := by decide +kernel
theorem dX6_setBits_19 : decode cX6_setBits 19 = .ok (.iconst (-1), 1) := by decide +kernel
theorem dX6_setBits_20 : decode cX6_setBits 20 = .ok (.ixor, 1) := by decide +kernel
theorem dX6_setBits_21 : decode cX6_setBits 21 = .ok (.iand, 1) := by decide +kernel
theorem dX6_setBits_22 : decode cX6_setBits 22 = .ok (.putfield 9, 3) := by decide +kernel
theorem dX6_setBits_25 : decode cX6_setBits 25 = .ok (.return_, 1) := by decide +kernel
noncomputable def bX6_setBits_0 (Q : Option Value → MM → Prop) (nx : Nat → Kt) : Kt := ldA 0 (ldI 2 (ifz (fun x => x = 0) (nx 14) (ldA 0 (gI 6 4 (ldI 1 (bop (fun x y => x ||| y) (nx 22)))))))
noncomputable def bX6_setBits_14 (Q : Option Value → MM → Prop) (nx : Nat → Kt) : Kt := ldA 0 (gI 6 4 (ldI 1 (cI (-1) (bop (fun x y => x ^^^ y) (bop (fun x y => x &&& y) (nx 22))))))
noncomputable def bX6_setBits_22 (Q : Option Value → MM → Prop) (nx : Nat → Kt) : Kt := tI 6 4 (rV Q)
noncomputable def kX6_setBits (Q : Option Value → MM → Prop) (nx : Nat → Kt) : Nat → Kt := bse [(0, bX6_setBits_0 Q nx), (14, bX6_setBits_14 Q nx), (22, bX6_setBits_22 Q nx)]
abbrev rX6_setBits : Room := { frames := 0, cells := 0, slots := 0, locals := 0 }
noncomputable def wX6_setBits : Mw := mw 3 kX6_setBits
set_option maxRecDepth 20000 in
theorem oX6_setBits_0 {T : Ct} {Q : Option Value → MM → Prop} (C : Cx T cX6_setBits 3 RX6 0 0) (CR : CxR T 0 0) (hr : T.2.2.2.2.2.2.2.2.1.sig.returnType = none) (hnm : T.2.2.2.2.2.2.2.2.1.name = "setBits") {nx : Nat → Kt} (hn : ∀ pc, Sd T 3 (QT T Q 0 0) 0 0 pc (nx pc)) : Sd T 3 (QT T Q 0 0) 0 0 0 (bX6_setBits_0 Q nx) := x_al_n C dX6_setBits_0 rfl (x_il_n C dX6_setBits_1 rfl (x_if_eq C (hn 14) dX6_setBits_2 (by decide) (x_al_n C dX6_setBits_5 rfl (gf_X6_9 C dX6_setBits_6 (x_il_n C dX6_setBits_9 rfl (x_ior C dX6_setBits_10 (x_goto C (hn 22) dX6_setBits_11 (by decide))))))))
set_option maxRecDepth 20000 in
theorem oX6_setBits_14 {T : Ct} {Q : Option Value → MM → Prop} (C : Cx T cX6_setBits 3 RX6 0 0) (CR : CxR T 0 0) (hr : T.2.2.2.2.2.2.2.2.1.sig.returnType = none) (hnm : T.2.2.2.2.2.2.2.2.1.name = "setBits") {nx : Nat → Kt} (hn : ∀ pc, Sd T 3 (QT T Q 0 0) 0 0 pc (nx pc)) : Sd T 3 (QT T Q 0 0) 0 0 14 (bX6_setBits_14 Q nx) := x_al_n C dX6_setBits_14 rfl (gf_X6_9 C dX6_setBits_15 (x_il_n C dX6_setBits_18 rfl (x_ic C dX6_setBits_19 (by decide) (x_ixor C dX6_setBits_20 (x_iand C dX6_setBits_21 (hn 22))))))
set_option maxRecDepth 20000 in
theorem oX6_setBits_22 {T : Ct} {Q : Option Value → MM → Prop} (C : Cx T cX6_setBits 3 RX6 0 0) (CR : CxR T 0 0) (hr : T.2.2.2.2.2.2.2.2.1.sig.returnType = none) (hnm : T.2.2.2.2.2.2.2.2.1.name = "setBits") {nx : Nat → Kt} (hn : ∀ pc, Sd T 3 (QT T Q 0 0) 0 0 pc (nx pc)) : Sd T 3 (QT T Q 0 0) 0 0 22 (bX6_setBits_22 Q nx) := pf_X6_9 C dX6_setBits_22 (x_rV C hr dX6_setBits_25)
set_option maxRecDepth 20000 in
theorem mX6_setBits (l : Launch) (D : va_G) (cA : Nat → ClassId) (base : Nat) : Mc l D cA base yX6_setBits cX6_setBits 3 none rX6_setBits wX6_setBits := mc_of (by decide +kernel) kX6_setBits (fun T Q C CR hr hnm nx hn => bse_ok _ (List.forall_mem_cons.mpr ⟨oX6_setBits_0 C CR hr hnm hn, List.forall_mem_cons.mpr ⟨oX6_setBits_14 C CR hr hnm hn, List.forall_mem_cons.mpr ⟨oX6_setBits_22 C CR hr hnm hn, fun _ h => nomatch h⟩⟩⟩))
theorem dX6_namesSame_0 : decode cX6_namesSame 0 = .ok (.aload_n 0, 1) := by decide +kernel
theorem dX6_namesSame_1 : decode cX6_namesSame 1 = .ok (.getfield 15, 3) := by decide +kernel
theorem dX6_namesSame_4 : decode cX6_namesSame 4 = .ok (.aload_n 1, 1) := by decide +kernel
theorem dX6_namesSame_5 : decode cX6_namesSame 5 = .ok (.getfield 15, 3) := by decide +kernel
theorem dX6_namesSame_8 : decode cX6_namesSame 8 = .ok (.if_icmp .ne 40, 3) := by decide +kernel
theorem dX6_namesSame_11 : decode cX6_namesSame 11 = .ok (.aload_n 0, 1) := by decide +kernel
theorem dX6_namesSame_12 : decode cX6_namesSame 12 = .ok (.getfield 18, 3) := by decide +kernel
theorem dX6_namesSame_15 : decode cX6_namesSame 15 = .ok (.aload_n 1, 1) := by decide +kernel
theorem dX6_namesSame_16 : decode cX6_namesSame 16 = .ok (.getfield 18, 3) := by decide +kernel
theorem dX6_namesSame_19 : decode cX6_namesSame 19 = .ok (.if_icmp .ne 29, 3) := by decide +kernel
theorem dX6_namesSame_22 : decode cX6_namesSame 22 = .ok (.aload_n 0, 1) := by decide +kernel
theorem dX6_namesSame_23 : decode cX6_namesSame 23 = .ok (.getfield 21, 3) := by decide +kernel
theorem dX6_namesSame_26 : decode cX6_namesSame 26 = .ok (.aload_n 1, 1) := by decide +kernel
theorem dX6_namesSame_27 : decode cX6_namesSame 27 = .ok (.getfield 21, 3) := by decide +kernel
theorem dX6_namesSame_30 : decode cX6_namesSame 30 = .ok (.if_icmp .ne 18, 3) := by decide +kernel
theorem dX6_namesSame_33 : decode cX6_namesSame 33 = .ok (.aload_n 0, 1) := by decide +kernel
theorem dX6_namesSame_34 : decode cX6_namesSame 34 = .ok (.getfield 24, 3) := by decide +kernel
theorem dX6_namesSame_37 : decode cX6_namesSame 37 = .ok (.aload_n 1, 1) := by decide +kernel
theorem dX6_namesSame_38 : decode cX6_namesSame 38 = .ok (.getfield 24, 3) := by decide +kernel
theorem dX6_namesSame_41 : decode cX6_namesSame 41 = .ok (.if_icmp .ne 7, 3) := by decide +kernel
theorem dX6_namesSame_44 : decode cX6_namesSame 44 = .ok (.iconst 1, 1) := by decide +kernel
theorem dX6_namesSame_45 : decode cX6_namesSame 45 = .ok (.goto 4, 3) := by decide +kernel
theorem dX6_namesSame_48 : decode cX6_namesSame 48 = .ok (.iconst 0, 1) := by decide +kernel
theorem dX6_namesSame_49 : decode cX6_namesSame 49 = .ok (.ireturn, 1) := by decide +kernel
noncomputable def bX6_namesSame_0 (Q : Option Value → MM → Prop) (nx : Nat → Kt) : Kt := ldA 0 (gI 6 0 (ldA 1 (gI 6 0 (ifc (fun x y => x = y) (ldA 0 (gI 6 1 (ldA 1 (gI 6 1 (ifc (fun x y => x = y) (ldA 0 (gI 6 2 (ldA 1 (gI 6 2 (ifc (fun x y => x = y) (ldA 0 (gI 6 3 (ldA 1 (gI 6 3 (ifc (fun x y => x = y) (cI 1 (nx 49)) (nx 48)))))) (nx 48)))))) (nx 48)))))) (nx 48)))))
noncomputable def bX6_namesSame_48 (Q : Option Value → MM → Prop) (nx : Nat → Kt) : Kt := cI 0 (nx 49)
noncomputable def bX6_namesSame_49 (Q : Option Value → MM → Prop) (nx : Nat → Kt) : Kt := rZ Q
noncomputable def kX6_namesSame (Q : Option Value → MM → Prop) (nx : Nat → Kt) : Nat → Kt := bse [(0, bX6_namesSame_0 Q nx), (48, bX6_namesSame_48 Q nx), (49, bX6_namesSame_49 Q nx)]
abbrev rX6_namesSame : Room := { frames := 0, cells := 0, slots := 0, locals := 0 }
noncomputable def wX6_namesSame : Mw := mw 2 kX6_namesSame
set_option maxRecDepth 20000 in
theorem oX6_namesSame_0 {T : Ct} {Q : Option Value → MM → Prop} (C : Cx T cX6_namesSame 2 RX6 0 0) (CR : CxR T 0 0) (hr : T.2.2.2.2.2.2.2.2.1.sig.returnType = (some .boolean)) (hnm : T.2.2.2.2.2.2.2.2.1.name = "namesSame") {nx : Nat → Kt} (hn : ∀ pc, Sd T 2 (QT T Q 0 0) 0 0 pc (nx pc)) : Sd T 2 (QT T Q 0 0) 0 0 0 (bX6_namesSame_0 Q nx) := x_al_n C dX6_namesSame_0 rfl (gf_X6_15 C dX6_namesSame_1 (x_al_n C dX6_namesSame_4 rfl (gf_X6_15 C dX6_namesSame_5 (x_ic_ne C (hn 48) dX6_namesSame_8 (by decide) (x_al_n C dX6_namesSame_11 rfl (gf_X6_18 C dX6_namesSame_12 (x_al_n C dX6_namesSame_15 rfl (gf_X6_18 C dX6_namesSame_16 (x_ic_ne C (hn 48) dX6_namesSame_19 (by decide) (x_al_n C dX6_namesSame_22 rfl (gf_X6_21 C dX6_namesSame_23 (x_al_n C dX6_namesSame_26 rfl (gf_X6_21 C dX6_namesSame_27 (x_ic_ne C (hn 48) dX6_namesSame_30 (by decide) (x_al_n C dX6_namesSame_33 rfl (gf_X6_24 C dX6_namesSame_34 (x_al_n C dX6_namesSame_37 rfl (gf_X6_24 C dX6_namesSame_38 (x_ic_ne C (hn 48) dX6_namesSame_41 (by decide) (x_ic C dX6_namesSame_44 (by decide) (x_goto C (hn 49) dX6_namesSame_45 (by decide))))))))))))))))))))))
set_option maxRecDepth 20000 in
theorem oX6_namesSame_48 {T : Ct} {Q : Option Value → MM → Prop} (C : Cx T cX6_namesSame 2 RX6 0 0) (CR : CxR T 0 0) (hr : T.2.2.2.2.2.2.2.2.1.sig.returnType = (some .boolean)) (hnm : T.2.2.2.2.2.2.2.2.1.name = "namesSame") {nx : Nat → Kt} (hn : ∀ pc, Sd T 2 (QT T Q 0 0) 0 0 pc (nx pc)) : Sd T 2 (QT T Q 0 0) 0 0 48 (bX6_namesSame_48 Q nx) := x_ic C dX6_namesSame_48 (by decide) (hn 49)
set_option maxRecDepth 20000 in
theorem oX6_namesSame_49 {T : Ct} {Q : Option Value → MM → Prop} (C : Cx T cX6_namesSame 2 RX6 0 0) (CR : CxR T 0 0) (hr : T.2.2.2.2.2.2.2.2.1.sig.returnType = (some .boolean)) (hnm : T.2.2.2.2.2.2.2.2.1.name = "namesSame") {nx : Nat → Kt} (hn : ∀ pc, Sd T 2 (QT T Q 0 0) 0 0 pc (nx pc)) : Sd T 2 (QT T Q 0 0) 0 0 49 (bX6_namesSame_49 Q nx) := x_rZ C hr dX6_namesSame_49
set_option maxRecDepth 20000 in
theorem mX6_namesSame (l : Launch) (D : va_G) (cA : Nat → ClassId) (base : Nat) : Mc l D cA base yX6_namesSame cX6_namesSame 2 (some .boolean) rX6_namesSame wX6_namesSame := mc_of (by decide +kernel) kX6_namesSame (fun T Q C CR hr hnm nx hn => bse_ok _ (List.forall_mem_cons.mpr ⟨oX6_namesSame_0 C CR hr hnm hn, List.forall_mem_cons.mpr ⟨oX6_namesSame_48 C CR hr hnm hn, List.forall_mem_cons.mpr ⟨oX6_namesSame_49 C CR hr hnm hn, fun _ h => nomatch h⟩⟩⟩))
theorem dX6_isSame_0 : decode cX6_isSame 0 = .ok (.aload_n 0, 1) := by decide +kernel
theorem dX6_isSame_1 : decode cX6_isSame 1 = .ok (.aload_n 1, 1) := by decide +kernel
theorem dX6_isSame_2 : decode cX6_isSame 2 = .ok (.invokevirtual 27, 3) := by decide +kernel
theorem dX6_isSame_5 : decode cX6_isSame 5 = .ok (.ifCond .eq 18, 3) := by decide +kernel
theorem dX6_isSame_8 : decode cX6_isSame 8 = .ok (.aload_n 0, 1) := by decide +kernel
theorem dX6_isSame_9 : decode cX6_isSame 9 = .ok (.getfield 9, 3) := by decide +kernel
theorem dX6_isSame_12 : decode cX6_isSame 12 = .ok (.aload_n 1, 1) := by decide +kernel
theorem dX6_isSame_13 : decode cX6_isSame 13 = .ok (.getfield 9, 3) := by decide +kernel
theorem dX6_isSame_16 : decode cX6_isSame 16 = .ok (.if_icmp .ne 7, 3) := by decide +kernel
theorem dX6_isSame_19 : decode cX6_isSame 19 = .ok (.iconst 1, 1) := by decide +kernel
theorem dX6_isSame_20 : decode cX6_isSame 20 = .ok (.goto 4, 3) := by decide +kernel
theorem dX6_isSame_23 : decode cX6_isSame 23 = .ok (.iconst 0, 1) := by decide +kernel
theorem dX6_isSame_24 : decode cX6_isSame 24 = .ok (.ireturn, 1) := by decide +kernel
noncomputable def bX6_isSame_0 (Q : Option Value → MM → Prop) (nx : Nat → Kt) : Kt := ldA 0 (ldA 1 (cV 1 6 wX6_namesSame 0 0 0 0 (ifz (fun x => x = 0) (nx 23) (ldA 0 (gI 6 4 (ldA 1 (gI 6 4 (ifc (fun x y => x = y) (cI 1 (nx 24)) (nx 23)))))))))
noncomputable def bX6_isSame_23 (Q : Option Value → MM → Prop) (nx : Nat → Kt) : Kt := cI 0 (nx 24)
noncomputable def bX6_isSame_24 (Q : Option Value → MM → Prop) (nx : Nat → Kt) : Kt := rZ Q
noncomputable def kX6_isSame (Q : Option Value → MM → Prop) (nx : Nat → Kt) : Nat → Kt := bse [(0, bX6_isSame_0 Q nx), (23, bX6_isSame_23 Q nx), (24, bX6_isSame_24 Q nx)]
abbrev rX6_isSame : Room := { frames := 1, cells := 0, slots := 0, locals := 21 }
noncomputable def wX6_isSame : Mw := mw 2 kX6_isSame
set_option maxRecDepth 20000 in
theorem oX6_isSame_0 {T : Ct} {Q : Option Value → MM → Prop} (C : Cx T cX6_isSame 2 RX6 0 0) (CR : CxR T 1 21) (hr : T.2.2.2.2.2.2.2.2.1.sig.returnType = (some .boolean)) (hnm : T.2.2.2.2.2.2.2.2.1.name = "isSame") {nx : Nat → Kt} (hn : ∀ pc, Sd T 2 (QT T Q 0 0) 0 0 pc (nx pc)) : Sd T 2 (QT T Q 0 0) 0 0 0 (bX6_isSame_0 Q nx) := x_al_n C dX6_isSame_0 rfl (x_al_n C dX6_isSame_1 rfl (x_cV C CR mX6_namesSame ⟨co_X6_namesSame, init_X6, md_X6_namesSame, by decide, by decide⟩ (ci := 6) (TX := TX6) (N := 5) rfl (by decide) ml_X6_27 im_X6_namesSame se_X6_namesSame dX6_isSame_2 (x_if_eq C (hn 23) dX6_isSame_5 (by decide) (x_al_n C dX6_isSame_8 rfl (gf_X6_9 C dX6_isSame_9 (x_al_n C dX6_isSame_12 rfl (gf_X6_9 C dX6_isSame_13 (x_ic_ne C (hn 23) dX6_isSame_16 (by decide) (x_ic C dX6_isSame_19 (by decide) (x_goto C (hn 24) dX6_isSame_20 (by decide)))))))))))
set_option maxRecDepth 20000 in
theorem oX6_isSame_23 {T : Ct} {Q : Option Value → MM → Prop} (C : Cx T cX6_isSame 2 RX6 0 0) (CR : CxR T 1 21) (hr : T.2.2.2.2.2.2.2.2.1.sig.returnType = (some .boolean)) (hnm : T.2.2.2.2.2.2.2.2.1.name = "isSame") {nx : Nat → Kt} (hn : ∀ pc, Sd T 2 (QT T Q 0 0) 0 0 pc (nx pc)) : Sd T 2 (QT T Q 0 0) 0 0 23 (bX6_isSame_23 Q nx) := x_ic C dX6_isSame_23 (by decide) (hn 24)
set_option maxRecDepth 20000 in
theorem oX6_isSame_24 {T : Ct} {Q : Option Value → MM → Prop} (C : Cx T cX6_isSame 2 RX6 0 0) (CR : CxR T 1 21) (hr : T.2.2.2.2.2.2.2.2.1.sig.returnType = (some .boolean)) (hnm : T.2.2.2.2.2.2.2.2.1.name = "isSame") {nx : Nat → Kt} (hn : ∀ pc, Sd T 2 (QT T Q 0 0) 0 0 pc (nx pc)) : Sd T 2 (QT T Q 0 0) 0 0 24 (bX6_isSame_24 Q nx) := x_rZ C hr dX6_isSame_24
set_option maxRecDepth 20000 in
theorem mX6_isSame (l : Launch) (D : va_G) (cA : Nat → ClassId) (base : Nat) : Mc l D cA base yX6_isSame cX6_isSame 2 (some .boolean) rX6_isSame wX6_isSame := mc_of (by decide +kernel) kX6_isSame (fun T Q C CR hr hnm nx hn => bse_ok _ (List.forall_mem_cons.mpr ⟨oX6_isSame_0 C CR hr hnm hn, List.forall_mem_cons.mpr ⟨oX6_isSame_23 C CR hr hnm hn, List.forall_mem_cons.mpr ⟨oX6_isSame_24 C CR hr hnm hn, fun _ h => nomatch h⟩⟩⟩))
theorem dX6_byteAt_0 : decode cX6_byteAt 0 = .ok (.iload_n 1, 1) := by decide +kernel
theorem dX6_byteAt_1 : decode cX6_byteAt 1 = .ok (.iconst 4, 1) := by decide +kernel
theorem dX6_byteAt_2 : decode cX6_byteAt 2 = .ok (.if_icmp .ge 20, 3) := by decide +kernel
theorem dX6_byteAt_5 : decode cX6_byteAt 5 = .ok (.aload_n 0, 1) := by decide +kernel
theorem dX6_byteAt_6 : decode cX6_byteAt 6 = .ok (.getfield 15, 3) := by decide +kernel
theorem dX6_byteAt_9 : decode cX6_byteAt 9 = .ok (.bipush 24, 2) := by decide +kernel
theorem dX6_byteAt_11 : decode cX6_byteAt 11 = .ok (.bipush 8, 2) := by decide +kernel
theorem dX6_byteAt_13 : decode cX6_byteAt 13 = .ok (.iload_n 1, 1) := by decide +kernel
theorem dX6_byteAt_14 : decode cX6_byteAt 14 = .ok (.imul, 1) := by decide +kernel
theorem dX6_byteAt_15 : decode cX6_byteAt 15 = .ok (.isub, 1) := by decide +kernel
theorem dX6_byteAt_16 : decode cX6_byteAt 16 = .ok (.iushr, 1) := by decide +kernel
theorem dX6_byteAt_17 : decode cX6_byteAt 17 = .ok (.sipush 255, 3) := by decide +kernel
theorem dX6_byteAt_20 : decode cX6_byteAt 20 = .ok (.iand, 1) := by decide +kernel
theorem dX6_byteAt_21 : decode cX6_byteAt 21 = .ok (.ireturn, 1) := by decide +kernel
theorem dX6_byteAt_22 : decode cX6_byteAt 22 = .ok (.iload_n 1, 1) := by decide +kernel
theorem dX6_byteAt_23 : decode cX6_byteAt 23 = .ok (.bipush 10, 2) := by decide +kernel
theorem dX6_byteAt_25 : decode cX6_byteAt 25 = .ok (.if_icmp .ne 8, 3) := by decide +kernel
theorem dX6_byteAt_28 : decode cX6_byteAt 28 = .ok (.aload_n 0, 1) := by decide +kernel
theorem dX6_byteAt_29 : decode cX6_byteAt 29 = .ok (.getfield 9, 3) := by decide +kernel
theorem dX6_byteAt_32 : decode cX6_byteAt 32 = .ok (.ireturn, 1) := by decide +kernel
theorem dX6_byteAt_33 : decode cX6_byteAt 33 = .ok (.iload_n 1, 1) := by decide +kernel
theorem dX6_byteAt_34 : decode cX6_byteAt 34 = .ok (.bipush 6, 2) := by decide +kernel
theorem dX6_byteAt_36 : decode cX6_byteAt 36 = .ok (.if_icmp .ge 10, 3) := by decide +kernel
theorem dX6_byteAt_39 : decode cX6_byteAt 39 = .ok (.aload_n 0, 1) := by decide +kernel
theorem dX6_byteAt_40 : decode cX6_byteAt 40 = .ok (.getfield 18, 3) := by decide +kernel
theorem dX6_byteAt_43 : decode cX6_byteAt 43 = .ok (.goto 20, 3) := by decide +kernel
theorem dX6_byteAt_46 : decode cX6_byteAt 46 = .ok (.iload_n 1, 1) := by decide +kernel
theorem dX6_byteAt_47 : decode cX6_byteAt 47 = .ok (.bipush 8, 2) := by decide +kernel
theorem dX6_byteAt_49 : decode cX6_byteAt 49 = .ok (.if_icmp .ge 10, 3) := by decide +kernel
theorem dX6_byteAt_52 : decode cX6_byteAt 52 = .ok (.aload_n 0, 1) := by decide +kernel
theorem dX6_byteAt_53 : decode cX6_byteAt 53 = .ok (.getfield 21, 3) := by decide +kernel
theorem dX6_byteAt_56 : decode cX6_byteAt 56 = .ok (.goto 7, 3) := by decide +kernel
theorem dX6_byteAt_59 : decode cX6_byteAt 59 = .ok (.aload_n 0, 1) := by decide +kernel
theorem dX6_byteAt_60 : decode cX6_byteAt 60 = .ok (.getfield 24, 3) := by decide +kernel
theorem dX6_byteAt_63 : decode cX6_byteAt 63 = .ok (.istore_n 2, 1) := by decide +kernel
theorem dX6_byteAt_64 : decode cX6_byteAt 64 = .ok (.iload_n 1, 1) := by decide +kernel
theorem dX6_byteAt_65 : decode cX6_byteAt 65 = .ok (.iconst 2, 1) := by decide +kernel
theorem dX6_byteAt_66 : decode cX6_byteAt 66 = .ok (.irem, 1) := by decide +kernel
theorem dX6_byteAt_67 : decode cX6_byteAt 67 = .ok (.ifCond .ne 10, 3) := by decide +kernel
theorem dX6_byteAt_70 : decode cX6_byteAt 70 = .ok (.iload_n 2, 1) := by decide +kernel
theorem dX6_byteAt_71 : decode cX6_byteAt 71 = .ok (.bipush 8, 2) := by decide +kernel
theorem dX6_byteAt_73 : decode cX6_byteAt 73 = .ok (.iushr, 1) := by decide +kernel
theorem dX6_byteAt_74 : decode cX6_byteAt 74 = .ok (.goto 4, 3) := by decide +kernel
theorem dX6_byteAt_77 : decode cX6_byteAt 77 = .ok (.iload_n 2, 1) := by decide +kernel
theorem dX6_byteAt_78 : decode cX6_byteAt 78 = .ok (.sipush 255, 3) := by decide +kernel
theorem dX6_byteAt_81 : decode cX6_byteAt 81 = .ok (.iand, 1) := by decide +kernel
theorem dX6_byteAt_82 : decode cX6_byteAt 82 = .ok (.ireturn, 1) := by decide +kernel
noncomputable def bX6_byteAt_0 (Q : Option Value → MM → Prop) (nx : Nat → Kt) : Kt := ldI 1 (cI 4 (ifc (fun x y => y ≤ x) (nx 22) (ldA 0 (gI 6 0 (cI 24 (cI 8 (ldI 1 (bop (fun x y => x * y) (bop (fun x y => x - y) (bop (fun x y => (x.toUInt32 >>> (y.toUInt32 &&& Int32.toUInt32 31)).toInt32) (cI 255 (bop (fun x y => x &&& y) (rI Q)))))))))))))
noncomputable def bX6_byteAt_22 (Q : Option Value → MM → Prop) (nx : Nat → Kt) : Kt := ldI 1 (cI 10 (ifc (fun x y => x = y) (ldA 0 (gI 6 4 (rI Q))) (nx 33)))
noncomputable def bX6_byteAt_33 (Q : Option Value → MM → Prop) (nx : Nat → Kt) : Kt := ldI 1 (cI 6 (ifc (fun x y => y ≤ x) (nx 46) (ldA 0 (gI 6 1 (nx 63)))))
noncomputable def bX6_byteAt_46 (Q : Option Value → MM → Prop) (nx : Nat → Kt) : Kt := ldI 1 (cI 8 (ifc (fun x y => y ≤ x) (nx 59) (ldA 0 (gI 6 2 (nx 63)))))
noncomputable def bX6_byteAt_59 (Q : Option Value → MM → Prop) (nx : Nat → Kt) : Kt := ldA 0 (gI 6 3 (nx 63))
noncomputable def bX6_byteAt_63 (Q : Option Value → MM → Prop) (nx : Nat → Kt) : Kt := stI 2 (ldI 1 (cI 2 (bod (fun x y => x - x / y * y) (ifz (fun x => x = 0) (ldI 2 (cI 8 (bop (fun x y => (x.toUInt32 >>> (y.toUInt32 &&& Int32.toUInt32 31)).toInt32) (nx 78)))) (nx 77)))))
noncomputable def bX6_byteAt_77 (Q : Option Value → MM → Prop) (nx : Nat → Kt) : Kt := ldI 2 (nx 78)
noncomputable def bX6_byteAt_78 (Q : Option Value → MM → Prop) (nx : Nat → Kt) : Kt := cI 255 (bop (fun x y => x &&& y) (rI Q))
noncomputable def kX6_byteAt (Q : Option Value → MM → Prop) (nx : Nat → Kt) : Nat → Kt := bse [(0, bX6_byteAt_0 Q nx), (22, bX6_byteAt_22 Q nx), (33, bX6_byteAt_33 Q nx), (46, bX6_byteAt_46 Q nx), (59, bX6_byteAt_59 Q nx), (63, bX6_byteAt_63 Q nx), (77, bX6_byteAt_77 Q nx), (78, bX6_byteAt_78 Q nx)]
abbrev rX6_byteAt : Room := { frames := 0, cells := 0, slots := 0, locals := 0 }
noncomputable def wX6_byteAt : Mw := mw 3 kX6_byteAt
set_option maxRecDepth 20000 in
theorem oX6_byteAt_0 {T : Ct} {Q : Option Value → MM → Prop} (C : Cx T cX6_byteAt 3 RX6 0 0) (CR : CxR T 0 0) (hr : T.2.2.2.2.2.2.2.2.1.sig.returnType = (some .int)) (hnm : T.2.2.2.2.2.2.2.2.1.name = "byteAt") {nx : Nat → Kt} (hn : ∀ pc, Sd T 3 (QT T Q 0 0) 0 0 pc (nx pc)) : Sd T 3 (QT T Q 0 0) 0 0 0 (bX6_byteAt_0 Q nx) := x_il_n C dX6_byteAt_0 rfl (x_ic C dX6_byteAt_1 (by decide) (x_ic_ge C (hn 22) dX6_byteAt_2 (by decide) (x_al_n C dX6_byteAt_5 rfl (gf_X6_15 C dX6_byteAt_6 (x_bp C dX6_byteAt_9 (by decide) (x_bp C dX6_byteAt_11 (by decide) (x_il_n C dX6_byteAt_13 rfl (x_imul C dX6_byteAt_14 (x_isub C dX6_byteAt_15 (x_iushr C dX6_byteAt_16 (x_sp C dX6_byteAt_17 (by decide) (x_iand C dX6_byteAt_20 (x_rI C hr dX6_byteAt_21)))))))))))))
set_option maxRecDepth 20000 in
theorem oX6_byteAt_22 {T : Ct} {Q : Option Value → MM → Prop} (C : Cx T cX6_byteAt 3 RX6 0 0) (CR : CxR T 0 0) (hr : T.2.2.2.2.2.2.2.2.1.sig.returnType = (some .int)) (hnm : T.2.2.2.2.2.2.2.2.1.name = "byteAt") {nx : Nat → Kt} (hn : ∀ pc, Sd T 3 (QT T Q 0 0) 0 0 pc (nx pc)) : Sd T 3 (QT T Q 0 0) 0 0 22 (bX6_byteAt_22 Q nx) := x_il_n C dX6_byteAt_22 rfl (x_bp C dX6_byteAt_23 (by decide) (x_ic_ne C (hn 33) dX6_byteAt_25 (by decide) (x_al_n C dX6_byteAt_28 rfl (gf_X6_9 C dX6_byteAt_29 (x_rI C hr dX6_byteAt_32)))))
set_option maxRecDepth 20000 in
theorem oX6_byteAt_33 {T : Ct} {Q : Option Value → MM → Prop} (C : Cx T cX6_byteAt 3 RX6 0 0) (CR : CxR T 0 0) (hr : T.2.2.2.2.2.2.2.2.1.sig.returnType = (some .int)) (hnm : T.2.2.2.2.2.2.2.2.1.name = "byteAt") {nx : Nat → Kt} (hn : ∀ pc, Sd T 3 (QT T Q 0 0) 0 0 pc (nx pc)) : Sd T 3 (QT T Q 0 0) 0 0 33 (bX6_byteAt_33 Q nx) := x_il_n C dX6_byteAt_33 rfl (x_bp C dX6_byteAt_34 (by decide) (x_ic_ge C (hn 46) dX6_byteAt_36 (by decide) (x_al_n C dX6_byteAt_39 rfl (gf_X6_18 C dX6_byteAt_40 (x_goto C (hn 63) dX6_byteAt_43 (by decide))))))
set_option maxRecDepth 20000 in
theorem oX6_byteAt_46 {T : Ct} {Q : Option Value → MM → Prop} (C : Cx T cX6_byteAt 3 RX6 0 0) (CR : CxR T 0 0) (hr : T.2.2.2.2.2.2.2.2.1.sig.returnType = (some .int)) (hnm : T.2.2.2.2.2.2.2.2.1.name = "byteAt") {nx : Nat → Kt} (hn : ∀ pc, Sd T 3 (QT T Q 0 0) 0 0 pc (nx pc)) : Sd T 3 (QT T Q 0 0) 0 0 46 (bX6_byteAt_46 Q nx) := x_il_n C dX6_byteAt_46 rfl (x_bp C dX6_byteAt_47 (by decide) (x_ic_ge C (hn 59) dX6_byteAt_49 (by decide) (x_al_n C dX6_byteAt_52 rfl (gf_X6_21 C dX6_byteAt_53 (x_goto C (hn 63) dX6_byteAt_56 (by decide))))))
set_option maxRecDepth 20000 in
theorem oX6_byteAt_59 {T : Ct} {Q : Option Value → MM → Prop} (C : Cx T cX6_byteAt 3 RX6 0 0) (CR : CxR T 0 0) (hr : T.2.2.2.2.2.2.2.2.1.sig.returnType = (some .int)) (hnm : T.2.2.2.2.2.2.2.2.1.name = "byteAt") {nx : Nat → Kt} (hn : ∀ pc, Sd T 3 (QT T Q 0 0) 0 0 pc (nx pc)) : Sd T 3 (QT T Q 0 0) 0 0 59 (bX6_byteAt_59 Q nx) := x_al_n C dX6_byteAt_59 rfl (gf_X6_24 C dX6_byteAt_60 (hn 63))
set_option maxRecDepth 20000 in
theorem oX6_byteAt_63 {T : Ct} {Q : Option Value → MM → Prop} (C : Cx T cX6_byteAt 3 RX6 0 0) (CR : CxR T 0 0) (hr : T.2.2.2.2.2.2.2.2.1.sig.returnType = (some .int)) (hnm : T.2.2.2.2.2.2.2.2.1.name = "byteAt") {nx : Nat → Kt} (hn : ∀ pc, Sd T 3 (QT T Q 0 0) 0 0 pc (nx pc)) : Sd T 3 (QT T Q 0 0) 0 0 63 (bX6_byteAt_63 Q nx) := x_is_n C dX6_byteAt_63 rfl (by decide) (x_il_n C dX6_byteAt_64 rfl (x_ic C dX6_byteAt_65 (by decide) (x_irem C dX6_byteAt_66 (x_if_ne C (hn 77) dX6_byteAt_67 (by decide) (x_il_n C dX6_byteAt_70 rfl (x_bp C dX6_byteAt_71 (by decide) (x_iushr C dX6_byteAt_73 (x_goto C (hn 78) dX6_byteAt_74 (by decide)))))))))
set_option maxRecDepth 20000 in
theorem oX6_byteAt_77 {T : Ct} {Q : Option Value → MM → Prop} (C : Cx T cX6_byteAt 3 RX6 0 0) (CR : CxR T 0 0) (hr : T.2.2.2.2.2.2.2.2.1.sig.returnType = (some .int)) (hnm : T.2.2.2.2.2.2.2.2.1.name = "byteAt") {nx : Nat → Kt} (hn : ∀ pc, Sd T 3 (QT T Q 0 0) 0 0 pc (nx pc)) : Sd T 3 (QT T Q 0 0) 0 0 77 (bX6_byteAt_77 Q nx) := x_il_n C dX6_byteAt_77 rfl (hn 78)
set_option maxRecDepth 20000 in
theorem oX6_byteAt_78 {T : Ct} {Q : Option Value → MM → Prop} (C : Cx T cX6_byteAt 3 RX6 0 0) (CR : CxR T 0 0) (hr : T.2.2.2.2.2.2.2.2.1.sig.returnType = (some .int)) (hnm : T.2.2.2.2.2.2.2.2.1.name = "byteAt") {nx : Nat → Kt} (hn : ∀ pc, Sd T 3 (QT T Q 0 0) 0 0 pc (nx pc)) : Sd T 3 (QT T Q 0 0) 0 0 78 (bX6_byteAt_78 Q nx) := x_sp C dX6_byteAt_78 (by decide) (x_iand C dX6_byteAt_81 (x_rI C hr dX6_byteAt_82))
set_option maxRecDepth 20000 in
theorem mX6_byteAt (l : Launch) (D : va_G) (cA : Nat → ClassId) (base : Nat) : Mc l D cA base yX6_byteAt cX6_byteAt 3 (some .int) rX6_byteAt wX6_byteAt := mc_of (by decide +kernel) kX6_byteAt (fun T Q C CR hr hnm nx hn => bse_ok _ (List.forall_mem_cons.mpr ⟨oX6_byteAt_0 C CR hr hnm hn, List.forall_mem_cons.mpr ⟨oX6_byteAt_22 C CR hr hnm hn, List.forall_mem_cons.mpr ⟨oX6_byteAt_33 C CR hr hnm hn, List.forall_mem_cons.mpr ⟨oX6_byteAt_46 C CR hr hnm hn, List.forall_mem_cons.mpr ⟨oX6_byteAt_59 C CR hr hnm hn, List.forall_mem_cons.mpr ⟨oX6_byteAt_63 C CR hr hnm hn, List.forall_mem_cons.mpr ⟨oX6_byteAt_77 C CR hr hnm hn, List.forall_mem_cons.mpr ⟨oX6_byteAt_78 C CR hr hnm hn, fun _ h => nomatch h⟩⟩⟩⟩⟩⟩⟩⟩))
theorem dX2_init_0 : decode cX2_init 0 = .ok (.aload_n 0, 1) := by decide +kernel
theorem dX2_init_1 : decode cX2_init 1 = .ok (.invokespecial 1, 3) := by decide +kernel
theorem dX2_init_4 : decode cX2_init 4 = .ok (.return_, 1) := by decide +kernel
noncomputable def bX2_init_0 (Q : Option Value → MM → Prop) (nx : Nat → Kt) : Kt := ldA 0 (oI (rV Q))
noncomputable def kX2_init (Q : Option Value → MM → Prop) (nx : Nat → Kt) : Nat → Kt := bse [(0, bX2_init_0 Q nx)]
abbrev rX2_init : Room := { frames := 1, cells := 0, slots := 0, locals := 20 }
noncomputable def wX2_init : Mw := mw 1 kX2_init
set_option maxRecDepth 20000 in
theorem oX2_init_0 {T : Ct} {Q : Option Value → MM → Prop} (C : Cx T cX2_init 1 RX2 0 0) (CR : CxR T 1 20) (hr : T.2.2.2.2.2.2.2.2.1.sig.returnType = none) (hnm : T.2.2.2.2.2.2.2.2.1.name = "<init>") {nx : Nat → Kt} (hn : ∀ pc, Sd T 1 (QT T Q 0 0) 0 0 pc (nx pc)) : Sd T 1 (QT T Q 0 0) 0 0 0 (bX2_init_0 Q nx) := x_al_n C dX2_init_0 rfl (x_oI C CR (by decide) (by decide) ml_X2_1 im_obj co_obj dX2_init_1 (x_rV C hr dX2_init_4))
set_option maxRecDepth 20000 in
theorem mX2_init (l : Launch) (D : va_G) (cA : Nat → ClassId) (base : Nat) : Mc l D cA base yX2_init cX2_init 1 none rX2_init wX2_init := mc_of (by decide +kernel) kX2_init (fun T Q C CR hr hnm nx hn => bse_ok _ (List.forall_mem_cons.mpr ⟨oX2_init_0 C CR hr hnm hn, fun _ h => nomatch h⟩))
theorem dX2_mustComeAhead_0 : decode cX2_mustComeAhead 0 = .ok (.aload_n 0, 1) := by decide +kernel
theorem dX2_mustComeAhead_1 : decode cX2_mustComeAhead 1 = .ok (.getfield 7, 3) := by decide +kernel
theorem dX2_mustComeAhead_4 : decode cX2_mustComeAhead 4 = .ok (.aload_n 1, 1) := by decide +kernel
theorem dX2_mustComeAhead_5 : decode cX2_mustComeAhead 5 = .ok (.getfield 7, 3) := by decide +kernel
theorem dX2_mustComeAhead_8 : decode cX2_mustComeAhead 8 = .ok (.if_icmp .ne 40, 3) := by decide +kernel
theorem dX2_mustComeAhead_11 : decode cX2_mustComeAhead 11 = .ok (.aload_n 0, 1) := by decide +kernel
theorem dX2_mustComeAhead_12 : decode cX2_mustComeAhead 12 = .ok (.getfield 13, 3) := by decide +kernel
theorem dX2_mustComeAhead_15 : decode cX2_mustComeAhead 15 = .ok (.aload_n 1, 1) := by decide +kernel
theorem dX2_mustComeAhead_16 : decode cX2_mustComeAhead 16 = .ok (.getfield 13, 3) := by decide +kernel
theorem dX2_mustComeAhead_19 : decode cX2_mustComeAhead 19 = .ok (.if_icmp .ne 29, 3) := by decide +kernel
theorem dX2_mustComeAhead_22 : decode cX2_mustComeAhead 22 = .ok (.aload_n 0, 1) := by decide +kernel
theorem dX2_mustComeAhead_23 : decode cX2_mustComeAhead 23 = .ok (.getfield 16, 3) := by decide +kernel
theorem dX2_mustComeAhead_26 : decode cX2_mustComeAhead 26 = .ok (.aload_n 1, 1) := by decide +kernel
theorem dX2_mustComeAhead_27 : decode cX2_mustComeAhead 27 = .ok (.getfield 16, 3) := by decide +kernel
theorem dX2_mustComeAhead_30 : decode cX2_mustComeAhead 30 = .ok (.if_icmp .ne 18, 3) := by decide +kernel
theorem dX2_mustComeAhead_33 : decode cX2_mustComeAhead 33 = .ok (.aload_n 0, 1) := by decide +kernel
theorem dX2_mustComeAhead_34 : decode cX2_mustComeAhead 34 = .ok (.getfield 19, 3) := by decide +kernel
theorem dX2_mustComeAhead_37 : decode cX2_mustComeAhead 37 = .ok (.aload_n 1, 1) := by decide +kernel
theorem dX2_mustComeAhead_38 : decode cX2_mustComeAhead 38 = .ok (.getfield 19, 3) := by decide +kernel
theorem dX2_mustComeAhead_41 : decode cX2_mustComeAhead 41 = .ok (.if_icmp .ge 7, 3) := by decide +kernel
theorem dX2_mustComeAhead_44 : decode cX2_mustComeAhead 44 = .ok (.iconst 1, 1) := by decide +kernel
theorem dX2_mustComeAhead_45 : decode cX2_mustComeAhead 45 = .ok (.goto 4, 3) := by decide +kernel
theorem dX2_mustComeAhead_48 : decode cX2_mustComeAhead 48 = .ok (.iconst 0, 1) := by decide +kernel
theorem dX2_mustComeAhead_49 : decode cX2_mustComeAhead 49 = .ok (.ireturn, 1) := by decide +kernel
noncomputable def bX2_mustComeAhead_0 (Q : Option Value → MM → Prop) (nx : Nat → Kt) : Kt := ldA 0 (gI 2 0 (ldA 1 (gI 2 0 (ifc (fun x y => x = y) (ldA 0 (gI 2 2 (ldA 1 (gI 2 2 (ifc (fun x y => x = y) (ldA 0 (gI 2 4 (ldA 1 (gI 2 4 (ifc (fun x y => x = y) (ldA 0 (gI 2 5 (ldA 1 (gI 2 5 (ifc (fun x y => y ≤ x) (nx 48) (cI 1 (nx 49))))))) (nx 48)))))) (nx 48)))))) (nx 48)))))
noncomputable def bX2_mustComeAhead_48 (Q : Option Value → MM → Prop) (nx : Nat → Kt) : Kt := cI 0 (nx 49)
noncomputable def bX2_mustComeAhead_49 (Q : Option Value → MM → Prop) (nx : Nat → Kt) : Kt := rZ Q
noncomputable def kX2_mustComeAhead (Q : Option Value → MM → Prop) (nx : Nat → Kt) : Nat → Kt := bse [(0, bX2_mustComeAhead_0 Q nx), (48, bX2_mustComeAhead_48 Q nx), (49, bX2_mustComeAhead_49 Q nx)]
abbrev rX2_mustComeAhead : Room := { frames := 0, cells := 0, slots := 0, locals := 0 }
noncomputable def wX2_mustComeAhead : Mw := mw 2 kX2_mustComeAhead
set_option maxRecDepth 20000 in
theorem oX2_mustComeAhead_0 {T : Ct} {Q : Option Value → MM → Prop} (C : Cx T cX2_mustComeAhead 2 RX2 0 0) (CR : CxR T 0 0) (hr : T.2.2.2.2.2.2.2.2.1.sig.returnType = (some .boolean)) (hnm : T.2.2.2.2.2.2.2.2.1.name = "mustComeAhead") {nx : Nat → Kt} (hn : ∀ pc, Sd T 2 (QT T Q 0 0) 0 0 pc (nx pc)) : Sd T 2 (QT T Q 0 0) 0 0 0 (bX2_mustComeAhead_0 Q nx) := x_al_n C dX2_mustComeAhead_0 rfl (gf_X2_7 C dX2_mustComeAhead_1 (x_al_n C dX2_mustComeAhead_4 rfl (gf_X2_7 C dX2_mustComeAhead_5 (x_ic_ne C (hn 48) dX2_mustComeAhead_8 (by decide) (x_al_n C dX2_mustComeAhead_11 rfl (gf_X2_13 C dX2_mustComeAhead_12 (x_al_n C dX2_mustComeAhead_15 rfl (gf_X2_13 C dX2_mustComeAhead_16 (x_ic_ne C (hn 48) dX2_mustComeAhead_19 (by decide) (x_al_n C dX2_mustComeAhead_22 rfl (gf_X2_16 C dX2_mustComeAhead_23 (x_al_n C dX2_mustComeAhead_26 rfl (gf_X2_16 C dX2_mustComeAhead_27 (x_ic_ne C (hn 48) dX2_mustComeAhead_30 (by decide) (x_al_n C dX2_mustComeAhead_33 rfl (gf_X2_19 C dX2_mustComeAhead_34 (x_al_n C dX2_mustComeAhead_37 rfl (gf_X2_19 C dX2_mustComeAhead_38 (x_ic_ge C (hn 48) dX2_mustComeAhead_41 (by decide) (x_ic C dX2_mustComeAhead_44 (by decide) (x_goto C (hn 49) dX2_mustComeAhead_45 (by decide))))))))))))))))))))))
set_option maxRecDepth 20000 in
theorem oX2_mustComeAhead_48 {T : Ct} {Q : Option Value → MM → Prop} (C : Cx T cX2_mustComeAhead 2 RX2 0 0) (CR : CxR T 0 0) (hr : T.2.2.2.2.2.2.2.2.1.sig.returnType = (some .boolean)) (hnm : T.2.2.2.2.2.2.2.2.1.name = "mustComeAhead") {nx : Nat → Kt} (hn : ∀ pc, Sd T 2 (QT T Q 0 0) 0 0 pc (nx pc)) : Sd T 2 (QT T Q 0 0) 0 0 48 (bX2_mustComeAhead_48 Q nx) := x_ic C dX2_mustComeAhead_48 (by decide) (hn 49)
set_option maxRecDepth 20000 in
theorem oX2_mustComeAhead_49 {T : Ct} {Q : Option Value → MM → Prop} (C : Cx T cX2_mustComeAhead 2 RX2 0 0) (CR : CxR T 0 0) (hr : T.2.2.2.2.2.2.2.2.1.sig.returnType = (some .boolean)) (hnm : T.2.2.2.2.2.2.2.2.1.name = "mustComeAhead") {nx : Nat → Kt} (hn : ∀ pc, Sd T 2 (QT T Q 0 0) 0 0 pc (nx pc)) : Sd T 2 (QT T Q 0 0) 0 0 49 (bX2_mustComeAhead_49 Q nx) := x_rZ C hr dX2_mustComeAhead_49
set_option maxRecDepth 20000 in
theorem mX2_mustComeAhead (l : Launch) (D : va_G) (cA : Nat → ClassId) (base : Nat) : Mc l D cA base yX2_mustComeAhead cX2_mustComeAhead 2 (some .boolean) rX2_mustComeAhead wX2_mustComeAhead := mc_of (by decide +kernel) kX2_mustComeAhead (fun T Q C CR hr hnm nx hn => bse_ok _ (List.forall_mem_cons.mpr ⟨oX2_mustComeAhead_0 C CR hr hnm hn, List.forall_mem_cons.mpr ⟨oX2_mustComeAhead_48 C CR hr hnm hn, List.forall_mem_cons.mpr ⟨oX2_mustComeAhead_49 C CR hr hnm hn, fun _ h => nomatch h⟩⟩⟩))
theorem dX4_init_0 : decode cX4_init 0 = .ok (.aload_n 0, 1) := by decide +kernel
theorem dX4_init_1 : decode cX4_init 1 = .ok (.invokespecial 1, 3) := by decide +kernel
theorem dX4_init_4 : decode cX4_init 4 = .ok (.aload_n 0, 1) := by decide +kernel
theorem dX4_init_5 : decode cX4_init 5 = .ok (.new 7, 3) := by decide +kernel
theorem dX4_init_8 : decode cX4_init 8 = .ok (.dup, 1) := by decide +kernel
theorem dX4_init_9 : decode cX4_init 9 = .ok (.invokespecial 9, 3) := by decide +kernel
theorem dX4_init_12 : decode cX4_init 12 = .ok (.putfield 10, 3) := by decide +kernel
theorem dX4_init_15 : decode cX4_init 15 = .ok (.aload_n 0, 1) := by decide +kernel
theorem dX4_init_16 : decode cX4_init 16 = .ok (.new 7, 3) := by decide +kernel
theorem dX4_init_19 : decode cX4_init 19 = .ok (.dup, 1) := by decide +kernel
theorem dX4_init_20 : decode cX4_init 20 = .ok (.invokespecial 9, 3) := by decide +kernel
theorem dX4_init_23 : decode cX4_init 23 = .ok (.putfield 16, 3) := by decide +kernel
theorem dX4_init_26 : decode cX4_init 26 = .ok (.return_, 1) := by decide +kernel
noncomputable def bX4_init_0 (Q : Option Value → MM → Prop) (nx : Nat → Kt) : Kt := ldA 0 (oI (ldA 0 (nO 6 2 10 (du (cC 0 wX6_init 0 0 2 10 (tF 4 0 (ldA 0 (nO 6 2 10 (du (cC 0 wX6_init 0 0 2 10 (tF 4 1 (rV Q))))))))))))
noncomputable def kX4_init (Q : Option Value → MM → Prop) (nx : Nat → Kt) : Nat → Kt := bse [(0, bX4_init_0 Q nx)]
abbrev rX4_init : Room := { frames := 2, cells := 2, slots := 10, locals := 40 }
noncomputable def wX4_init : Mw := mw 1 kX4_init
set_option maxRecDepth 20000 in
theorem oX4_init_0 {T : Ct} {Q : Option Value → MM → Prop} (C : Cx T cX4_init 1 RX4 2 10) (CR : CxR T 2 40) (hr : T.2.2.2.2.2.2.2.2.1.sig.returnType = none) (hnm : T.2.2.2.2.2.2.2.2.1.name = "<init>") {nx : Nat → Kt} (hn : ∀ pc, Sd T 1 (QT T Q 2 10) 2 10 pc (nx pc)) : Sd T 1 (QT T Q 2 10) 2 10 0 (bX4_init_0 Q nx) := x_al_n C dX4_init_0 rfl (x_oI C CR (by decide) (by decide) ml_X4_1 im_obj co_obj dX4_init_1 (x_al_n C dX4_init_4 rfl (nf_X4_7 C dX4_init_5 (x_dup C dX4_init_8 (x_cN C CR mX6_init ⟨co_X6_init, init_X6, md_X6_init, by decide, by decide⟩ (by decide +kernel) im_X6_init rfl dX4_init_9 (pf_X4_10 C hnm dX4_init_12 (x_al_n C dX4_init_15 rfl (nf_X4_7 C dX4_init_16 (x_dup C dX4_init_19 (x_cN C CR mX6_init ⟨co_X6_init, init_X6, md_X6_init, by decide, by decide⟩ (by decide +kernel) im_X6_init rfl dX4_init_20 (pf_X4_16 C hnm dX4_init_23 (x_rV C hr dX4_init_26))))))))))))
set_option maxRecDepth 20000 in
theorem mX4_init (l : Launch) (D : va_G) (cA : Nat → ClassId) (base : Nat) : Mc l D cA base yX4_init cX4_init 1 none rX4_init wX4_init := mc_of (by decide +kernel) kX4_init (fun T Q C CR hr hnm nx hn => bse_ok _ (List.forall_mem_cons.mpr ⟨oX4_init_0 C CR hr hnm hn, fun _ h => nomatch h⟩))
