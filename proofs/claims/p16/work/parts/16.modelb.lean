theorem dX8_frameComes_0 : decode cX8_frameComes 0 = .ok (.aload_n 0, 1) := by decide +kernel
theorem dX8_frameComes_1 : decode cX8_frameComes 1 = .ok (.getfield 35, 3) := by decide +kernel
theorem dX8_frameComes_4 : decode cX8_frameComes 4 = .ok (.iload_n 2, 1) := by decide +kernel
theorem dX8_frameComes_5 : decode cX8_frameComes 5 = .ok (.iaload, 1) := by decide +kernel
theorem dX8_frameComes_6 : decode cX8_frameComes 6 = .ok (.iconst 3, 1) := by decide +kernel
theorem dX8_frameComes_7 : decode cX8_frameComes 7 = .ok (.if_icmp .ge 14, 3) := by decide +kernel
theorem dX8_frameComes_10 : decode cX8_frameComes 10 = .ok (.aload_n 0, 1) := by decide +kernel
theorem dX8_frameComes_11 : decode cX8_frameComes 11 = .ok (.dup, 1) := by decide +kernel
theorem dX8_frameComes_12 : decode cX8_frameComes 12 = .ok (.getfield 204, 3) := by decide +kernel
theorem dX8_frameComes_15 : decode cX8_frameComes 15 = .ok (.iconst 1, 1) := by decide +kernel
theorem dX8_frameComes_16 : decode cX8_frameComes 16 = .ok (.iadd, 1) := by decide +kernel
theorem dX8_frameComes_17 : decode cX8_frameComes 17 = .ok (.putfield 204, 3) := by decide +kernel
theorem dX8_frameComes_20 : decode cX8_frameComes 20 = .ok (.return_, 1) := by decide +kernel
theorem dX8_frameComes_21 : decode cX8_frameComes 21 = .ok (.iload_n 2, 1) := by decide +kernel
theorem dX8_frameComes_22 : decode cX8_frameComes 22 = .ok (.bipush 8, 2) := by decide +kernel
theorem dX8_frameComes_24 : decode cX8_frameComes 24 = .ok (.idiv, 1) := by decide +kernel
theorem dX8_frameComes_25 : decode cX8_frameComes 25 = .ok (.istore_n 3, 1) := by decide +kernel
theorem dX8_frameComes_26 : decode cX8_frameComes 26 = .ok (.iload_n 1, 1) := by decide +kernel
theorem dX8_frameComes_27 : decode cX8_frameComes 27 = .ok (.iconst 1, 1) := by decide +kernel
theorem dX8_frameComes_28 : decode cX8_frameComes 28 = .ok (.iadd, 1) := by decide +kernel
theorem dX8_frameComes_29 : decode cX8_frameComes 29 = .ok (.istore 4, 2) := by decide +kernel
theorem dX8_frameComes_31 : decode cX8_frameComes 31 = .ok (.iload 4, 2) := by decide +kernel
theorem dX8_frameComes_33 : decode cX8_frameComes 33 = .ok (.aload_n 0, 1) := by decide +kernel
theorem dX8_frameComes_34 : decode cX8_frameComes 34 = .ok (.getfield 207, 3) := by decide +kernel
theorem dX8_frameComes_37 : decode cX8_frameComes 37 = .ok (.if_icmp .ge 99, 3) := by decide +kernel
theorem dX8_frameComes_40 : decode cX8_frameComes 40 = .ok (.aload_n 0, 1) := by decide +kernel
theorem dX8_frameComes_41 : decode cX8_frameComes 41 = .ok (.getfield 120, 3) := by decide +kernel
theorem dX8_frameComes_44 : decode cX8_frameComes 44 = .ok (.iload 4, 2) := by decide +kernel
theorem dX8_frameComes_46 : decode cX8_frameComes 46 = .ok (.baload, 1) := by decide +kernel
theorem dX8_frameComes_47 : decode cX8_frameComes 47 = .ok (.ifCond .eq 83, 3) := by decide +kernel
theorem dX8_frameComes_50 : decode cX8_frameComes 50 = .ok (.aload_n 0, 1) := by decide +kernel
theorem dX8_frameComes_51 : decode cX8_frameComes 51 = .ok (.getfield 105, 3) := by decide +kernel
theorem dX8_frameComes_54 : decode cX8_frameComes 54 = .ok (.iload 4, 2) := by decide +kernel
theorem dX8_frameComes_56 : decode cX8_frameComes 56 = .ok (.iaload, 1) := by decide +kernel
theorem dX8_frameComes_57 : decode cX8_frameComes 57 = .ok (.aload_n 0, 1) := by decide +kernel
theorem dX8_frameComes_58 : decode cX8_frameComes 58 = .ok (.getfield 105, 3) := by decide +kernel
theorem dX8_frameComes_61 : decode cX8_frameComes 61 = .ok (.iload_n 1, 1) := by decide +kernel
theorem dX8_frameComes_62 : decode cX8_frameComes 62 = .ok (.iaload, 1) := by decide +kernel
theorem dX8_frameComes_63 : decode cX8_frameComes 63 = .ok (.if_icmp .ne 67, 3) := by decide +kernel
theorem dX8_frameComes_66 : decode cX8_frameComes 66 = .ok (.aload_n 0, 1) := by decide +kernel
theorem dX8_frameComes_67 : decode cX8_frameComes 67 = .ok (.getfield 108, 3) := by decide +kernel
theorem dX8_frameComes_70 : decode cX8_frameComes 70 = .ok (.iload 4, 2) := by decide +kernel
theorem dX8_frameComes_72 : decode cX8_frameComes 72 = .ok (.iaload, 1) := by decide +kernel
theorem dX8_frameComes_73 : decode cX8_frameComes 73 = .ok (.aload_n 0, 1) := by decide +kernel
theorem dX8_frameComes_74 : decode cX8_frameComes 74 = .ok (.getfield 108, 3) := by decide +kernel
theorem dX8_frameComes_77 : decode cX8_frameComes 77 = .ok (.iload_n 1, 1) := by decide +kernel
theorem dX8_frameComes_78 : decode cX8_frameComes 78 = .ok (.iaload, 1) := by decide +kernel
theorem dX8_frameComes_79 : decode cX8_frameComes 79 = .ok (.if_icmp .ne 51, 3) := by decide +kernel
theorem dX8_frameComes_82 : decode cX8_frameComes 82 = .ok (.aload_n 0, 1) := by decide +kernel
theorem dX8_frameComes_83 : decode cX8_frameComes 83 = .ok (.getfield 111, 3) := by decide +kernel
theorem dX8_frameComes_86 : decode cX8_frameComes 86 = .ok (.iload 4, 2) := by decide +kernel
theorem dX8_frameComes_88 : decode cX8_frameComes 88 = .ok (.iaload, 1) := by decide +kernel
theorem dX8_frameComes_89 : decode cX8_frameComes 89 = .ok (.aload_n 0, 1) := by decide +kernel
theorem dX8_frameComes_90 : decode cX8_frameComes 90 = .ok (.getfield 111, 3) := by decide +kernel
theorem dX8_frameComes_93 : decode cX8_frameComes 93 = .ok (.iload_n 1, 1) := by decide +kernel
theorem dX8_frameComes_94 : decode cX8_frameComes 94 = .ok (.iaload, 1) := by decide +kernel
theorem dX8_frameComes_95 : decode cX8_frameComes 95 = .ok (.if_icmp .ne 35, 3) := by decide +kernel
theorem dX8_frameComes_98 : decode cX8_frameComes 98 = .ok (.aload_n 0, 1) := by decide +kernel
theorem dX8_frameComes_99 : decode cX8_frameComes 99 = .ok (.getfield 117, 3) := by decide +kernel
theorem dX8_frameComes_102 : decode cX8_frameComes 102 = .ok (.iload 4, 2) := by decide +kernel
theorem dX8_frameComes_104 : decode cX8_frameComes 104 = .ok (.iaload, 1) := by decide +kernel
theorem dX8_frameComes_105 : decode cX8_frameComes 105 = .ok (.aload_n 0, 1) := by decide +kernel
theorem dX8_frameComes_106 : decode cX8_frameComes 106 = .ok (.getfield 117, 3) := by decide +kernel
theorem dX8_frameComes_109 : decode cX8_frameComes 109 = .ok (.iload_n 1, 1) := by decide +kernel
theorem dX8_frameComes_110 : decode cX8_frameComes 110 = .ok (.iaload, 1) := by decide +kernel
theorem dX8_frameComes_111 : decode cX8_frameComes 111 = .ok (.if_icmp .eq 6, 3) := by decide +kernel
theorem dX8_frameComes_114 : decode cX8_frameComes 114 = .ok (.goto 16, 3) := by decide +kernel
theorem dX8_frameComes_117 : decode cX8_frameComes 117 = .ok (.aload_n 0, 1) := by decide +kernel
theorem dX8_frameComes_118 : decode cX8_frameComes 118 = .ok (.dup, 1) := by decide +kernel
theorem dX8_frameComes_119 : decode cX8_frameComes 119 = .ok (.getfield 210, 3) := by decide +kernel
theorem dX8_frameComes_122 : decode cX8_frameComes 122 = .ok (.iconst 1, 1) := by decide +kernel
theorem dX8_frameComes_123 : decode cX8_frameComes 123 = .ok (.iadd, 1) := by decide +kernel
theorem dX8_frameComes_124 : decode cX8_frameComes 124 = .ok (.putfield 210, 3) := by decide +kernel
theorem dX8_frameComes_127 : decode cX8_frameComes 127 = .ok (.goto 9, 3) := by decide +kernel
theorem dX8_frameComes_130 : decode cX8_frameComes 130 = .ok (.iinc 4 1, 3) := by decide +kernel
theorem dX8_frameComes_133 : decode cX8_frameComes 133 = .ok (.goto (-102), 3) := by decide +kernel
theorem dX8_frameComes_136 : decode cX8_frameComes 136 = .ok (.aload_n 0, 1) := by decide +kernel
theorem dX8_frameComes_137 : decode cX8_frameComes 137 = .ok (.getfield 120, 3) := by decide +kernel
theorem dX8_frameComes_140 : decode cX8_frameComes 140 = .ok (.iload_n 1, 1) := by decide +kernel
theorem dX8_frameComes_141 : decode cX8_frameComes 141 = .ok (.iconst 1, 1) := by decide +kernel
theorem dX8_frameComes_142 : decode cX8_frameComes 142 = .ok (.bastore, 1) := by decide +kernel
theorem dX8_frameComes_143 : decode cX8_frameComes 143 = .ok (.iconst 4, 1) := by decide +kernel
theorem dX8_frameComes_144 : decode cX8_frameComes 144 = .ok (.bipush 50, 2) := by decide +kernel
theorem dX8_frameComes_146 : decode cX8_frameComes 146 = .ok (.iload_n 3, 1) := by decide +kernel
theorem dX8_frameComes_147 : decode cX8_frameComes 147 = .ok (.imul, 1) := by decide +kernel
theorem dX8_frameComes_148 : decode cX8_frameComes 148 = .ok (.aload_n 0, 1) := by decide +kernel
theorem dX8_frameComes_149 : decode cX8_frameComes 149 = .ok (.getfield 129, 3) := by decide +kernel
theorem dX8_frameComes_152 : decode cX8_frameComes 152 = .ok (.iload_n 3, 1) := by decide +kernel
theorem dX8_frameComes_153 : decode cX8_frameComes 153 = .ok (.iaload, 1) := by decide +kernel
theorem dX8_frameComes_154 : decode cX8_frameComes 154 = .ok (.bipush 50, 2) := by decide +kernel
theorem dX8_frameComes_156 : decode cX8_frameComes 156 = .ok (.irem, 1) := by decide +kernel
theorem dX8_frameComes_157 : decode cX8_frameComes 157 = .ok (.iadd, 1) := by decide +kernel
theorem dX8_frameComes_158 : decode cX8_frameComes 158 = .ok (.imul, 1) := by decide +kernel
theorem dX8_frameComes_159 : decode cX8_frameComes 159 = .ok (.istore 4, 2) := by decide +kernel
theorem dX8_frameComes_161 : decode cX8_frameComes 161 = .ok (.aload_n 0, 1) := by decide +kernel
theorem dX8_frameComes_162 : decode cX8_frameComes 162 = .ok (.getfield 126, 3) := by decide +kernel
theorem dX8_frameComes_165 : decode cX8_frameComes 165 = .ok (.iload 4, 2) := by decide +kernel
theorem dX8_frameComes_167 : decode cX8_frameComes 167 = .ok (.iload_n 2, 1) := by decide +kernel
theorem dX8_frameComes_168 : decode cX8_frameComes 168 = .ok (.bipush 8, 2) := by decide +kernel
theorem dX8_frameComes_170 : decode cX8_frameComes 170 = .ok (.irem, 1) := by decide +kernel
theorem dX8_frameComes_171 : decode cX8_frameComes 171 = .ok (.iastore, 1) := by decide +kernel
theorem dX8_frameComes_172 : decode cX8_frameComes 172 = .ok (.aload_n 0, 1) := by decide +kernel
theorem dX8_frameComes_173 : decode cX8_frameComes 173 = .ok (.getfield 126, 3) := by decide +kernel
theorem dX8_frameComes_176 : decode cX8_frameComes 176 = .ok (.iload 4, 2) := by decide +kernel
theorem dX8_frameComes_178 : decode cX8_frameComes 178 = .ok (.iconst 1, 1) := by decide +kernel
theorem dX8_frameComes_179 : decode cX8_frameComes 179 = .ok (.iadd, 1) := by decide +kernel
theorem dX8_frameComes_180 : decode cX8_frameComes 180 = .ok (.aload_n 0, 1) := by decide +kernel
theorem dX8_frameComes_181 : decode cX8_frameComes 181 = .ok (.getfield 111, 3) := by decide +kernel
theorem dX8_frameComes_184 : decode cX8_frameComes 184 = .ok (.iload_n 1, 1) := by decide +kernel
theorem dX8_frameComes_185 : decode cX8_frameComes 185 = .ok (.iaload, 1) := by decide +kernel
theorem dX8_frameComes_186 : decode cX8_frameComes 186 = .ok (.iastore, 1) := by decide +kernel
theorem dX8_frameComes_187 : decode cX8_frameComes 187 = .ok (.aload_n 0, 1) := by decide +kernel
theorem dX8_frameComes_188 : decode cX8_frameComes 188 = .ok (.getfield 126, 3) := by decide +kernel
theorem dX8_frameComes_191 : decode cX8_frameComes 191 = .ok (.iload 4, 2) := by decide +kernel
theorem dX8_frameComes_193 : decode cX8_frameComes 193 = .ok (.iconst 2, 1) := by decide +kernel
theorem dX8_frameComes_194 : decode cX8_frameComes 194 = .ok (.iadd, 1) := by decide +kernel
theorem dX8_frameComes_195 : decode cX8_frameComes 195 = .ok (.aload_n 0, 1) := by decide +kernel
theorem dX8_frameComes_196 : decode cX8_frameComes 196 = .ok (.getfield 114, 3) := by decide +kernel
theorem dX8_frameComes_199 : decode cX8_frameComes 199 = .ok (.iload_n 1, 1) := by decide +kernel
theorem dX8_frameComes_200 : decode cX8_frameComes 200 = .ok (.iaload, 1) := by decide +kernel
theorem dX8_frameComes_201 : decode cX8_frameComes 201 = .ok (.iastore, 1) := by decide +kernel
theorem dX8_frameComes_202 : decode cX8_frameComes 202 = .ok (.aload_n 0, 1) := by decide +kernel
theorem dX8_frameComes_203 : decode cX8_frameComes 203 = .ok (.getfield 126, 3) := by decide +kernel
theorem dX8_frameComes_206 : decode cX8_frameComes 206 = .ok (.iload 4, 2) := by decide +kernel
theorem dX8_frameComes_208 : decode cX8_frameComes 208 = .ok (.iconst 3, 1) := by decide +kernel
theorem dX8_frameComes_209 : decode cX8_frameComes 209 = .ok (.iadd, 1) := by decide +kernel
theorem dX8_frameComes_210 : decode cX8_frameComes 210 = .ok (.aload_n 0, 1) := by decide +kernel
theorem dX8_frameComes_211 : decode cX8_frameComes 211 = .ok (.getfield 213, 3) := by decide +kernel
theorem dX8_frameComes_214 : decode cX8_frameComes 214 = .ok (.iastore, 1) := by decide +kernel
theorem dX8_frameComes_215 : decode cX8_frameComes 215 = .ok (.aload_n 0, 1) := by decide +kernel
theorem dX8_frameComes_216 : decode cX8_frameComes 216 = .ok (.getfield 129, 3) := by decide +kernel
theorem dX8_frameComes_219 : decode cX8_frameComes 219 = .ok (.iload_n 3, 1) := by decide +kernel
theorem dX8_frameComes_220 : decode cX8_frameComes 220 = .ok (.dup2, 1) := by decide +kernel
theorem dX8_frameComes_221 : decode cX8_frameComes 221 = .ok (.iaload, 1) := by decide +kernel
theorem dX8_frameComes_222 : decode cX8_frameComes 222 = .ok (.iconst 1, 1) := by decide +kernel
theorem dX8_frameComes_223 : decode cX8_frameComes 223 = .ok (.iadd, 1) := by decide +kernel
theorem dX8_frameComes_224 : decode cX8_frameComes 224 = .ok (.iastore, 1) := by decide +kernel
theorem dX8_frameComes_225 : decode cX8_frameComes 225 = .ok (.return_, 1) := by decide +kernel
noncomputable def bX8_frameComes_0 (Q : Option Value → MM → Prop) (nx : Nat → Kt) : Kt := ldA 0 (gR 8 9 (ldI 2 (aI 10 (cI 3 (ifc (fun x y => y ≤ x) (nx 21) (ldA 0 (du (gI 8 45 (cI 1 (bop (fun x y => x + y) (tI 8 45 (rV Q))))))))))))
noncomputable def bX8_frameComes_21 (Q : Option Value → MM → Prop) (nx : Nat → Kt) : Kt := ldI 2 (cI 8 (bod (fun x y => x / y) (stI 3 (ldI 1 (cI 1 (bop (fun x y => x + y) (stI 4 (nx 31))))))))
noncomputable def bX8_frameComes_31 (Q : Option Value → MM → Prop) (nx : Nat → Kt) : Kt := ldI 4 (ldA 0 (gI 8 39 (ifc (fun x y => y ≤ x) (nx 136) (ldA 0 (gR 8 38 (ldI 4 (aI 11 (ifz (fun x => x = 0) (nx 130) (ldA 0 (gR 8 33 (ldI 4 (aI 10 (ldA 0 (gR 8 33 (ldI 1 (aI 10 (ifc (fun x y => x = y) (ldA 0 (gR 8 34 (ldI 4 (aI 10 (ldA 0 (gR 8 34 (ldI 1 (aI 10 (ifc (fun x y => x = y) (ldA 0 (gR 8 35 (ldI 4 (aI 10 (ldA 0 (gR 8 35 (ldI 1 (aI 10 (ifc (fun x y => x = y) (ldA 0 (gR 8 37 (ldI 4 (aI 10 (ldA 0 (gR 8 37 (ldI 1 (aI 10 (ifc (fun x y => x = y) (nx 117) (nx 114)))))))))) (nx 130)))))))))) (nx 130)))))))))) (nx 130))))))))))))))))))
noncomputable def bX8_frameComes_114 (Q : Option Value → MM → Prop) (nx : Nat → Kt) : Kt := nx 130
noncomputable def bX8_frameComes_117 (Q : Option Value → MM → Prop) (nx : Nat → Kt) : Kt := ldA 0 (du (gI 8 49 (cI 1 (bop (fun x y => x + y) (tI 8 49 (nx 136))))))
noncomputable def bX8_frameComes_130 (Q : Option Value → MM → Prop) (nx : Nat → Kt) : Kt := inc 4 1 (nx 31)
noncomputable def bX8_frameComes_136 (Q : Option Value → MM → Prop) (nx : Nat → Kt) : Kt := ldA 0 (gR 8 38 (ldI 1 (cI 1 (sAZ (cI 4 (cI 50 (ldI 3 (bop (fun x y => x * y) (ldA 0 (gR 8 42 (ldI 3 (aI 10 (cI 50 (bod (fun x y => x - x / y * y) (bop (fun x y => x + y) (bop (fun x y => x * y) (stI 4 (ldA 0 (gR 8 41 (ldI 4 (ldI 2 (cI 8 (bod (fun x y => x - x / y * y) (sAI (ldA 0 (gR 8 41 (ldI 4 (cI 1 (bop (fun x y => x + y) (ldA 0 (gR 8 35 (ldI 1 (aI 10 (sAI (ldA 0 (gR 8 41 (ldI 4 (cI 2 (bop (fun x y => x + y) (ldA 0 (gR 8 36 (ldI 1 (aI 10 (sAI (nx 202)))))))))))))))))))))))))))))))))))))))))))))
noncomputable def bX8_frameComes_202 (Q : Option Value → MM → Prop) (nx : Nat → Kt) : Kt := ldA 0 (gR 8 41 (ldI 4 (cI 3 (bop (fun x y => x + y) (ldA 0 (gI 8 43 (sAI (ldA 0 (gR 8 42 (ldI 3 (du2 (aI 10 (cI 1 (bop (fun x y => x + y) (sAI (rV Q))))))))))))))))
noncomputable def kX8_frameComes (Q : Option Value → MM → Prop) (nx : Nat → Kt) : Nat → Kt := bse [(0, bX8_frameComes_0 Q nx), (21, bX8_frameComes_21 Q nx), (31, bX8_frameComes_31 Q nx), (114, bX8_frameComes_114 Q nx), (117, bX8_frameComes_117 Q nx), (130, bX8_frameComes_130 Q nx), (136, bX8_frameComes_136 Q nx), (202, bX8_frameComes_202 Q nx)]
abbrev rX8_frameComes : Room := { frames := 0, cells := 0, slots := 0, locals := 0 }
noncomputable def wX8_frameComes : Mw := mw 5 kX8_frameComes
set_option maxRecDepth 20000 in
theorem oX8_frameComes_0 {T : Ct} {Q : Option Value → MM → Prop} (C : Cx T cX8_frameComes 5 RX8 0 0) (CR : CxR T 0 0) (hr : T.2.2.2.2.2.2.2.2.1.sig.returnType = none) (hnm : T.2.2.2.2.2.2.2.2.1.name = "frameComes") {nx : Nat → Kt} (hn : ∀ pc, Sd T 5 (QT T Q 0 0) 0 0 pc (nx pc)) : Sd T 5 (QT T Q 0 0) 0 0 0 (bX8_frameComes_0 Q nx) := x_al_n C dX8_frameComes_0 rfl (gf_X8_35 C dX8_frameComes_1 (x_il_n C dX8_frameComes_4 rfl (x_iald C dX8_frameComes_5 (x_ic C dX8_frameComes_6 (by decide) (x_ic_ge C (hn 21) dX8_frameComes_7 (by decide) (x_al_n C dX8_frameComes_10 rfl (x_dup C dX8_frameComes_11 (gf_X8_204 C dX8_frameComes_12 (x_ic C dX8_frameComes_15 (by decide) (x_iadd C dX8_frameComes_16 (pf_X8_204 C dX8_frameComes_17 (x_rV C hr dX8_frameComes_20))))))))))))
set_option maxRecDepth 20000 in
theorem oX8_frameComes_21 {T : Ct} {Q : Option Value → MM → Prop} (C : Cx T cX8_frameComes 5 RX8 0 0) (CR : CxR T 0 0) (hr : T.2.2.2.2.2.2.2.2.1.sig.returnType = none) (hnm : T.2.2.2.2.2.2.2.2.1.name = "frameComes") {nx : Nat → Kt} (hn : ∀ pc, Sd T 5 (QT T Q 0 0) 0 0 pc (nx pc)) : Sd T 5 (QT T Q 0 0) 0 0 21 (bX8_frameComes_21 Q nx) := x_il_n C dX8_frameComes_21 rfl (x_bp C dX8_frameComes_22 (by decide) (x_idiv C dX8_frameComes_24 (x_is_n C dX8_frameComes_25 rfl (by decide) (x_il_n C dX8_frameComes_26 rfl (x_ic C dX8_frameComes_27 (by decide) (x_iadd C dX8_frameComes_28 (x_is C dX8_frameComes_29 (by decide) (hn 31))))))))
set_option maxRecDepth 20000 in
theorem oX8_frameComes_31 {T : Ct} {Q : Option Value → MM → Prop} (C : Cx T cX8_frameComes 5 RX8 0 0) (CR : CxR T 0 0) (hr : T.2.2.2.2.2.2.2.2.1.sig.returnType = none) (hnm : T.2.2.2.2.2.2.2.2.1.name = "frameComes") {nx : Nat → Kt} (hn : ∀ pc, Sd T 5 (QT T Q 0 0) 0 0 pc (nx pc)) : Sd T 5 (QT T Q 0 0) 0 0 31 (bX8_frameComes_31 Q nx) := x_il C dX8_frameComes_31 (x_al_n C dX8_frameComes_33 rfl (gf_X8_207 C dX8_frameComes_34 (x_ic_ge C (hn 136) dX8_frameComes_37 (by decide) (x_al_n C dX8_frameComes_40 rfl (gf_X8_120 C dX8_frameComes_41 (x_il C dX8_frameComes_44 (x_zald C dX8_frameComes_46 (x_if_eq C (hn 130) dX8_frameComes_47 (by decide) (x_al_n C dX8_frameComes_50 rfl (gf_X8_105 C dX8_frameComes_51 (x_il C dX8_frameComes_54 (x_iald C dX8_frameComes_56 (x_al_n C dX8_frameComes_57 rfl (gf_X8_105 C dX8_frameComes_58 (x_il_n C dX8_frameComes_61 rfl (x_iald C dX8_frameComes_62 (x_ic_ne C (hn 130) dX8_frameComes_63 (by decide) (x_al_n C dX8_frameComes_66 rfl (gf_X8_108 C dX8_frameComes_67 (x_il C dX8_frameComes_70 (x_iald C dX8_frameComes_72 (x_al_n C dX8_frameComes_73 rfl (gf_X8_108 C dX8_frameComes_74 (x_il_n C dX8_frameComes_77 rfl (x_iald C dX8_frameComes_78 (x_ic_ne C (hn 130) dX8_frameComes_79 (by decide) (x_al_n C dX8_frameComes_82 rfl (gf_X8_111 C dX8_frameComes_83 (x_il C dX8_frameComes_86 (x_iald C dX8_frameComes_88 (x_al_n C dX8_frameComes_89 rfl (gf_X8_111 C dX8_frameComes_90 (x_il_n C dX8_frameComes_93 rfl (x_iald C dX8_frameComes_94 (x_ic_ne C (hn 130) dX8_frameComes_95 (by decide) (x_al_n C dX8_frameComes_98 rfl (gf_X8_117 C dX8_frameComes_99 (x_il C dX8_frameComes_102 (x_iald C dX8_frameComes_104 (x_al_n C dX8_frameComes_105 rfl (gf_X8_117 C dX8_frameComes_106 (x_il_n C dX8_frameComes_109 rfl (x_iald C dX8_frameComes_110 (x_ic_eq C (hn 117) dX8_frameComes_111 (by decide) (hn 114)))))))))))))))))))))))))))))))))))))))))))))
set_option maxRecDepth 20000 in
theorem oX8_frameComes_114 {T : Ct} {Q : Option Value → MM → Prop} (C : Cx T cX8_frameComes 5 RX8 0 0) (CR : CxR T 0 0) (hr : T.2.2.2.2.2.2.2.2.1.sig.returnType = none) (hnm : T.2.2.2.2.2.2.2.2.1.name = "frameComes") {nx : Nat → Kt} (hn : ∀ pc, Sd T 5 (QT T Q 0 0) 0 0 pc (nx pc)) : Sd T 5 (QT T Q 0 0) 0 0 114 (bX8_frameComes_114 Q nx) := x_goto C (hn 130) dX8_frameComes_114 (by decide)
set_option maxRecDepth 20000 in
theorem oX8_frameComes_117 {T : Ct} {Q : Option Value → MM → Prop} (C : Cx T cX8_frameComes 5 RX8 0 0) (CR : CxR T 0 0) (hr : T.2.2.2.2.2.2.2.2.1.sig.returnType = none) (hnm : T.2.2.2.2.2.2.2.2.1.name = "frameComes") {nx : Nat → Kt} (hn : ∀ pc, Sd T 5 (QT T Q 0 0) 0 0 pc (nx pc)) : Sd T 5 (QT T Q 0 0) 0 0 117 (bX8_frameComes_117 Q nx) := x_al_n C dX8_frameComes_117 rfl (x_dup C dX8_frameComes_118 (gf_X8_210 C dX8_frameComes_119 (x_ic C dX8_frameComes_122 (by decide) (x_iadd C dX8_frameComes_123 (pf_X8_210 C dX8_frameComes_124 (x_goto C (hn 136) dX8_frameComes_127 (by decide)))))))
set_option maxRecDepth 20000 in
theorem oX8_frameComes_130 {T : Ct} {Q : Option Value → MM → Prop} (C : Cx T cX8_frameComes 5 RX8 0 0) (CR : CxR T 0 0) (hr : T.2.2.2.2.2.2.2.2.1.sig.returnType = none) (hnm : T.2.2.2.2.2.2.2.2.1.name = "frameComes") {nx : Nat → Kt} (hn : ∀ pc, Sd T 5 (QT T Q 0 0) 0 0 pc (nx pc)) : Sd T 5 (QT T Q 0 0) 0 0 130 (bX8_frameComes_130 Q nx) := x_inc C dX8_frameComes_130 (by decide) (by decide) (x_goto C (hn 31) dX8_frameComes_133 (by decide))
set_option maxRecDepth 20000 in
theorem oX8_frameComes_136 {T : Ct} {Q : Option Value → MM → Prop} (C : Cx T cX8_frameComes 5 RX8 0 0) (CR : CxR T 0 0) (hr : T.2.2.2.2.2.2.2.2.1.sig.returnType = none) (hnm : T.2.2.2.2.2.2.2.2.1.name = "frameComes") {nx : Nat → Kt} (hn : ∀ pc, Sd T 5 (QT T Q 0 0) 0 0 pc (nx pc)) : Sd T 5 (QT T Q 0 0) 0 0 136 (bX8_frameComes_136 Q nx) := x_al_n C dX8_frameComes_136 rfl (gf_X8_120 C dX8_frameComes_137 (x_il_n C dX8_frameComes_140 rfl (x_ic C dX8_frameComes_141 (by decide) (x_zast C dX8_frameComes_142 (x_ic C dX8_frameComes_143 (by decide) (x_bp C dX8_frameComes_144 (by decide) (x_il_n C dX8_frameComes_146 rfl (x_imul C dX8_frameComes_147 (x_al_n C dX8_frameComes_148 rfl (gf_X8_129 C dX8_frameComes_149 (x_il_n C dX8_frameComes_152 rfl (x_iald C dX8_frameComes_153 (x_bp C dX8_frameComes_154 (by decide) (x_irem C dX8_frameComes_156 (x_iadd C dX8_frameComes_157 (x_imul C dX8_frameComes_158 (x_is C dX8_frameComes_159 (by decide) (x_al_n C dX8_frameComes_161 rfl (gf_X8_126 C dX8_frameComes_162 (x_il C dX8_frameComes_165 (x_il_n C dX8_frameComes_167 rfl (x_bp C dX8_frameComes_168 (by decide) (x_irem C dX8_frameComes_170 (x_iast C dX8_frameComes_171 (x_al_n C dX8_frameComes_172 rfl (gf_X8_126 C dX8_frameComes_173 (x_il C dX8_frameComes_176 (x_ic C dX8_frameComes_178 (by decide) (x_iadd C dX8_frameComes_179 (x_al_n C dX8_frameComes_180 rfl (gf_X8_111 C dX8_frameComes_181 (x_il_n C dX8_frameComes_184 rfl (x_iald C dX8_frameComes_185 (x_iast C dX8_frameComes_186 (x_al_n C dX8_frameComes_187 rfl (gf_X8_126 C dX8_frameComes_188 (x_il C dX8_frameComes_191 (x_ic C dX8_frameComes_193 (by decide) (x_iadd C dX8_frameComes_194 (x_al_n C dX8_frameComes_195 rfl (gf_X8_114 C dX8_frameComes_196 (x_il_n C dX8_frameComes_199 rfl (x_iald C dX8_frameComes_200 (x_iast C dX8_frameComes_201 (hn 202)))))))))))))))))))))))))))))))))))))))))))))
set_option maxRecDepth 20000 in
theorem oX8_frameComes_202 {T : Ct} {Q : Option Value → MM → Prop} (C : Cx T cX8_frameComes 5 RX8 0 0) (CR : CxR T 0 0) (hr : T.2.2.2.2.2.2.2.2.1.sig.returnType = none) (hnm : T.2.2.2.2.2.2.2.2.1.name = "frameComes") {nx : Nat → Kt} (hn : ∀ pc, Sd T 5 (QT T Q 0 0) 0 0 pc (nx pc)) : Sd T 5 (QT T Q 0 0) 0 0 202 (bX8_frameComes_202 Q nx) := x_al_n C dX8_frameComes_202 rfl (gf_X8_126 C dX8_frameComes_203 (x_il C dX8_frameComes_206 (x_ic C dX8_frameComes_208 (by decide) (x_iadd C dX8_frameComes_209 (x_al_n C dX8_frameComes_210 rfl (gf_X8_213 C dX8_frameComes_211 (x_iast C dX8_frameComes_214 (x_al_n C dX8_frameComes_215 rfl (gf_X8_129 C dX8_frameComes_216 (x_il_n C dX8_frameComes_219 rfl (x_dup2 C dX8_frameComes_220 (x_iald C dX8_frameComes_221 (x_ic C dX8_frameComes_222 (by decide) (x_iadd C dX8_frameComes_223 (x_iast C dX8_frameComes_224 (x_rV C hr dX8_frameComes_225))))))))))))))))
set_option maxRecDepth 20000 in
theorem mX8_frameComes (l : Launch) (D : va_G) (cA : Nat → ClassId) (base : Nat) : Mc l D cA base yX8_frameComes cX8_frameComes 5 none rX8_frameComes wX8_frameComes := mc_of (by decide +kernel) kX8_frameComes (fun T Q C CR hr hnm nx hn => bse_ok _ (List.forall_mem_cons.mpr ⟨oX8_frameComes_0 C CR hr hnm hn, List.forall_mem_cons.mpr ⟨oX8_frameComes_21 C CR hr hnm hn, List.forall_mem_cons.mpr ⟨oX8_frameComes_31 C CR hr hnm hn, List.forall_mem_cons.mpr ⟨oX8_frameComes_114 C CR hr hnm hn, List.forall_mem_cons.mpr ⟨oX8_frameComes_117 C CR hr hnm hn, List.forall_mem_cons.mpr ⟨oX8_frameComes_130 C CR hr hnm hn, List.forall_mem_cons.mpr ⟨oX8_frameComes_136 C CR hr hnm hn, List.forall_mem_cons.mpr ⟨oX8_frameComes_202 C CR hr hnm hn, fun _ h => nomatch h⟩⟩⟩⟩⟩⟩⟩⟩))
theorem dX8_noteComes_0 : decode cX8_noteComes 0 = .ok (.iconst 1, 1) := by decide +kernel
theorem dX8_noteComes_1 : decode cX8_noteComes 1 = .ok (.istore_n 3, 1) := by decide +kernel
theorem dX8_noteComes_2 : decode cX8_noteComes 2 = .ok (.iconst 1, 1) := by decide +kernel
theorem dX8_noteComes_3 : decode cX8_noteComes 3 = .ok (.istore 4, 2) := by decide +kernel
theorem dX8_noteComes_5 : decode cX8_noteComes 5 = .ok (.iconst 0, 1) := by decide +kernel
theorem dX8_noteComes_6 : decode cX8_noteComes 6 = .ok (.istore 5, 2) := by decide +kernel
theorem dX8_noteComes_8 : decode cX8_noteComes 8 = .ok (.iload 5, 2) := by decide +kernel
theorem dX8_noteComes_10 : decode cX8_noteComes 10 = .ok (.iconst 5, 1) := by decide +kernel
theorem dX8_noteComes_11 : decode cX8_noteComes 11 = .ok (.if_icmp .ge 94, 3) := by decide +kernel
theorem dX8_noteComes_14 : decode cX8_noteComes 14 = .ok (.aload_n 0, 1) := by decide +kernel
theorem dX8_noteComes_15 : decode cX8_noteComes 15 = .ok (.getfield 102, 3) := by decide +kernel
theorem dX8_noteComes_18 : decode cX8_noteComes 18 = .ok (.bipush 10, 2) := by decide +kernel
theorem dX8_noteComes_20 : decode cX8_noteComes 20 = .ok (.iload_n 1, 1) := by decide +kernel
theorem dX8_noteComes_21 : decode cX8_noteComes 21 = .ok (.imul, 1) := by decide +kernel
theorem dX8_noteComes_22 : decode cX8_noteComes 22 = .ok (.iconst 5, 1) := by decide +kernel
theorem dX8_noteComes_23 : decode cX8_noteComes 23 = .ok (.iadd, 1) := by decide +kernel
theorem dX8_noteComes_24 : decode cX8_noteComes 24 = .ok (.iload 5, 2) := by decide +kernel
theorem dX8_noteComes_26 : decode cX8_noteComes 26 = .ok (.iadd, 1) := by decide +kernel
theorem dX8_noteComes_27 : decode cX8_noteComes 27 = .ok (.iaload, 1) := by decide +kernel
theorem dX8_noteComes_28 : decode cX8_noteComes 28 = .ok (.istore 6, 2) := by decide +kernel
theorem dX8_noteComes_30 : decode cX8_noteComes 30 = .ok (.iload 4, 2) := by decide +kernel
theorem dX8_noteComes_32 : decode cX8_noteComes 32 = .ok (.ifCond .eq 19, 3) := by decide +kernel
theorem dX8_noteComes_35 : decode cX8_noteComes 35 = .ok (.iload 6, 2) := by decide +kernel
theorem dX8_noteComes_37 : decode cX8_noteComes 37 = .ok (.aload_n 0, 1) := by decide +kernel
theorem dX8_noteComes_38 : decode cX8_noteComes 38 = .ok (.iload_n 2, 1) := by decide +kernel
theorem dX8_noteComes_39 : decode cX8_noteComes 39 = .ok (.iload 5, 2) := by decide +kernel
theorem dX8_noteComes_41 : decode cX8_noteComes 41 = .ok (.invokevirtual 216, 3) := by decide +kernel
theorem dX8_noteComes_44 : decode cX8_noteComes 44 = .ok (.if_icmp .ne 7, 3) := by decide +kernel
theorem dX8_noteComes_47 : decode cX8_noteComes 47 = .ok (.iconst 1, 1) := by decide +kernel
theorem dX8_noteComes_48 : decode cX8_noteComes 48 = .ok (.goto 4, 3) := by decide +kernel
theorem dX8_noteComes_51 : decode cX8_noteComes 51 = .ok (.iconst 0, 1) := by decide +kernel
theorem dX8_noteComes_52 : decode cX8_noteComes 52 = .ok (.istore 4, 2) := by decide +kernel
theorem dX8_noteComes_54 : decode cX8_noteComes 54 = .ok (.iload_n 3, 1) := by decide +kernel
theorem dX8_noteComes_55 : decode cX8_noteComes 55 = .ok (.ifCond .eq 42, 3) := by decide +kernel
theorem dX8_noteComes_58 : decode cX8_noteComes 58 = .ok (.iload 5, 2) := by decide +kernel
theorem dX8_noteComes_60 : decode cX8_noteComes 60 = .ok (.iconst 4, 1) := by decide +kernel
theorem dX8_noteComes_61 : decode cX8_noteComes 61 = .ok (.if_icmp .ge 18, 3) := by decide +kernel
theorem dX8_noteComes_64 : decode cX8_noteComes 64 = .ok (.iload 6, 2) := by decide +kernel
theorem dX8_noteComes_66 : decode cX8_noteComes 66 = .ok (.aload_n 0, 1) := by decide +kernel
theorem dX8_noteComes_67 : decode cX8_noteComes 67 = .ok (.iload_n 2, 1) := by decide +kernel
theorem dX8_noteComes_68 : decode cX8_noteComes 68 = .ok (.iload 5, 2) := by decide +kernel
theorem dX8_noteComes_70 : decode cX8_noteComes 70 = .ok (.invokevirtual 216, 3) := by decide +kernel
theorem dX8_noteComes_73 : decode cX8_noteComes 73 = .ok (.if_icmp .ne 24, 3) := by decide +kernel
theorem dX8_noteComes_76 : decode cX8_noteComes 76 = .ok (.goto 17, 3) := by decide +kernel
theorem dX8_noteComes_79 : decode cX8_noteComes 79 = .ok (.iload 6, 2) := by decide +kernel
theorem dX8_noteComes_81 : decode cX8_noteComes 81 = .ok (.iconst 4, 1) := by decide +kernel
theorem dX8_noteComes_82 : decode cX8_noteComes 82 = .ok (.iand, 1) := by decide +kernel
theorem dX8_noteComes_83 : decode cX8_noteComes 83 = .ok (.aload_n 0, 1) := by decide +kernel
theorem dX8_noteComes_84 : decode cX8_noteComes 84 = .ok (.iload_n 2, 1) := by decide +kernel
theorem dX8_noteComes_85 : decode cX8_noteComes 85 = .ok (.invokevirtual 136, 3) := by decide +kernel
theorem dX8_noteComes_88 : decode cX8_noteComes 88 = .ok (.iconst 4, 1) := by decide +kernel
theorem dX8_noteComes_89 : decode cX8_noteComes 89 = .ok (.iand, 1) := by decide +kernel
theorem dX8_noteComes_90 : decode cX8_noteComes 90 = .ok (.if_icmp .ne 7, 3) := by decide +kernel
theorem dX8_noteComes_93 : decode cX8_noteComes 93 = .ok (.iconst 1, 1) := by decide +kernel
theorem dX8_noteComes_94 : decode cX8_noteComes 94 = .ok (.goto 4, 3) := by decide +kernel
theorem dX8_noteComes_97 : decode cX8_noteComes 97 = .ok (.iconst 0, 1) := by decide +kernel
theorem dX8_noteComes_98 : decode cX8_noteComes 98 = .ok (.istore_n 3, 1) := by decide +kernel
theorem dX8_noteComes_99 : decode cX8_noteComes 99 = .ok (.iinc 5 1, 3) := by decide +kernel
theorem dX8_noteComes_102 : decode cX8_noteComes 102 = .ok (.goto (-94), 3) := by decide +kernel
theorem dX8_noteComes_105 : decode cX8_noteComes 105 = .ok (.iconst 0, 1) := by decide +kernel
theorem dX8_noteComes_106 : decode cX8_noteComes 106 = .ok (.istore 5, 2) := by decide +kernel
theorem dX8_noteComes_108 : decode cX8_noteComes 108 = .ok (.iload 5, 2) := by decide +kernel
theorem dX8_noteComes_110 : decode cX8_noteComes 110 = .ok (.iconst 5, 1) := by decide +kernel
theorem dX8_noteComes_111 : decode cX8_noteComes 111 = .ok (.if_icmp .ge 32, 3) := by decide +kernel
theorem dX8_noteComes_114 : decode cX8_noteComes 114 = .ok (.aload_n 0, 1) := by decide +kernel
theorem dX8_noteComes_115 : decode cX8_noteComes 115 = .ok (.getfield 62, 3) := by decide +kernel
theorem dX8_noteComes_118 : decode cX8_noteComes 118 = .ok (.iconst 5, 1) := by decide +kernel
theorem dX8_noteComes_119 : decode cX8_noteComes 119 = .ok (.iload_n 2, 1) := by decide +kernel
theorem dX8_noteComes_120 : decode cX8_noteComes 120 = .ok (.imul, 1) := by decide +kernel
theorem dX8_noteComes_121 : decode cX8_noteComes 121 = .ok (.iload 5, 2) := by decide +kernel
theorem dX8_noteComes_123 : decode cX8_noteComes 123 = .ok (.iadd, 1) := by decide +kernel
theorem dX8_noteComes_124 : decode cX8_noteComes 124 = .ok (.aload_n 0, 1) := by decide +kernel
theorem dX8_noteComes_125 : decode cX8_noteComes 125 = .ok (.getfield 102, 3) := by decide +kernel
theorem dX8_noteComes_128 : decode cX8_noteComes 128 = .ok (.bipush 10, 2) := by decide +kernel
theorem dX8_noteComes_130 : decode cX8_noteComes 130 = .ok (.iload_n 1, 1) := by decide +kernel
theorem dX8_noteComes_131 : decode cX8_noteComes 131 = .ok (.imul, 1) := by decide +kernel
theorem dX8_noteComes_132 : decode cX8_noteComes 132 = .ok (.iload 5, 2) := by decide +kernel
theorem dX8_noteComes_134 : decode cX8_noteComes 134 = .ok (.iadd, 1) := by decide +kernel
theorem dX8_noteComes_135 : decode cX8_noteComes 135 = .ok (.iaload, 1) := by decide +kernel
theorem dX8_noteComes_136 : decode cX8_noteComes 136 = .ok (.iastore, 1) := by decide +kernel
theorem dX8_noteComes_137 : decode cX8_noteComes 137 = .ok (.iinc 5 1, 3) := by decide +kernel
theorem dX8_noteComes_140 : decode cX8_noteComes 140 = .ok (.goto (-32), 3) := by decide +kernel
theorem dX8_noteComes_143 : decode cX8_noteComes 143 = .ok (.iload_n 3, 1) := by decide +kernel
theorem dX8_noteComes_144 : decode cX8_noteComes 144 = .ok (.ifCond .ne 18, 3) := by decide +kernel
theorem dX8_noteComes_147 : decode cX8_noteComes 147 = .ok (.aload_n 0, 1) := by decide +kernel
theorem dX8_noteComes_148 : decode cX8_noteComes 148 = .ok (.getfield 62, 3) := by decide +kernel
theorem dX8_noteComes_151 : decode cX8_noteComes 151 = .ok (.iconst 5, 1) := by decide +kernel
theorem dX8_noteComes_152 : decode cX8_noteComes 152 = .ok (.iload_n 2, 1) := by decide +kernel
theorem dX8_noteComes_153 : decode cX8_noteComes 153 = .ok (.imul, 1) := by decide +kernel
theorem dX8_noteComes_154 : decode cX8_noteComes 154 = .ok (.iconst 4, 1) := by decide +kernel
theorem dX8_noteComes_155 : decode cX8_noteComes 155 = .ok (.iadd, 1) := by decide +kernel
theorem dX8_noteComes_156 : decode cX8_noteComes 156 = .ok (.dup2, 1) := by decide +kernel
theorem dX8_noteComes_157 : decode cX8_noteComes 157 = .ok (.iaload, 1) := by decide +kernel
theorem dX8_noteComes_158 : decode cX8_noteComes 158 = .ok (.bipush (-9), 2) := by decide +kernel
theorem dX8_noteComes_160 : decode cX8_noteComes 160 = .ok (.iand, 1) := by decide +kernel
theorem dX8_noteComes_161 : decode cX8_noteComes 161 = .ok (.iastore, 1) := by decide +kernel
theorem dX8_noteComes_162 : decode cX8_noteComes 162 = .ok (.aload_n 0, 1) := by decide +kernel
theorem dX8_noteComes_163 : decode cX8_noteComes 163 = .ok (.getfield 29, 3) := by decide +kernel
theorem dX8_noteComes_166 : decode cX8_noteComes 166 = .ok (.iload_n 2, 1) := by decide +kernel
theorem dX8_noteComes_167 : decode cX8_noteComes 167 = .ok (.iconst 2, 1) := by decide +kernel
theorem dX8_noteComes_168 : decode cX8_noteComes 168 = .ok (.iastore, 1) := by decide +kernel
theorem dX8_noteComes_169 : decode cX8_noteComes 169 = .ok (.aload_n 0, 1) := by decide +kernel
theorem dX8_noteComes_170 : decode cX8_noteComes 170 = .ok (.getfield 32, 3) := by decide +kernel
theorem dX8_noteComes_173 : decode cX8_noteComes 173 = .ok (.iload_n 2, 1) := by decide +kernel
theorem dX8_noteComes_174 : decode cX8_noteComes 174 = .ok (.aload_n 0, 1) := by decide +kernel
theorem dX8_noteComes_175 : decode cX8_noteComes 175 = .ok (.getfield 26, 3) := by decide +kernel
theorem dX8_noteComes_178 : decode cX8_noteComes 178 = .ok (.iload_n 2, 1) := by decide +kernel
theorem dX8_noteComes_179 : decode cX8_noteComes 179 = .ok (.baload, 1) := by decide +kernel
theorem dX8_noteComes_180 : decode cX8_noteComes 180 = .ok (.ifCond .eq 7, 3) := by decide +kernel
theorem dX8_noteComes_183 : decode cX8_noteComes 183 = .ok (.iconst 3, 1) := by decide +kernel
theorem dX8_noteComes_184 : decode cX8_noteComes 184 = .ok (.goto 5, 3) := by decide +kernel
theorem dX8_noteComes_187 : decode cX8_noteComes 187 = .ok (.bipush 90, 2) := by decide +kernel
theorem dX8_noteComes_189 : decode cX8_noteComes 189 = .ok (.iastore, 1) := by decide +kernel
theorem dX8_noteComes_190 : decode cX8_noteComes 190 = .ok (.iload 4, 2) := by decide +kernel
theorem dX8_noteComes_192 : decode cX8_noteComes 192 = .ok (.ifCond .ne 10, 3) := by decide +kernel
theorem dX8_noteComes_195 : decode cX8_noteComes 195 = .ok (.aload_n 0, 1) := by decide +kernel
theorem dX8_noteComes_196 : decode cX8_noteComes 196 = .ok (.getfield 50, 3) := by decide +kernel
theorem dX8_noteComes_199 : decode cX8_noteComes 199 = .ok (.iload_n 2, 1) := by decide +kernel
theorem dX8_noteComes_200 : decode cX8_noteComes 200 = .ok (.iconst 1, 1) := by decide +kernel
theorem dX8_noteComes_201 : decode cX8_noteComes 201 = .ok (.bastore, 1) := by decide +kernel
theorem dX8_noteComes_202 : decode cX8_noteComes 202 = .ok (.aload_n 0, 1) := by decide +kernel
theorem dX8_noteComes_203 : decode cX8_noteComes 203 = .ok (.getfield 53, 3) := by decide +kernel
theorem dX8_noteComes_206 : decode cX8_noteComes 206 = .ok (.iload_n 2, 1) := by decide +kernel
theorem dX8_noteComes_207 : decode cX8_noteComes 207 = .ok (.iconst 1, 1) := by decide +kernel
theorem dX8_noteComes_208 : decode cX8_noteComes 208 = .ok (.bastore, 1) := by decide +kernel
theorem dX8_noteComes_209 : decode cX8_noteComes 209 = .ok (.aload_n 0, 1) := by decide +kernel
theorem dX8_noteComes_210 : decode cX8_noteComes 210 = .ok (.getfield 59, 3) := by decide +kernel
theorem dX8_noteComes_213 : decode cX8_noteComes 213 = .ok (.iload_n 2, 1) := by decide +kernel
theorem dX8_noteComes_214 : decode cX8_noteComes 214 = .ok (.dup2, 1) := by decide +kernel
theorem dX8_noteComes_215 : decode cX8_noteComes 215 = .ok (.iaload, 1) := by decide +kernel
theorem dX8_noteComes_216 : decode cX8_noteComes 216 = .ok (.iconst 1, 1) := by decide +kernel
theorem dX8_noteComes_217 : decode cX8_noteComes 217 = .ok (.iadd, 1) := by decide +kernel
theorem dX8_noteComes_218 : decode cX8_noteComes 218 = .ok (.iastore, 1) := by decide +kernel
theorem dX8_noteComes_219 : decode cX8_noteComes 219 = .ok (.return_, 1) := by decide +kernel
noncomputable def bX8_noteComes_0 (Q : Option Value → MM → Prop) (nx : Nat → Kt) : Kt := cI 1 (stI 3 (cI 1 (stI 4 (cI 0 (stI 5 (nx 8))))))
noncomputable def bX8_noteComes_8 (Q : Option Value → MM → Prop) (nx : Nat → Kt) : Kt := ldI 5 (cI 5 (ifc (fun x y => y ≤ x) (nx 105) (ldA 0 (gR 8 31 (cI 10 (ldI 1 (bop (fun x y => x * y) (cI 5 (bop (fun x y => x + y) (ldI 5 (bop (fun x y => x + y) (aI 10 (stI 6 (ldI 4 (ifz (fun x => x = 0) (nx 51) (ldI 6 (ldA 0 (ldI 2 (ldI 5 (cV 2 8 wX8_own 0 0 0 0 (ifc (fun x y => x = y) (cI 1 (nx 52)) (nx 51))))))))))))))))))))))
noncomputable def bX8_noteComes_51 (Q : Option Value → MM → Prop) (nx : Nat → Kt) : Kt := cI 0 (nx 52)
noncomputable def bX8_noteComes_52 (Q : Option Value → MM → Prop) (nx : Nat → Kt) : Kt := stI 4 (ldI 3 (ifz (fun x => x = 0) (nx 97) (ldI 5 (cI 4 (ifc (fun x y => y ≤ x) (nx 79) (ldI 6 (ldA 0 (ldI 2 (ldI 5 (cV 2 8 wX8_own 0 0 0 0 (ifc (fun x y => x = y) (nx 93) (nx 97))))))))))))
noncomputable def bX8_noteComes_79 (Q : Option Value → MM → Prop) (nx : Nat → Kt) : Kt := ldI 6 (cI 4 (bop (fun x y => x &&& y) (ldA 0 (ldI 2 (cV 1 8 wX8_bits 0 0 0 0 (cI 4 (bop (fun x y => x &&& y) (ifc (fun x y => x = y) (nx 93) (nx 97)))))))))
noncomputable def bX8_noteComes_93 (Q : Option Value → MM → Prop) (nx : Nat → Kt) : Kt := cI 1 (nx 98)
noncomputable def bX8_noteComes_97 (Q : Option Value → MM → Prop) (nx : Nat → Kt) : Kt := cI 0 (nx 98)
noncomputable def bX8_noteComes_98 (Q : Option Value → MM → Prop) (nx : Nat → Kt) : Kt := stI 3 (inc 5 1 (nx 8))
noncomputable def bX8_noteComes_105 (Q : Option Value → MM → Prop) (nx : Nat → Kt) : Kt := cI 0 (stI 5 (nx 108))
noncomputable def bX8_noteComes_108 (Q : Option Value → MM → Prop) (nx : Nat → Kt) : Kt := ldI 5 (cI 5 (ifc (fun x y => y ≤ x) (nx 143) (ldA 0 (gR 8 18 (cI 5 (ldI 2 (bop (fun x y => x * y) (ldI 5 (bop (fun x y => x + y) (ldA 0 (gR 8 31 (cI 10 (ldI 1 (bop (fun x y => x * y) (ldI 5 (bop (fun x y => x + y) (aI 10 (sAI (inc 5 1 (nx 108))))))))))))))))))))
noncomputable def bX8_noteComes_143 (Q : Option Value → MM → Prop) (nx : Nat → Kt) : Kt := ldI 3 (ifz (fun x => x = 0) (ldA 0 (gR 8 18 (cI 5 (ldI 2 (bop (fun x y => x * y) (cI 4 (bop (fun x y => x + y) (du2 (aI 10 (cI (-9) (bop (fun x y => x &&& y) (sAI (nx 162))))))))))))) (nx 162))
noncomputable def bX8_noteComes_162 (Q : Option Value → MM → Prop) (nx : Nat → Kt) : Kt := ldA 0 (gR 8 7 (ldI 2 (cI 2 (sAI (ldA 0 (gR 8 8 (ldI 2 (ldA 0 (gR 8 6 (ldI 2 (aI 11 (ifz (fun x => x = 0) (nx 187) (cI 3 (nx 189))))))))))))))
noncomputable def bX8_noteComes_187 (Q : Option Value → MM → Prop) (nx : Nat → Kt) : Kt := cI 90 (nx 189)
noncomputable def bX8_noteComes_189 (Q : Option Value → MM → Prop) (nx : Nat → Kt) : Kt := sAI (ldI 4 (ifz (fun x => x = 0) (ldA 0 (gR 8 14 (ldI 2 (cI 1 (sAZ (nx 202)))))) (nx 202)))
noncomputable def bX8_noteComes_202 (Q : Option Value → MM → Prop) (nx : Nat → Kt) : Kt := ldA 0 (gR 8 15 (ldI 2 (cI 1 (sAZ (ldA 0 (gR 8 17 (ldI 2 (du2 (aI 10 (cI 1 (bop (fun x y => x + y) (sAI (rV Q)))))))))))))
noncomputable def kX8_noteComes (Q : Option Value → MM → Prop) (nx : Nat → Kt) : Nat → Kt := bse [(0, bX8_noteComes_0 Q nx), (8, bX8_noteComes_8 Q nx), (51, bX8_noteComes_51 Q nx), (52, bX8_noteComes_52 Q nx), (79, bX8_noteComes_79 Q nx), (93, bX8_noteComes_93 Q nx), (97, bX8_noteComes_97 Q nx), (98, bX8_noteComes_98 Q nx), (105, bX8_noteComes_105 Q nx), (108, bX8_noteComes_108 Q nx), (143, bX8_noteComes_143 Q nx), (162, bX8_noteComes_162 Q nx), (187, bX8_noteComes_187 Q nx), (189, bX8_noteComes_189 Q nx), (202, bX8_noteComes_202 Q nx)]
abbrev rX8_noteComes : Room := { frames := 2, cells := 0, slots := 0, locals := 44 }
noncomputable def wX8_noteComes : Mw := mw 7 kX8_noteComes
set_option maxRecDepth 20000 in
theorem oX8_noteComes_0 {T : Ct} {Q : Option Value → MM → Prop} (C : Cx T cX8_noteComes 7 RX8 0 0) (CR : CxR T 2 44) (hr : T.2.2.2.2.2.2.2.2.1.sig.returnType = none) (hnm : T.2.2.2.2.2.2.2.2.1.name = "noteComes") {nx : Nat → Kt} (hn : ∀ pc, Sd T 7 (QT T Q 0 0) 0 0 pc (nx pc)) : Sd T 7 (QT T Q 0 0) 0 0 0 (bX8_noteComes_0 Q nx) := x_ic C dX8_noteComes_0 (by decide) (x_is_n C dX8_noteComes_1 rfl (by decide) (x_ic C dX8_noteComes_2 (by decide) (x_is C dX8_noteComes_3 (by decide) (x_ic C dX8_noteComes_5 (by decide) (x_is C dX8_noteComes_6 (by decide) (hn 8))))))
set_option maxRecDepth 20000 in
theorem oX8_noteComes_8 {T : Ct} {Q : Option Value → MM → Prop} (C : Cx T cX8_noteComes 7 RX8 0 0) (CR : CxR T 2 44) (hr : T.2.2.2.2.2.2.2.2.1.sig.returnType = none) (hnm : T.2.2.2.2.2.2.2.2.1.name = "noteComes") {nx : Nat → Kt} (hn : ∀ pc, Sd T 7 (QT T Q 0 0) 0 0 pc (nx pc)) : Sd T 7 (QT T Q 0 0) 0 0 8 (bX8_noteComes_8 Q nx) := x_il C dX8_noteComes_8 (x_ic C dX8_noteComes_10 (by decide) (x_ic_ge C (hn 105) dX8_noteComes_11 (by decide) (x_al_n C dX8_noteComes_14 rfl (gf_X8_102 C dX8_noteComes_15 (x_bp C dX8_noteComes_18 (by decide) (x_il_n C dX8_noteComes_20 rfl (x_imul C dX8_noteComes_21 (x_ic C dX8_noteComes_22 (by decide) (x_iadd C dX8_noteComes_23 (x_il C dX8_noteComes_24 (x_iadd C dX8_noteComes_26 (x_iald C dX8_noteComes_27 (x_is C dX8_noteComes_28 (by decide) (x_il C dX8_noteComes_30 (x_if_eq C (hn 51) dX8_noteComes_32 (by decide) (x_il C dX8_noteComes_35 (x_al_n C dX8_noteComes_37 rfl (x_il_n C dX8_noteComes_38 rfl (x_il C dX8_noteComes_39 (x_cV C CR mX8_own ⟨co_X8_own, init_X8, md_X8_own, by decide, by decide⟩ (ci := 8) (TX := TX8) (N := 51) rfl (by decide) ml_X8_216 im_X8_own se_X8_own dX8_noteComes_41 (x_ic_ne C (hn 51) dX8_noteComes_44 (by decide) (x_ic C dX8_noteComes_47 (by decide) (x_goto C (hn 52) dX8_noteComes_48 (by decide))))))))))))))))))))))))
set_option maxRecDepth 20000 in
theorem oX8_noteComes_51 {T : Ct} {Q : Option Value → MM → Prop} (C : Cx T cX8_noteComes 7 RX8 0 0) (CR : CxR T 2 44) (hr : T.2.2.2.2.2.2.2.2.1.sig.returnType = none) (hnm : T.2.2.2.2.2.2.2.2.1.name = "noteComes") {nx : Nat → Kt} (hn : ∀ pc, Sd T 7 (QT T Q 0 0) 0 0 pc (nx pc)) : Sd T 7 (QT T Q 0 0) 0 0 51 (bX8_noteComes_51 Q nx) := x_ic C dX8_noteComes_51 (by decide) (hn 52)
set_option maxRecDepth 20000 in
theorem oX8_noteComes_52 {T : Ct} {Q : Option Value → MM → Prop} (C : Cx T cX8_noteComes 7 RX8 0 0) (CR : CxR T 2 44) (hr : T.2.2.2.2.2.2.2.2.1.sig.returnType = none) (hnm : T.2.2.2.2.2.2.2.2.1.name = "noteComes") {nx : Nat → Kt} (hn : ∀ pc, Sd T 7 (QT T Q 0 0) 0 0 pc (nx pc)) : Sd T 7 (QT T Q 0 0) 0 0 52 (bX8_noteComes_52 Q nx) := x_is C dX8_noteComes_52 (by decide) (x_il_n C dX8_noteComes_54 rfl (x_if_eq C (hn 97) dX8_noteComes_55 (by decide) (x_il C dX8_noteComes_58 (x_ic C dX8_noteComes_60 (by decide) (x_ic_ge C (hn 79) dX8_noteComes_61 (by decide) (x_il C dX8_noteComes_64 (x_al_n C dX8_noteComes_66 rfl (x_il_n C dX8_noteComes_67 rfl (x_il C dX8_noteComes_68 (x_cV C CR mX8_own ⟨co_X8_own, init_X8, md_X8_own, by decide, by decide⟩ (ci := 8) (TX := TX8) (N := 51) rfl (by decide) ml_X8_216 im_X8_own se_X8_own dX8_noteComes_70 (x_ic_ne C (hn 97) dX8_noteComes_73 (by decide) (x_goto C (hn 93) dX8_noteComes_76 (by decide)))))))))))))
set_option maxRecDepth 20000 in
theorem oX8_noteComes_79 {T : Ct} {Q : Option Value → MM → Prop} (C : Cx T cX8_noteComes 7 RX8 0 0) (CR : CxR T 2 44) (hr : T.2.2.2.2.2.2.2.2.1.sig.returnType = none) (hnm : T.2.2.2.2.2.2.2.2.1.name = "noteComes") {nx : Nat → Kt} (hn : ∀ pc, Sd T 7 (QT T Q 0 0) 0 0 pc (nx pc)) : Sd T 7 (QT T Q 0 0) 0 0 79 (bX8_noteComes_79 Q nx) := x_il C dX8_noteComes_79 (x_ic C dX8_noteComes_81 (by decide) (x_iand C dX8_noteComes_82 (x_al_n C dX8_noteComes_83 rfl (x_il_n C dX8_noteComes_84 rfl (x_cV C CR mX8_bits ⟨co_X8_bits, init_X8, md_X8_bits, by decide, by decide⟩ (ci := 8) (TX := TX8) (N := 51) rfl (by decide) ml_X8_136 im_X8_bits se_X8_bits dX8_noteComes_85 (x_ic C dX8_noteComes_88 (by decide) (x_iand C dX8_noteComes_89 (x_ic_ne C (hn 97) dX8_noteComes_90 (by decide) (hn 93)))))))))
set_option maxRecDepth 20000 in
theorem oX8_noteComes_93 {T : Ct} {Q : Option Value → MM → Prop} (C : Cx T cX8_noteComes 7 RX8 0 0) (CR : CxR T 2 44) (hr : T.2.2.2.2.2.2.2.2.1.sig.returnType = none) (hnm : T.2.2.2.2.2.2.2.2.1.name = "noteComes") {nx : Nat → Kt} (hn : ∀ pc, Sd T 7 (QT T Q 0 0) 0 0 pc (nx pc)) : Sd T 7 (QT T Q 0 0) 0 0 93 (bX8_noteComes_93 Q nx) := x_ic C dX8_noteComes_93 (by decide) (x_goto C (hn 98) dX8_noteComes_94 (by decide))
set_option maxRecDepth 20000 in
theorem oX8_noteComes_97 {T : Ct} {Q : Option Value → MM → Prop} (C : Cx T cX8_noteComes 7 RX8 0 0) (CR : CxR T 2 44) (hr : T.2.2.2.2.2.2.2.2.1.sig.returnType = none) (hnm : T.2.2.2.2.2.2.2.2.1.name = "noteComes") {nx : Nat → Kt} (hn : ∀ pc, Sd T 7 (QT T Q 0 0) 0 0 pc (nx pc)) : Sd T 7 (QT T Q 0 0) 0 0 97 (bX8_noteComes_97 Q nx) := x_ic C dX8_noteComes_97 (by decide) (hn 98)
set_option maxRecDepth 20000 in
theorem oX8_noteComes_98 {T : Ct} {Q : Option Value → MM → Prop} (C : Cx T cX8_noteComes 7 RX8 0 0) (CR : CxR T 2 44) (hr : T.2.2.2.2.2.2.2.2.1.sig.returnType = none) (hnm : T.2.2.2.2.2.2.2.2.1.name = "noteComes") {nx : Nat → Kt} (hn : ∀ pc, Sd T 7 (QT T Q 0 0) 0 0 pc (nx pc)) : Sd T 7 (QT T Q 0 0) 0 0 98 (bX8_noteComes_98 Q nx) := x_is_n C dX8_noteComes_98 rfl (by decide) (x_inc C dX8_noteComes_99 (by decide) (by decide) (x_goto C (hn 8) dX8_noteComes_102 (by decide)))
set_option maxRecDepth 20000 in
theorem oX8_noteComes_105 {T : Ct} {Q : Option Value → MM → Prop} (C : Cx T cX8_noteComes 7 RX8 0 0) (CR : CxR T 2 44) (hr : T.2.2.2.2.2.2.2.2.1.sig.returnType = none) (hnm : T.2.2.2.2.2.2.2.2.1.name = "noteComes") {nx : Nat → Kt} (hn : ∀ pc, Sd T 7 (QT T Q 0 0) 0 0 pc (nx pc)) : Sd T 7 (QT T Q 0 0) 0 0 105 (bX8_noteComes_105 Q nx) := x_ic C dX8_noteComes_105 (by decide) (x_is C dX8_noteComes_106 (by decide) (hn 108))
set_option maxRecDepth 20000 in
theorem oX8_noteComes_108 {T : Ct} {Q : Option Value → MM → Prop} (C : Cx T cX8_noteComes 7 RX8 0 0) (CR : CxR T 2 44) (hr : T.2.2.2.2.2.2.2.2.1.sig.returnType = none) (hnm : T.2.2.2.2.2.2.2.2.1.name = "noteComes") {nx : Nat → Kt} (hn : ∀ pc, Sd T 7 (QT T Q 0 0) 0 0 pc (nx pc)) : Sd T 7 (QT T Q 0 0) 0 0 108 (bX8_noteComes_108 Q nx) := x_il C dX8_noteComes_108 (x_ic C dX8_noteComes_110 (by decide) (x_ic_ge C (hn 143) dX8_noteComes_111 (by decide) (x_al_n C dX8_noteComes_114 rfl (gf_X8_62 C dX8_noteComes_115 (x_ic C dX8_noteComes_118 (by decide) (x_il_n C dX8_noteComes_119 rfl (x_imul C dX8_noteComes_120 (x_il C dX8_noteComes_121 (x_iadd C dX8_noteComes_123 (x_al_n C dX8_noteComes_124 rfl (gf_X8_102 C dX8_noteComes_125 (x_bp C dX8_noteComes_128 (by decide) (x_il_n C dX8_noteComes_130 rfl (x_imul C dX8_noteComes_131 (x_il C dX8_noteComes_132 (x_iadd C dX8_noteComes_134 (x_iald C dX8_noteComes_135 (x_iast C dX8_noteComes_136 (x_inc C dX8_noteComes_137 (by decide) (by decide) (x_goto C (hn 108) dX8_noteComes_140 (by decide)))))))))))))))))))))
set_option maxRecDepth 20000 in
theorem oX8_noteComes_143 {T : Ct} {Q : Option Value → MM → Prop} (C : Cx T cX8_noteComes 7 RX8 0 0) (CR : CxR T 2 44) (hr : T.2.2.2.2.2.2.2.2.1.sig.returnType = none) (hnm : T.2.2.2.2.2.2.2.2.1.name = "noteComes") {nx : Nat → Kt} (hn : ∀ pc, Sd T 7 (QT T Q 0 0) 0 0 pc (nx pc)) : Sd T 7 (QT T Q 0 0) 0 0 143 (bX8_noteComes_143 Q nx) := x_il_n C dX8_noteComes_143 rfl (x_if_ne C (hn 162) dX8_noteComes_144 (by decide) (x_al_n C dX8_noteComes_147 rfl (gf_X8_62 C dX8_noteComes_148 (x_ic C dX8_noteComes_151 (by decide) (x_il_n C dX8_noteComes_152 rfl (x_imul C dX8_noteComes_153 (x_ic C dX8_noteComes_154 (by decide) (x_iadd C dX8_noteComes_155 (x_dup2 C dX8_noteComes_156 (x_iald C dX8_noteComes_157 (x_bp C dX8_noteComes_158 (by decide) (x_iand C dX8_noteComes_160 (x_iast C dX8_noteComes_161 (hn 162))))))))))))))
set_option maxRecDepth 20000 in
theorem oX8_noteComes_162 {T : Ct} {Q : Option Value → MM → Prop} (C : Cx T cX8_noteComes 7 RX8 0 0) (CR : CxR T 2 44) (hr : T.2.2.2.2.2.2.2.2.1.sig.returnType = none) (hnm : T.2.2.2.2.2.2.2.2.1.name = "noteComes") {nx : Nat → Kt} (hn : ∀ pc, Sd T 7 (QT T Q 0 0) 0 0 pc (nx pc)) : Sd T 7 (QT T Q 0 0) 0 0 162 (bX8_noteComes_162 Q nx) := x_al_n C dX8_noteComes_162 rfl (gf_X8_29 C dX8_noteComes_163 (x_il_n C dX8_noteComes_166 rfl (x_ic C dX8_noteComes_167 (by decide) (x_iast C dX8_noteComes_168 (x_al_n C dX8_noteComes_169 rfl (gf_X8_32 C dX8_noteComes_170 (x_il_n C dX8_noteComes_173 rfl (x_al_n C dX8_noteComes_174 rfl (gf_X8_26 C dX8_noteComes_175 (x_il_n C dX8_noteComes_178 rfl (x_zald C dX8_noteComes_179 (x_if_eq C (hn 187) dX8_noteComes_180 (by decide) (x_ic C dX8_noteComes_183 (by decide) (x_goto C (hn 189) dX8_noteComes_184 (by decide)))))))))))))))
set_option maxRecDepth 20000 in
theorem oX8_noteComes_187 {T : Ct} {Q : Option Value → MM → Prop} (C : Cx T cX8_noteComes 7 RX8 0 0) (CR : CxR T 2 44) (hr : T.2.2.2.2.2.2.2.2.1.sig.returnType = none) (hnm : T.2.2.2.2.2.2.2.2.1.name = "noteComes") {nx : Nat → Kt} (hn : ∀ pc, Sd T 7 (QT T Q 0 0) 0 0 pc (nx pc)) : Sd T 7 (QT T Q 0 0) 0 0 187 (bX8_noteComes_187 Q nx) := x_bp C dX8_noteComes_187 (by decide) (hn 189)
set_option maxRecDepth 20000 in
theorem oX8_noteComes_189 {T : Ct} {Q : Option Value → MM → Prop} (C : Cx T cX8_noteComes 7 RX8 0 0) (CR : CxR T 2 44) (hr : T.2.2.2.2.2.2.2.2.1.sig.returnType = none) (hnm : T.2.2.2.2.2.2.2.2.1.name = "noteComes") {nx : Nat → Kt} (hn : ∀ pc, Sd T 7 (QT T Q 0 0) 0 0 pc (nx pc)) : Sd T 7 (QT T Q 0 0) 0 0 189 (bX8_noteComes_189 Q nx) := x_iast C dX8_noteComes_189 (x_il C dX8_noteComes_190 (x_if_ne C (hn 202) dX8_noteComes_192 (by decide) (x_al_n C dX8_noteComes_195 rfl (gf_X8_50 C dX8_noteComes_196 (x_il_n C dX8_noteComes_199 rfl (x_ic C dX8_noteComes_200 (by decide) (x_zast C dX8_noteComes_201 (hn 202))))))))
set_option maxRecDepth 20000 in
theorem oX8_noteComes_202 {T : Ct} {Q : Option Value → MM → Prop} (C : Cx T cX8_noteComes 7 RX8 0 0) (CR : CxR T 2 44) (hr : T.2.2.2.2.2.2.2.2.1.sig.returnType = none) (hnm : T.2.2.2.2.2.2.2.2.1.name = "noteComes") {nx : Nat → Kt} (hn : ∀ pc, Sd T 7 (QT T Q 0 0) 0 0 pc (nx pc)) : Sd T 7 (QT T Q 0 0) 0 0 202 (bX8_noteComes_202 Q nx) := x_al_n C dX8_noteComes_202 rfl (gf_X8_53 C dX8_noteComes_203 (x_il_n C dX8_noteComes_206 rfl (x_ic C dX8_noteComes_207 (by decide) (x_zast C dX8_noteComes_208 (x_al_n C dX8_noteComes_209 rfl (gf_X8_59 C dX8_noteComes_210 (x_il_n C dX8_noteComes_213 rfl (x_dup2 C dX8_noteComes_214 (x_iald C dX8_noteComes_215 (x_ic C dX8_noteComes_216 (by decide) (x_iadd C dX8_noteComes_217 (x_iast C dX8_noteComes_218 (x_rV C hr dX8_noteComes_219)))))))))))))
set_option maxRecDepth 20000 in
theorem mX8_noteComes (l : Launch) (D : va_G) (cA : Nat → ClassId) (base : Nat) : Mc l D cA base yX8_noteComes cX8_noteComes 7 none rX8_noteComes wX8_noteComes := mc_of (by decide +kernel) kX8_noteComes (fun T Q C CR hr hnm nx hn => bse_ok _ (List.forall_mem_cons.mpr ⟨oX8_noteComes_0 C CR hr hnm hn, List.forall_mem_cons.mpr ⟨oX8_noteComes_8 C CR hr hnm hn, List.forall_mem_cons.mpr ⟨oX8_noteComes_51 C CR hr hnm hn, List.forall_mem_cons.mpr ⟨oX8_noteComes_52 C CR hr hnm hn, List.forall_mem_cons.mpr ⟨oX8_noteComes_79 C CR hr hnm hn, List.forall_mem_cons.mpr ⟨oX8_noteComes_93 C CR hr hnm hn, List.forall_mem_cons.mpr ⟨oX8_noteComes_97 C CR hr hnm hn, List.forall_mem_cons.mpr ⟨oX8_noteComes_98 C CR hr hnm hn, List.forall_mem_cons.mpr ⟨oX8_noteComes_105 C CR hr hnm hn, List.forall_mem_cons.mpr ⟨oX8_noteComes_108 C CR hr hnm hn, List.forall_mem_cons.mpr ⟨oX8_noteComes_143 C CR hr hnm hn, List.forall_mem_cons.mpr ⟨oX8_noteComes_162 C CR hr hnm hn, List.forall_mem_cons.mpr ⟨oX8_noteComes_187 C CR hr hnm hn, List.forall_mem_cons.mpr ⟨oX8_noteComes_189 C CR hr hnm hn, List.forall_mem_cons.mpr ⟨oX8_noteComes_202 C CR hr hnm hn, fun _ h => nomatch h⟩⟩⟩⟩⟩⟩⟩⟩⟩⟩⟩⟩⟩⟩⟩))
theorem dX8_comes_0 : decode cX8_comes 0 = .ok (.aload_n 0, 1) := by decide +kernel
theorem dX8_comes_1 : decode cX8_comes 1 = .ok (.getfield 129, 3) := by decide +kernel
theorem dX8_comes_4 : decode cX8_comes 4 = .ok (.iconst 0, 1) := by decide +kernel
theorem dX8_comes_5 : decode cX8_comes 5 = .ok (.iaload, 1) := by decide +kernel
theorem dX8_comes_6 : decode cX8_comes 6 = .ok (.aload_n 0, 1) := by decide +kernel
theorem dX8_comes_7 : decode cX8_comes 7 = .ok (.getfield 129, 3) := by decide +kernel
theorem dX8_comes_10 : decode cX8_comes 10 = .ok (.iconst 1, 1) := by decide +kernel
theorem dX8_comes_11 : decode cX8_comes 11 = .ok (.iaload, 1) := by decide +kernel
theorem dX8_comes_12 : decode cX8_comes 12 = .ok (.iadd, 1) := by decide +kernel
theorem dX8_comes_13 : decode cX8_comes 13 = .ok (.istore_n 1, 1) := by decide +kernel
theorem dX8_comes_14 : decode cX8_comes 14 = .ok (.iconst 0, 1) := by decide +kernel
theorem dX8_comes_15 : decode cX8_comes 15 = .ok (.istore_n 2, 1) := by decide +kernel
theorem dX8_comes_16 : decode cX8_comes 16 = .ok (.iload_n 2, 1) := by decide +kernel
theorem dX8_comes_17 : decode cX8_comes 17 = .ok (.bipush 16, 2) := by decide +kernel
theorem dX8_comes_19 : decode cX8_comes 19 = .ok (.if_icmp .ge 16, 3) := by decide +kernel
theorem dX8_comes_22 : decode cX8_comes 22 = .ok (.aload_n 0, 1) := by decide +kernel
theorem dX8_comes_23 : decode cX8_comes 23 = .ok (.getfield 53, 3) := by decide +kernel
theorem dX8_comes_26 : decode cX8_comes 26 = .ok (.iload_n 2, 1) := by decide +kernel
theorem dX8_comes_27 : decode cX8_comes 27 = .ok (.iconst 0, 1) := by decide +kernel
theorem dX8_comes_28 : decode cX8_comes 28 = .ok (.bastore, 1) := by decide +kernel
theorem dX8_comes_29 : decode cX8_comes 29 = .ok (.iinc 2 1, 3) := by decide +kernel
theorem dX8_comes_32 : decode cX8_comes 32 = .ok (.goto (-16), 3) := by decide +kernel
theorem dX8_comes_35 : decode cX8_comes 35 = .ok (.iconst 0, 1) := by decide +kernel
theorem dX8_comes_36 : decode cX8_comes 36 = .ok (.istore_n 2, 1) := by decide +kernel
theorem dX8_comes_37 : decode cX8_comes 37 = .ok (.iload_n 2, 1) := by decide +kernel
theorem dX8_comes_38 : decode cX8_comes 38 = .ok (.bipush 8, 2) := by decide +kernel
theorem dX8_comes_40 : decode cX8_comes 40 = .ok (.if_icmp .ge 98, 3) := by decide +kernel
theorem dX8_comes_43 : decode cX8_comes 43 = .ok (.iconst 0, 1) := by decide +kernel
theorem dX8_comes_44 : decode cX8_comes 44 = .ok (.istore_n 3, 1) := by decide +kernel
theorem dX8_comes_45 : decode cX8_comes 45 = .ok (.iload_n 3, 1) := by decide +kernel
theorem dX8_comes_46 : decode cX8_comes 46 = .ok (.aload_n 0, 1) := by decide +kernel
theorem dX8_comes_47 : decode cX8_comes 47 = .ok (.getfield 166, 3) := by decide +kernel
theorem dX8_comes_50 : decode cX8_comes 50 = .ok (.if_icmp .ge 82, 3) := by decide +kernel
theorem dX8_comes_53 : decode cX8_comes 53 = .ok (.aload_n 0, 1) := by decide +kernel
theorem dX8_comes_54 : decode cX8_comes 54 = .ok (.getfield 89, 3) := by decide +kernel
theorem dX8_comes_57 : decode cX8_comes 57 = .ok (.iload_n 3, 1) := by decide +kernel
theorem dX8_comes_58 : decode cX8_comes 58 = .ok (.iaload, 1) := by decide +kernel
theorem dX8_comes_59 : decode cX8_comes 59 = .ok (.iload_n 2, 1) := by decide +kernel
theorem dX8_comes_60 : decode cX8_comes 60 = .ok (.if_icmp .ne 66, 3) := by decide +kernel
theorem dX8_comes_63 : decode cX8_comes 63 = .ok (.aload_n 0, 1) := by decide +kernel
theorem dX8_comes_64 : decode cX8_comes 64 = .ok (.getfield 95, 3) := by decide +kernel
theorem dX8_comes_67 : decode cX8_comes 67 = .ok (.iload_n 3, 1) := by decide +kernel
theorem dX8_comes_68 : decode cX8_comes 68 = .ok (.iaload, 1) := by decide +kernel
theorem dX8_comes_69 : decode cX8_comes 69 = .ok (.aload_n 0, 1) := by decide +kernel
theorem dX8_comes_70 : decode cX8_comes 70 = .ok (.getfield 213, 3) := by decide +kernel
theorem dX8_comes_73 : decode cX8_comes 73 = .ok (.if_icmp .eq 6, 3) := by decide +kernel
theorem dX8_comes_76 : decode cX8_comes 76 = .ok (.goto 50, 3) := by decide +kernel
theorem dX8_comes_79 : decode cX8_comes 79 = .ok (.aload_n 0, 1) := by decide +kernel
theorem dX8_comes_80 : decode cX8_comes 80 = .ok (.iload_n 2, 1) := by decide +kernel
theorem dX8_comes_81 : decode cX8_comes 81 = .ok (.iconst 1, 1) := by decide +kernel
theorem dX8_comes_82 : decode cX8_comes 82 = .ok (.aload_n 0, 1) := by decide +kernel
theorem dX8_comes_83 : decode cX8_comes 83 = .ok (.getfield 92, 3) := by decide +kernel
theorem dX8_comes_86 : decode cX8_comes 86 = .ok (.iload_n 3, 1) := by decide +kernel
theorem dX8_comes_87 : decode cX8_comes 87 = .ok (.iaload, 1) := by decide +kernel
theorem dX8_comes_88 : decode cX8_comes 88 = .ok (.isub, 1) := by decide +kernel
theorem dX8_comes_89 : decode cX8_comes 89 = .ok (.invokevirtual 178, 3) := by decide +kernel
theorem dX8_comes_92 : decode cX8_comes 92 = .ok (.istore 4, 2) := by decide +kernel
theorem dX8_comes_94 : decode cX8_comes 94 = .ok (.aload_n 0, 1) := by decide +kernel
theorem dX8_comes_95 : decode cX8_comes 95 = .ok (.getfield 98, 3) := by decide +kernel
theorem dX8_comes_98 : decode cX8_comes 98 = .ok (.iload_n 3, 1) := by decide +kernel
theorem dX8_comes_99 : decode cX8_comes 99 = .ok (.iaload, 1) := by decide +kernel
theorem dX8_comes_100 : decode cX8_comes 100 = .ok (.iconst (-1), 1) := by decide +kernel
theorem dX8_comes_101 : decode cX8_comes 101 = .ok (.if_icmp .eq 18, 3) := by decide +kernel
theorem dX8_comes_104 : decode cX8_comes 104 = .ok (.aload_n 0, 1) := by decide +kernel
theorem dX8_comes_105 : decode cX8_comes 105 = .ok (.aload_n 0, 1) := by decide +kernel
theorem dX8_comes_106 : decode cX8_comes 106 = .ok (.getfield 98, 3) := by decide +kernel
theorem dX8_comes_109 : decode cX8_comes 109 = .ok (.iload_n 3, 1) := by decide +kernel
theorem dX8_comes_110 : decode cX8_comes 110 = .ok (.iaload, 1) := by decide +kernel
theorem dX8_comes_111 : decode cX8_comes 111 = .ok (.iload 4, 2) := by decide +kernel
theorem dX8_comes_113 : decode cX8_comes 113 = .ok (.invokevirtual 219, 3) := by decide +kernel
theorem dX8_comes_116 : decode cX8_comes 116 = .ok (.goto 10, 3) := by decide +kernel
theorem dX8_comes_119 : decode cX8_comes 119 = .ok (.aload_n 0, 1) := by decide +kernel
theorem dX8_comes_120 : decode cX8_comes 120 = .ok (.iload_n 3, 1) := by decide +kernel
theorem dX8_comes_121 : decode cX8_comes 121 = .ok (.iload 4, 2) := by decide +kernel
theorem dX8_comes_123 : decode cX8_comes 123 = .ok (.invokevirtual 222, 3) := by decide +kernel
theorem dX8_comes_126 : decode cX8_comes 126 = .ok (.iinc 3 1, 3) := by decide +kernel
theorem dX8_comes_129 : decode cX8_comes 129 = .ok (.goto (-84), 3) := by decide +kernel
theorem dX8_comes_132 : decode cX8_comes 132 = .ok (.iinc 2 1, 3) := by decide +kernel
theorem dX8_comes_135 : decode cX8_comes 135 = .ok (.goto (-98), 3) := by decide +kernel
theorem dX8_comes_138 : decode cX8_comes 138 = .ok (.iconst 0, 1) := by decide +kernel
theorem dX8_comes_139 : decode cX8_comes 139 = .ok (.istore_n 2, 1) := by decide +kernel
theorem dX8_comes_140 : decode cX8_comes 140 = .ok (.iconst 0, 1) := by decide +kernel
theorem dX8_comes_141 : decode cX8_comes 141 = .ok (.istore_n 3, 1) := by decide +kernel
theorem dX8_comes_142 : decode cX8_comes 142 = .ok (.iload_n 3, 1) := by decide +kernel
theorem dX8_comes_143 : decode cX8_comes 143 = .ok (.aload_n 0, 1) := by decide +kernel
theorem dX8_comes_144 : decode cX8_comes 144 = .ok (.getfield 166, 3) := by decide +kernel
theorem dX8_comes_147 : decode cX8_comes 147 = .ok (.if_icmp .ge 34, 3) := by decide +kernel
theorem dX8_comes_150 : decode cX8_comes 150 = .ok (.aload_n 0, 1) := by decide +kernel
theorem dX8_comes_151 : decode cX8_comes 151 = .ok (.getfield 95, 3) := by decide +kernel
theorem dX8_comes_154 : decode cX8_comes 154 = .ok (.iload_n 3, 1) := by decide +kernel
theorem dX8_comes_155 : decode cX8_comes 155 = .ok (.iaload, 1) := by decide +kernel
theorem dX8_comes_156 : decode cX8_comes 156 = .ok (.aload_n 0, 1) := by decide +kernel
theorem dX8_comes_157 : decode cX8_comes 157 = .ok (.getfield 213, 3) := by decide +kernel
theorem dX8_comes_160 : decode cX8_comes 160 = .ok (.if_icmp .ne 6, 3) := by decide +kernel
theorem dX8_comes_163 : decode cX8_comes 163 = .ok (.goto 12, 3) := by decide +kernel
theorem dX8_comes_166 : decode cX8_comes 166 = .ok (.aload_n 0, 1) := by decide +kernel
theorem dX8_comes_167 : decode cX8_comes 167 = .ok (.iload_n 3, 1) := by decide +kernel
theorem dX8_comes_168 : decode cX8_comes 168 = .ok (.iload_n 2, 1) := by decide +kernel
theorem dX8_comes_169 : decode cX8_comes 169 = .ok (.invokevirtual 172, 3) := by decide +kernel
theorem dX8_comes_172 : decode cX8_comes 172 = .ok (.iinc 2 1, 3) := by decide +kernel
theorem dX8_comes_175 : decode cX8_comes 175 = .ok (.iinc 3 1, 3) := by decide +kernel
theorem dX8_comes_178 : decode cX8_comes 178 = .ok (.goto (-36), 3) := by decide +kernel
theorem dX8_comes_181 : decode cX8_comes 181 = .ok (.aload_n 0, 1) := by decide +kernel
theorem dX8_comes_182 : decode cX8_comes 182 = .ok (.iload_n 2, 1) := by decide +kernel
theorem dX8_comes_183 : decode cX8_comes 183 = .ok (.putfield 166, 3) := by decide +kernel
theorem dX8_comes_186 : decode cX8_comes 186 = .ok (.aload_n 0, 1) := by decide +kernel
theorem dX8_comes_187 : decode cX8_comes 187 = .ok (.getfield 129, 3) := by decide +kernel
theorem dX8_comes_190 : decode cX8_comes 190 = .ok (.iconst 0, 1) := by decide +kernel
theorem dX8_comes_191 : decode cX8_comes 191 = .ok (.iaload, 1) := by decide +kernel
theorem dX8_comes_192 : decode cX8_comes 192 = .ok (.aload_n 0, 1) := by decide +kernel
theorem dX8_comes_193 : decode cX8_comes 193 = .ok (.getfield 129, 3) := by decide +kernel
theorem dX8_comes_196 : decode cX8_comes 196 = .ok (.iconst 1, 1) := by decide +kernel
theorem dX8_comes_197 : decode cX8_comes 197 = .ok (.iaload, 1) := by decide +kernel
theorem dX8_comes_198 : decode cX8_comes 198 = .ok (.iadd, 1) := by decide +kernel
theorem dX8_comes_199 : decode cX8_comes 199 = .ok (.iload_n 1, 1) := by decide +kernel
theorem dX8_comes_200 : decode cX8_comes 200 = .ok (.isub, 1) := by decide +kernel
theorem dX8_comes_201 : decode cX8_comes 201 = .ok (.ireturn, 1) := by decide +kernel
noncomputable def bX8_comes_0 (Q : Option Value → MM → Prop) (nx : Nat → Kt) : Kt := ldA 0 (gR 8 42 (cI 0 (aI 10 (ldA 0 (gR 8 42 (cI 1 (aI 10 (bop (fun x y => x + y) (stI 1 (cI 0 (stI 2 (nx 16))))))))))))
noncomputable def bX8_comes_16 (Q : Option Value → MM → Prop) (nx : Nat → Kt) : Kt := ldI 2 (cI 16 (ifc (fun x y => y ≤ x) (nx 35) (ldA 0 (gR 8 15 (ldI 2 (cI 0 (sAZ (inc 2 1 (nx 16)))))))))
noncomputable def bX8_comes_35 (Q : Option Value → MM → Prop) (nx : Nat → Kt) : Kt := cI 0 (stI 2 (nx 37))
noncomputable def bX8_comes_37 (Q : Option Value → MM → Prop) (nx : Nat → Kt) : Kt := ldI 2 (cI 8 (ifc (fun x y => y ≤ x) (nx 138) (cI 0 (stI 3 (nx 45)))))
noncomputable def bX8_comes_45 (Q : Option Value → MM → Prop) (nx : Nat → Kt) : Kt := ldI 3 (ldA 0 (gI 8 32 (ifc (fun x y => y ≤ x) (nx 132) (ldA 0 (gR 8 27 (ldI 3 (aI 10 (ldI 2 (ifc (fun x y => x = y) (ldA 0 (gR 8 29 (ldI 3 (aI 10 (ldA 0 (gI 8 43 (ifc (fun x y => x = y) (nx 79) (nx 126)))))))) (nx 126))))))))))
noncomputable def bX8_comes_79 (Q : Option Value → MM → Prop) (nx : Nat → Kt) : Kt := ldA 0 (ldI 2 (cI 1 (ldA 0 (gR 8 28 (ldI 3 (aI 10 (bop (fun x y => x - y) (cV 2 8 wX8_portAt 0 0 0 0 (stI 4 (ldA 0 (gR 8 30 (ldI 3 (aI 10 (cI (-1) (ifc (fun x y => x = y) (nx 119) (ldA 0 (ldA 0 (gR 8 30 (ldI 3 (aI 10 (ldI 4 (cV 2 8 wX8_frameComes 0 0 0 0 (nx 126)))))))))))))))))))))))
noncomputable def bX8_comes_119 (Q : Option Value → MM → Prop) (nx : Nat → Kt) : Kt := ldA 0 (ldI 3 (ldI 4 (cV 2 8 wX8_noteComes 0 0 0 0 (nx 126))))
noncomputable def bX8_comes_126 (Q : Option Value → MM → Prop) (nx : Nat → Kt) : Kt := inc 3 1 (nx 45)
noncomputable def bX8_comes_132 (Q : Option Value → MM → Prop) (nx : Nat → Kt) : Kt := inc 2 1 (nx 37)
noncomputable def bX8_comes_138 (Q : Option Value → MM → Prop) (nx : Nat → Kt) : Kt := cI 0 (stI 2 (cI 0 (stI 3 (nx 142))))
noncomputable def bX8_comes_142 (Q : Option Value → MM → Prop) (nx : Nat → Kt) : Kt := ldI 3 (ldA 0 (gI 8 32 (ifc (fun x y => y ≤ x) (nx 181) (ldA 0 (gR 8 29 (ldI 3 (aI 10 (ldA 0 (gI 8 43 (ifc (fun x y => x = y) (nx 175) (nx 166)))))))))))
noncomputable def bX8_comes_166 (Q : Option Value → MM → Prop) (nx : Nat → Kt) : Kt := ldA 0 (ldI 3 (ldI 2 (cV 2 8 wX8_moves 0 0 0 0 (inc 2 1 (nx 175)))))
noncomputable def bX8_comes_175 (Q : Option Value → MM → Prop) (nx : Nat → Kt) : Kt := inc 3 1 (nx 142)
noncomputable def bX8_comes_181 (Q : Option Value → MM → Prop) (nx : Nat → Kt) : Kt := ldA 0 (ldI 2 (tI 8 32 (ldA 0 (gR 8 42 (cI 0 (aI 10 (ldA 0 (gR 8 42 (cI 1 (aI 10 (bop (fun x y => x + y) (ldI 1 (bop (fun x y => x - y) (rI Q))))))))))))))
noncomputable def kX8_comes (Q : Option Value → MM → Prop) (nx : Nat → Kt) : Nat → Kt := bse [(0, bX8_comes_0 Q nx), (16, bX8_comes_16 Q nx), (35, bX8_comes_35 Q nx), (37, bX8_comes_37 Q nx), (45, bX8_comes_45 Q nx), (79, bX8_comes_79 Q nx), (119, bX8_comes_119 Q nx), (126, bX8_comes_126 Q nx), (132, bX8_comes_132 Q nx), (138, bX8_comes_138 Q nx), (142, bX8_comes_142 Q nx), (166, bX8_comes_166 Q nx), (175, bX8_comes_175 Q nx), (181, bX8_comes_181 Q nx)]
abbrev rX8_comes : Room := { frames := 3, cells := 0, slots := 0, locals := 70 }
noncomputable def wX8_comes : Mw := mw 5 kX8_comes
set_option maxRecDepth 20000 in
theorem oX8_comes_0 {T : Ct} {Q : Option Value → MM → Prop} (C : Cx T cX8_comes 5 RX8 0 0) (CR : CxR T 3 70) (hr : T.2.2.2.2.2.2.2.2.1.sig.returnType = (some .int)) (hnm : T.2.2.2.2.2.2.2.2.1.name = "comes") {nx : Nat → Kt} (hn : ∀ pc, Sd T 5 (QT T Q 0 0) 0 0 pc (nx pc)) : Sd T 5 (QT T Q 0 0) 0 0 0 (bX8_comes_0 Q nx) := x_al_n C dX8_comes_0 rfl (gf_X8_129 C dX8_comes_1 (x_ic C dX8_comes_4 (by decide) (x_iald C dX8_comes_5 (x_al_n C dX8_comes_6 rfl (gf_X8_129 C dX8_comes_7 (x_ic C dX8_comes_10 (by decide) (x_iald C dX8_comes_11 (x_iadd C dX8_comes_12 (x_is_n C dX8_comes_13 rfl (by decide) (x_ic C dX8_comes_14 (by decide) (x_is_n C dX8_comes_15 rfl (by decide) (hn 16))))))))))))
set_option maxRecDepth 20000 in
theorem oX8_comes_16 {T : Ct} {Q : Option Value → MM → Prop} (C : Cx T cX8_comes 5 RX8 0 0) (CR : CxR T 3 70) (hr : T.2.2.2.2.2.2.2.2.1.sig.returnType = (some .int)) (hnm : T.2.2.2.2.2.2.2.2.1.name = "comes") {nx : Nat → Kt} (hn : ∀ pc, Sd T 5 (QT T Q 0 0) 0 0 pc (nx pc)) : Sd T 5 (QT T Q 0 0) 0 0 16 (bX8_comes_16 Q nx) := x_il_n C dX8_comes_16 rfl (x_bp C dX8_comes_17 (by decide) (x_ic_ge C (hn 35) dX8_comes_19 (by decide) (x_al_n C dX8_comes_22 rfl (gf_X8_53 C dX8_comes_23 (x_il_n C dX8_comes_26 rfl (x_ic C dX8_comes_27 (by decide) (x_zast C dX8_comes_28 (x_inc C dX8_comes_29 (by decide) (by decide) (x_goto C (hn 16) dX8_comes_32 (by decide))))))))))
set_option maxRecDepth 20000 in
theorem oX8_comes_35 {T : Ct} {Q : Option Value → MM → Prop} (C : Cx T cX8_comes 5 RX8 0 0) (CR : CxR T 3 70) (hr : T.2.2.2.2.2.2.2.2.1.sig.returnType = (some .int)) (hnm : T.2.2.2.2.2.2.2.2.1.name = "comes") {nx : Nat → Kt} (hn : ∀ pc, Sd T 5 (QT T Q 0 0) 0 0 pc (nx pc)) : Sd T 5 (QT T Q 0 0) 0 0 35 (bX8_comes_35 Q nx) := x_ic C dX8_comes_35 (by decide) (x_is_n C dX8_comes_36 rfl (by decide) (hn 37))
set_option maxRecDepth 20000 in
theorem oX8_comes_37 {T : Ct} {Q : Option Value → MM → Prop} (C : Cx T cX8_comes 5 RX8 0 0) (CR : CxR T 3 70) (hr : T.2.2.2.2.2.2.2.2.1.sig.returnType = (some .int)) (hnm : T.2.2.2.2.2.2.2.2.1.name = "comes") {nx : Nat → Kt} (hn : ∀ pc, Sd T 5 (QT T Q 0 0) 0 0 pc (nx pc)) : Sd T 5 (QT T Q 0 0) 0 0 37 (bX8_comes_37 Q nx) := x_il_n C dX8_comes_37 rfl (x_bp C dX8_comes_38 (by decide) (x_ic_ge C (hn 138) dX8_comes_40 (by decide) (x_ic C dX8_comes_43 (by decide) (x_is_n C dX8_comes_44 rfl (by decide) (hn 45)))))
set_option maxRecDepth 20000 in
theorem oX8_comes_45 {T : Ct} {Q : Option Value → MM → Prop} (C : Cx T cX8_comes 5 RX8 0 0) (CR : CxR T 3 70) (hr : T.2.2.2.2.2.2.2.2.1.sig.returnType = (some .int)) (hnm : T.2.2.2.2.2.2.2.2.1.name = "comes") {nx : Nat → Kt} (hn : ∀ pc, Sd T 5 (QT T Q 0 0) 0 0 pc (nx pc)) : Sd T 5 (QT T Q 0 0) 0 0 45 (bX8_comes_45 Q nx) := x_il_n C dX8_comes_45 rfl (x_al_n C dX8_comes_46 rfl (gf_X8_166 C dX8_comes_47 (x_ic_ge C (hn 132) dX8_comes_50 (by decide) (x_al_n C dX8_comes_53 rfl (gf_X8_89 C dX8_comes_54 (x_il_n C dX8_comes_57 rfl (x_iald C dX8_comes_58 (x_il_n C dX8_comes_59 rfl (x_ic_ne C (hn 126) dX8_comes_60 (by decide) (x_al_n C dX8_comes_63 rfl (gf_X8_95 C dX8_comes_64 (x_il_n C dX8_comes_67 rfl (x_iald C dX8_comes_68 (x_al_n C dX8_comes_69 rfl (gf_X8_213 C dX8_comes_70 (x_ic_eq C (hn 79) dX8_comes_73 (by decide) (x_goto C (hn 126) dX8_comes_76 (by decide))))))))))))))))))
set_option maxRecDepth 20000 in
theorem oX8_comes_79 {T : Ct} {Q : Option Value → MM → Prop} (C : Cx T cX8_comes 5 RX8 0 0) (CR : CxR T 3 70) (hr : T.2.2.2.2.2.2.2.2.1.sig.returnType = (some .int)) (hnm : T.2.2.2.2.2.2.2.2.1.name = "comes") {nx : Nat → Kt} (hn : ∀ pc, Sd T 5 (QT T Q 0 0) 0 0 pc (nx pc)) : Sd T 5 (QT T Q 0 0) 0 0 79 (bX8_comes_79 Q nx) := x_al_n C dX8_comes_79 rfl (x_il_n C dX8_comes_80 rfl (x_ic C dX8_comes_81 (by decide) (x_al_n C dX8_comes_82 rfl (gf_X8_92 C dX8_comes_83 (x_il_n C dX8_comes_86 rfl (x_iald C dX8_comes_87 (x_isub C dX8_comes_88 (x_cV C CR mX8_portAt ⟨co_X8_portAt, init_X8, md_X8_portAt, by decide, by decide⟩ (ci := 8) (TX := TX8) (N := 51) rfl (by decide) ml_X8_178 im_X8_portAt se_X8_portAt dX8_comes_89 (x_is C dX8_comes_92 (by decide) (x_al_n C dX8_comes_94 rfl (gf_X8_98 C dX8_comes_95 (x_il_n C dX8_comes_98 rfl (x_iald C dX8_comes_99 (x_ic C dX8_comes_100 (by decide) (x_ic_eq C (hn 119) dX8_comes_101 (by decide) (x_al_n C dX8_comes_104 rfl (x_al_n C dX8_comes_105 rfl (gf_X8_98 C dX8_comes_106 (x_il_n C dX8_comes_109 rfl (x_iald C dX8_comes_110 (x_il C dX8_comes_111 (x_cV C CR mX8_frameComes ⟨co_X8_frameComes, init_X8, md_X8_frameComes, by decide, by decide⟩ (ci := 8) (TX := TX8) (N := 51) rfl (by decide) ml_X8_219 im_X8_frameComes se_X8_frameComes dX8_comes_113 (x_goto C (hn 126) dX8_comes_116 (by decide))))))))))))))))))))))))
set_option maxRecDepth 20000 in
theorem oX8_comes_119 {T : Ct} {Q : Option Value → MM → Prop} (C : Cx T cX8_comes 5 RX8 0 0) (CR : CxR T 3 70) (hr : T.2.2.2.2.2.2.2.2.1.sig.returnType = (some .int)) (hnm : T.2.2.2.2.2.2.2.2.1.name = "comes") {nx : Nat → Kt} (hn : ∀ pc, Sd T 5 (QT T Q 0 0) 0 0 pc (nx pc)) : Sd T 5 (QT T Q 0 0) 0 0 119 (bX8_comes_119 Q nx) := x_al_n C dX8_comes_119 rfl (x_il_n C dX8_comes_120 rfl (x_il C dX8_comes_121 (x_cV C CR mX8_noteComes ⟨co_X8_noteComes, init_X8, md_X8_noteComes, by decide, by decide⟩ (ci := 8) (TX := TX8) (N := 51) rfl (by decide) ml_X8_222 im_X8_noteComes se_X8_noteComes dX8_comes_123 (hn 126))))
set_option maxRecDepth 20000 in
theorem oX8_comes_126 {T : Ct} {Q : Option Value → MM → Prop} (C : Cx T cX8_comes 5 RX8 0 0) (CR : CxR T 3 70) (hr : T.2.2.2.2.2.2.2.2.1.sig.returnType = (some .int)) (hnm : T.2.2.2.2.2.2.2.2.1.name = "comes") {nx : Nat → Kt} (hn : ∀ pc, Sd T 5 (QT T Q 0 0) 0 0 pc (nx pc)) : Sd T 5 (QT T Q 0 0) 0 0 126 (bX8_comes_126 Q nx) := x_inc C dX8_comes_126 (by decide) (by decide) (x_goto C (hn 45) dX8_comes_129 (by decide))
set_option maxRecDepth 20000 in
theorem oX8_comes_132 {T : Ct} {Q : Option Value → MM → Prop} (C : Cx T cX8_comes 5 RX8 0 0) (CR : CxR T 3 70) (hr : T.2.2.2.2.2.2.2.2.1.sig.returnType = (some .int)) (hnm : T.2.2.2.2.2.2.2.2.1.name = "comes") {nx : Nat → Kt} (hn : ∀ pc, Sd T 5 (QT T Q 0 0) 0 0 pc (nx pc)) : Sd T 5 (QT T Q 0 0) 0 0 132 (bX8_comes_132 Q nx) := x_inc C dX8_comes_132 (by decide) (by decide) (x_goto C (hn 37) dX8_comes_135 (by decide))
set_option maxRecDepth 20000 in
theorem oX8_comes_138 {T : Ct} {Q : Option Value → MM → Prop} (C : Cx T cX8_comes 5 RX8 0 0) (CR : CxR T 3 70) (hr : T.2.2.2.2.2.2.2.2.1.sig.returnType = (some .int)) (hnm : T.2.2.2.2.2.2.2.2.1.name = "comes") {nx : Nat → Kt} (hn : ∀ pc, Sd T 5 (QT T Q 0 0) 0 0 pc (nx pc)) : Sd T 5 (QT T Q 0 0) 0 0 138 (bX8_comes_138 Q nx) := x_ic C dX8_comes_138 (by decide) (x_is_n C dX8_comes_139 rfl (by decide) (x_ic C dX8_comes_140 (by decide) (x_is_n C dX8_comes_141 rfl (by decide) (hn 142))))
set_option maxRecDepth 20000 in
theorem oX8_comes_142 {T : Ct} {Q : Option Value → MM → Prop} (C : Cx T cX8_comes 5 RX8 0 0) (CR : CxR T 3 70) (hr : T.2.2.2.2.2.2.2.2.1.sig.returnType = (some .int)) (hnm : T.2.2.2.2.2.2.2.2.1.name = "comes") {nx : Nat → Kt} (hn : ∀ pc, Sd T 5 (QT T Q 0 0) 0 0 pc (nx pc)) : Sd T 5 (QT T Q 0 0) 0 0 142 (bX8_comes_142 Q nx) := x_il_n C dX8_comes_142 rfl (x_al_n C dX8_comes_143 rfl (gf_X8_166 C dX8_comes_144 (x_ic_ge C (hn 181) dX8_comes_147 (by decide) (x_al_n C dX8_comes_150 rfl (gf_X8_95 C dX8_comes_151 (x_il_n C dX8_comes_154 rfl (x_iald C dX8_comes_155 (x_al_n C dX8_comes_156 rfl (gf_X8_213 C dX8_comes_157 (x_ic_ne C (hn 166) dX8_comes_160 (by decide) (x_goto C (hn 175) dX8_comes_163 (by decide))))))))))))
set_option maxRecDepth 20000 in
theorem oX8_comes_166 {T : Ct} {Q : Option Value → MM → Prop} (C : Cx T cX8_comes 5 RX8 0 0) (CR : CxR T 3 70) (hr : T.2.2.2.2.2.2.2.2.1.sig.returnType = (some .int)) (hnm : T.2.2.2.2.2.2.2.2.1.name = "comes") {nx : Nat → Kt} (hn : ∀ pc, Sd T 5 (QT T Q 0 0) 0 0 pc (nx pc)) : Sd T 5 (QT T Q 0 0) 0 0 166 (bX8_comes_166 Q nx) := x_al_n C dX8_comes_166 rfl (x_il_n C dX8_comes_167 rfl (x_il_n C dX8_comes_168 rfl (x_cV C CR mX8_moves ⟨co_X8_moves, init_X8, md_X8_moves, by decide, by decide⟩ (ci := 8) (TX := TX8) (N := 51) rfl (by decide) ml_X8_172 im_X8_moves se_X8_moves dX8_comes_169 (x_inc C dX8_comes_172 (by decide) (by decide) (hn 175)))))
set_option maxRecDepth 20000 in
theorem oX8_comes_175 {T : Ct} {Q : Option Value → MM → Prop} (C : Cx T cX8_comes 5 RX8 0 0) (CR : CxR T 3 70) (hr : T.2.2.2.2.2.2.2.2.1.sig.returnType = (some .int)) (hnm : T.2.2.2.2.2.2.2.2.1.name = "comes") {nx : Nat → Kt} (hn : ∀ pc, Sd T 5 (QT T Q 0 0) 0 0 pc (nx pc)) : Sd T 5 (QT T Q 0 0) 0 0 175 (bX8_comes_175 Q nx) := x_inc C dX8_comes_175 (by decide) (by decide) (x_goto C (hn 142) dX8_comes_178 (by decide))
set_option maxRecDepth 20000 in
theorem oX8_comes_181 {T : Ct} {Q : Option Value → MM → Prop} (C : Cx T cX8_comes 5 RX8 0 0) (CR : CxR T 3 70) (hr : T.2.2.2.2.2.2.2.2.1.sig.returnType = (some .int)) (hnm : T.2.2.2.2.2.2.2.2.1.name = "comes") {nx : Nat → Kt} (hn : ∀ pc, Sd T 5 (QT T Q 0 0) 0 0 pc (nx pc)) : Sd T 5 (QT T Q 0 0) 0 0 181 (bX8_comes_181 Q nx) := x_al_n C dX8_comes_181 rfl (x_il_n C dX8_comes_182 rfl (pf_X8_166 C dX8_comes_183 (x_al_n C dX8_comes_186 rfl (gf_X8_129 C dX8_comes_187 (x_ic C dX8_comes_190 (by decide) (x_iald C dX8_comes_191 (x_al_n C dX8_comes_192 rfl (gf_X8_129 C dX8_comes_193 (x_ic C dX8_comes_196 (by decide) (x_iald C dX8_comes_197 (x_iadd C dX8_comes_198 (x_il_n C dX8_comes_199 rfl (x_isub C dX8_comes_200 (x_rI C hr dX8_comes_201))))))))))))))
set_option maxRecDepth 20000 in
theorem mX8_comes (l : Launch) (D : va_G) (cA : Nat → ClassId) (base : Nat) : Mc l D cA base yX8_comes cX8_comes 5 (some .int) rX8_comes wX8_comes := mc_of (by decide +kernel) kX8_comes (fun T Q C CR hr hnm nx hn => bse_ok _ (List.forall_mem_cons.mpr ⟨oX8_comes_0 C CR hr hnm hn, List.forall_mem_cons.mpr ⟨oX8_comes_16 C CR hr hnm hn, List.forall_mem_cons.mpr ⟨oX8_comes_35 C CR hr hnm hn, List.forall_mem_cons.mpr ⟨oX8_comes_37 C CR hr hnm hn, List.forall_mem_cons.mpr ⟨oX8_comes_45 C CR hr hnm hn, List.forall_mem_cons.mpr ⟨oX8_comes_79 C CR hr hnm hn, List.forall_mem_cons.mpr ⟨oX8_comes_119 C CR hr hnm hn, List.forall_mem_cons.mpr ⟨oX8_comes_126 C CR hr hnm hn, List.forall_mem_cons.mpr ⟨oX8_comes_132 C CR hr hnm hn, List.forall_mem_cons.mpr ⟨oX8_comes_138 C CR hr hnm hn, List.forall_mem_cons.mpr ⟨oX8_comes_142 C CR hr hnm hn, List.forall_mem_cons.mpr ⟨oX8_comes_166 C CR hr hnm hn, List.forall_mem_cons.mpr ⟨oX8_comes_175 C CR hr hnm hn, List.forall_mem_cons.mpr ⟨oX8_comes_181 C CR hr hnm hn, fun _ h => nomatch h⟩⟩⟩⟩⟩⟩⟩⟩⟩⟩⟩⟩⟩⟩))
theorem dX8_ages_0 : decode cX8_ages 0 = .ok (.aload_n 0, 1) := by decide +kernel
theorem dX8_ages_1 : decode cX8_ages 1 = .ok (.getfield 29, 3) := by decide +kernel
theorem dX8_ages_4 : decode cX8_ages 4 = .ok (.iload_n 1, 1) := by decide +kernel
theorem dX8_ages_5 : decode cX8_ages 5 = .ok (.iaload, 1) := by decide +kernel
theorem dX8_ages_6 : decode cX8_ages 6 = .ok (.iconst 1, 1) := by decide +kernel
theorem dX8_ages_7 : decode cX8_ages 7 = .ok (.if_icmp .eq 13, 3) := by decide +kernel
theorem dX8_ages_10 : decode cX8_ages 10 = .ok (.aload_n 0, 1) := by decide +kernel
theorem dX8_ages_11 : decode cX8_ages 11 = .ok (.getfield 29, 3) := by decide +kernel
theorem dX8_ages_14 : decode cX8_ages 14 = .ok (.iload_n 1, 1) := by decide +kernel
theorem dX8_ages_15 : decode cX8_ages 15 = .ok (.iaload, 1) := by decide +kernel
theorem dX8_ages_16 : decode cX8_ages 16 = .ok (.iconst 2, 1) := by decide +kernel
theorem dX8_ages_17 : decode cX8_ages 17 = .ok (.if_icmp .ne 12, 3) := by decide +kernel
theorem dX8_ages_20 : decode cX8_ages 20 = .ok (.aload_n 0, 1) := by decide +kernel
theorem dX8_ages_21 : decode cX8_ages 21 = .ok (.getfield 53, 3) := by decide +kernel
theorem dX8_ages_24 : decode cX8_ages 24 = .ok (.iload_n 1, 1) := by decide +kernel
theorem dX8_ages_25 : decode cX8_ages 25 = .ok (.baload, 1) := by decide +kernel
theorem dX8_ages_26 : decode cX8_ages 26 = .ok (.ifCond .eq 4, 3) := by decide +kernel
theorem dX8_ages_29 : decode cX8_ages 29 = .ok (.return_, 1) := by decide +kernel
theorem dX8_ages_30 : decode cX8_ages 30 = .ok (.aload_n 0, 1) := by decide +kernel
theorem dX8_ages_31 : decode cX8_ages 31 = .ok (.getfield 32, 3) := by decide +kernel
theorem dX8_ages_34 : decode cX8_ages 34 = .ok (.iload_n 1, 1) := by decide +kernel
theorem dX8_ages_35 : decode cX8_ages 35 = .ok (.dup2, 1) := by decide +kernel
theorem dX8_ages_36 : decode cX8_ages 36 = .ok (.iaload, 1) := by decide +kernel
theorem dX8_ages_37 : decode cX8_ages 37 = .ok (.iconst 1, 1) := by decide +kernel
theorem dX8_ages_38 : decode cX8_ages 38 = .ok (.isub, 1) := by decide +kernel
theorem dX8_ages_39 : decode cX8_ages 39 = .ok (.iastore, 1) := by decide +kernel
theorem dX8_ages_40 : decode cX8_ages 40 = .ok (.aload_n 0, 1) := by decide +kernel
theorem dX8_ages_41 : decode cX8_ages 41 = .ok (.getfield 32, 3) := by decide +kernel
theorem dX8_ages_44 : decode cX8_ages 44 = .ok (.iload_n 1, 1) := by decide +kernel
theorem dX8_ages_45 : decode cX8_ages 45 = .ok (.iaload, 1) := by decide +kernel
theorem dX8_ages_46 : decode cX8_ages 46 = .ok (.ifCond .le 4, 3) := by decide +kernel
theorem dX8_ages_49 : decode cX8_ages 49 = .ok (.return_, 1) := by decide +kernel
theorem dX8_ages_50 : decode cX8_ages 50 = .ok (.aload_n 0, 1) := by decide +kernel
theorem dX8_ages_51 : decode cX8_ages 51 = .ok (.getfield 29, 3) := by decide +kernel
theorem dX8_ages_54 : decode cX8_ages 54 = .ok (.iload_n 1, 1) := by decide +kernel
theorem dX8_ages_55 : decode cX8_ages 55 = .ok (.iaload, 1) := by decide +kernel
theorem dX8_ages_56 : decode cX8_ages 56 = .ok (.iconst 2, 1) := by decide +kernel
theorem dX8_ages_57 : decode cX8_ages 57 = .ok (.if_icmp .ne 25, 3) := by decide +kernel
theorem dX8_ages_60 : decode cX8_ages 60 = .ok (.aload_n 0, 1) := by decide +kernel
theorem dX8_ages_61 : decode cX8_ages 61 = .ok (.getfield 29, 3) := by decide +kernel
theorem dX8_ages_64 : decode cX8_ages 64 = .ok (.iload_n 1, 1) := by decide +kernel
theorem dX8_ages_65 : decode cX8_ages 65 = .ok (.iconst 1, 1) := by decide +kernel
theorem dX8_ages_66 : decode cX8_ages 66 = .ok (.iastore, 1) := by decide +kernel
theorem dX8_ages_67 : decode cX8_ages 67 = .ok (.aload_n 0, 1) := by decide +kernel
theorem dX8_ages_68 : decode cX8_ages 68 = .ok (.getfield 32, 3) := by decide +kernel
theorem dX8_ages_71 : decode cX8_ages 71 = .ok (.iload_n 1, 1) := by decide +kernel
theorem dX8_ages_72 : decode cX8_ages 72 = .ok (.iconst 3, 1) := by decide +kernel
theorem dX8_ages_73 : decode cX8_ages 73 = .ok (.iastore, 1) := by decide +kernel
theorem dX8_ages_74 : decode cX8_ages 74 = .ok (.aload_n 0, 1) := by decide +kernel
theorem dX8_ages_75 : decode cX8_ages 75 = .ok (.iload_n 1, 1) := by decide +kernel
theorem dX8_ages_76 : decode cX8_ages 76 = .ok (.invokevirtual 140, 3) := by decide +kernel
theorem dX8_ages_79 : decode cX8_ages 79 = .ok (.goto 15, 3) := by decide +kernel
theorem dX8_ages_82 : decode cX8_ages 82 = .ok (.aload_n 0, 1) := by decide +kernel
theorem dX8_ages_83 : decode cX8_ages 83 = .ok (.getfield 29, 3) := by decide +kernel
theorem dX8_ages_86 : decode cX8_ages 86 = .ok (.iload_n 1, 1) := by decide +kernel
theorem dX8_ages_87 : decode cX8_ages 87 = .ok (.iconst 3, 1) := by decide +kernel
theorem dX8_ages_88 : decode cX8_ages 88 = .ok (.iastore, 1) := by decide +kernel
theorem dX8_ages_89 : decode cX8_ages 89 = .ok (.aload_n 0, 1) := by decide +kernel
theorem dX8_ages_90 : decode cX8_ages 90 = .ok (.iload_n 1, 1) := by decide +kernel
theorem dX8_ages_91 : decode cX8_ages 91 = .ok (.invokevirtual 148, 3) := by decide +kernel
theorem dX8_ages_94 : decode cX8_ages 94 = .ok (.return_, 1) := by decide +kernel
noncomputable def bX8_ages_0 (Q : Option Value → MM → Prop) (nx : Nat → Kt) : Kt := ldA 0 (gR 8 7 (ldI 1 (aI 10 (cI 1 (ifc (fun x y => x = y) (nx 20) (ldA 0 (gR 8 7 (ldI 1 (aI 10 (cI 2 (ifc (fun x y => x = y) (nx 20) (nx 29))))))))))))
noncomputable def bX8_ages_20 (Q : Option Value → MM → Prop) (nx : Nat → Kt) : Kt := ldA 0 (gR 8 15 (ldI 1 (aI 11 (ifz (fun x => x = 0) (nx 30) (nx 29)))))
noncomputable def bX8_ages_29 (Q : Option Value → MM → Prop) (nx : Nat → Kt) : Kt := rV Q
noncomputable def bX8_ages_30 (Q : Option Value → MM → Prop) (nx : Nat → Kt) : Kt := ldA 0 (gR 8 8 (ldI 1 (du2 (aI 10 (cI 1 (bop (fun x y => x - y) (sAI (ldA 0 (gR 8 8 (ldI 1 (aI 10 (ifz (fun x => x ≤ 0) (nx 50) (rV Q)))))))))))))
noncomputable def bX8_ages_50 (Q : Option Value → MM → Prop) (nx : Nat → Kt) : Kt := ldA 0 (gR 8 7 (ldI 1 (aI 10 (cI 2 (ifc (fun x y => x = y) (ldA 0 (gR 8 7 (ldI 1 (cI 1 (sAI (ldA 0 (gR 8 8 (ldI 1 (cI 3 (sAI (ldA 0 (ldI 1 (cV 1 8 wX8_partnerStops 0 0 0 0 (nx 94)))))))))))))) (nx 82))))))
noncomputable def bX8_ages_82 (Q : Option Value → MM → Prop) (nx : Nat → Kt) : Kt := ldA 0 (gR 8 7 (ldI 1 (cI 3 (sAI (ldA 0 (ldI 1 (cV 1 8 wX8_forgets 0 0 0 0 (nx 94))))))))
noncomputable def bX8_ages_94 (Q : Option Value → MM → Prop) (nx : Nat → Kt) : Kt := rV Q
noncomputable def kX8_ages (Q : Option Value → MM → Prop) (nx : Nat → Kt) : Nat → Kt := bse [(0, bX8_ages_0 Q nx), (20, bX8_ages_20 Q nx), (29, bX8_ages_29 Q nx), (30, bX8_ages_30 Q nx), (50, bX8_ages_50 Q nx), (82, bX8_ages_82 Q nx), (94, bX8_ages_94 Q nx)]
abbrev rX8_ages : Room := { frames := 1, cells := 0, slots := 0, locals := 22 }
noncomputable def wX8_ages : Mw := mw 2 kX8_ages
set_option maxRecDepth 20000 in
theorem oX8_ages_0 {T : Ct} {Q : Option Value → MM → Prop} (C : Cx T cX8_ages 2 RX8 0 0) (CR : CxR T 1 22) (hr : T.2.2.2.2.2.2.2.2.1.sig.returnType = none) (hnm : T.2.2.2.2.2.2.2.2.1.name = "ages") {nx : Nat → Kt} (hn : ∀ pc, Sd T 2 (QT T Q 0 0) 0 0 pc (nx pc)) : Sd T 2 (QT T Q 0 0) 0 0 0 (bX8_ages_0 Q nx) := x_al_n C dX8_ages_0 rfl (gf_X8_29 C dX8_ages_1 (x_il_n C dX8_ages_4 rfl (x_iald C dX8_ages_5 (x_ic C dX8_ages_6 (by decide) (x_ic_eq C (hn 20) dX8_ages_7 (by decide) (x_al_n C dX8_ages_10 rfl (gf_X8_29 C dX8_ages_11 (x_il_n C dX8_ages_14 rfl (x_iald C dX8_ages_15 (x_ic C dX8_ages_16 (by decide) (x_ic_ne C (hn 29) dX8_ages_17 (by decide) (hn 20))))))))))))
set_option maxRecDepth 20000 in
theorem oX8_ages_20 {T : Ct} {Q : Option Value → MM → Prop} (C : Cx T cX8_ages 2 RX8 0 0) (CR : CxR T 1 22) (hr : T.2.2.2.2.2.2.2.2.1.sig.returnType = none) (hnm : T.2.2.2.2.2.2.2.2.1.name = "ages") {nx : Nat → Kt} (hn : ∀ pc, Sd T 2 (QT T Q 0 0) 0 0 pc (nx pc)) : Sd T 2 (QT T Q 0 0) 0 0 20 (bX8_ages_20 Q nx) := x_al_n C dX8_ages_20 rfl (gf_X8_53 C dX8_ages_21 (x_il_n C dX8_ages_24 rfl (x_zald C dX8_ages_25 (x_if_eq C (hn 30) dX8_ages_26 (by decide) (hn 29)))))
set_option maxRecDepth 20000 in
theorem oX8_ages_29 {T : Ct} {Q : Option Value → MM → Prop} (C : Cx T cX8_ages 2 RX8 0 0) (CR : CxR T 1 22) (hr : T.2.2.2.2.2.2.2.2.1.sig.returnType = none) (hnm : T.2.2.2.2.2.2.2.2.1.name = "ages") {nx : Nat → Kt} (hn : ∀ pc, Sd T 2 (QT T Q 0 0) 0 0 pc (nx pc)) : Sd T 2 (QT T Q 0 0) 0 0 29 (bX8_ages_29 Q nx) := x_rV C hr dX8_ages_29
set_option maxRecDepth 20000 in
theorem oX8_ages_30 {T : Ct} {Q : Option Value → MM → Prop} (C : Cx T cX8_ages 2 RX8 0 0) (CR : CxR T 1 22) (hr : T.2.2.2.2.2.2.2.2.1.sig.returnType = none) (hnm : T.2.2.2.2.2.2.2.2.1.name = "ages") {nx : Nat → Kt} (hn : ∀ pc, Sd T 2 (QT T Q 0 0) 0 0 pc (nx pc)) : Sd T 2 (QT T Q 0 0) 0 0 30 (bX8_ages_30 Q nx) := x_al_n C dX8_ages_30 rfl (gf_X8_32 C dX8_ages_31 (x_il_n C dX8_ages_34 rfl (x_dup2 C dX8_ages_35 (x_iald C dX8_ages_36 (x_ic C dX8_ages_37 (by decide) (x_isub C dX8_ages_38 (x_iast C dX8_ages_39 (x_al_n C dX8_ages_40 rfl (gf_X8_32 C dX8_ages_41 (x_il_n C dX8_ages_44 rfl (x_iald C dX8_ages_45 (x_if_le C (hn 50) dX8_ages_46 (by decide) (x_rV C hr dX8_ages_49)))))))))))))
set_option maxRecDepth 20000 in
theorem oX8_ages_50 {T : Ct} {Q : Option Value → MM → Prop} (C : Cx T cX8_ages 2 RX8 0 0) (CR : CxR T 1 22) (hr : T.2.2.2.2.2.2.2.2.1.sig.returnType = none) (hnm : T.2.2.2.2.2.2.2.2.1.name = "ages") {nx : Nat → Kt} (hn : ∀ pc, Sd T 2 (QT T Q 0 0) 0 0 pc (nx pc)) : Sd T 2 (QT T Q 0 0) 0 0 50 (bX8_ages_50 Q nx) := x_al_n C dX8_ages_50 rfl (gf_X8_29 C dX8_ages_51 (x_il_n C dX8_ages_54 rfl (x_iald C dX8_ages_55 (x_ic C dX8_ages_56 (by decide) (x_ic_ne C (hn 82) dX8_ages_57 (by decide) (x_al_n C dX8_ages_60 rfl (gf_X8_29 C dX8_ages_61 (x_il_n C dX8_ages_64 rfl (x_ic C dX8_ages_65 (by decide) (x_iast C dX8_ages_66 (x_al_n C dX8_ages_67 rfl (gf_X8_32 C dX8_ages_68 (x_il_n C dX8_ages_71 rfl (x_ic C dX8_ages_72 (by decide) (x_iast C dX8_ages_73 (x_al_n C dX8_ages_74 rfl (x_il_n C dX8_ages_75 rfl (x_cV C CR mX8_partnerStops ⟨co_X8_partnerStops, init_X8, md_X8_partnerStops, by decide, by decide⟩ (ci := 8) (TX := TX8) (N := 51) rfl (by decide) ml_X8_140 im_X8_partnerStops se_X8_partnerStops dX8_ages_76 (x_goto C (hn 94) dX8_ages_79 (by decide))))))))))))))))))))
set_option maxRecDepth 20000 in
theorem oX8_ages_82 {T : Ct} {Q : Option Value → MM → Prop} (C : Cx T cX8_ages 2 RX8 0 0) (CR : CxR T 1 22) (hr : T.2.2.2.2.2.2.2.2.1.sig.returnType = none) (hnm : T.2.2.2.2.2.2.2.2.1.name = "ages") {nx : Nat → Kt} (hn : ∀ pc, Sd T 2 (QT T Q 0 0) 0 0 pc (nx pc)) : Sd T 2 (QT T Q 0 0) 0 0 82 (bX8_ages_82 Q nx) := x_al_n C dX8_ages_82 rfl (gf_X8_29 C dX8_ages_83 (x_il_n C dX8_ages_86 rfl (x_ic C dX8_ages_87 (by decide) (x_iast C dX8_ages_88 (x_al_n C dX8_ages_89 rfl (x_il_n C dX8_ages_90 rfl (x_cV C CR mX8_forgets ⟨co_X8_forgets, init_X8, md_X8_forgets, by decide, by decide⟩ (ci := 8) (TX := TX8) (N := 51) rfl (by decide) ml_X8_148 im_X8_forgets se_X8_forgets dX8_ages_91 (hn 94))))))))
set_option maxRecDepth 20000 in
theorem oX8_ages_94 {T : Ct} {Q : Option Value → MM → Prop} (C : Cx T cX8_ages 2 RX8 0 0) (CR : CxR T 1 22) (hr : T.2.2.2.2.2.2.2.2.1.sig.returnType = none) (hnm : T.2.2.2.2.2.2.2.2.1.name = "ages") {nx : Nat → Kt} (hn : ∀ pc, Sd T 2 (QT T Q 0 0) 0 0 pc (nx pc)) : Sd T 2 (QT T Q 0 0) 0 0 94 (bX8_ages_94 Q nx) := x_rV C hr dX8_ages_94
set_option maxRecDepth 20000 in
theorem mX8_ages (l : Launch) (D : va_G) (cA : Nat → ClassId) (base : Nat) : Mc l D cA base yX8_ages cX8_ages 2 none rX8_ages wX8_ages := mc_of (by decide +kernel) kX8_ages (fun T Q C CR hr hnm nx hn => bse_ok _ (List.forall_mem_cons.mpr ⟨oX8_ages_0 C CR hr hnm hn, List.forall_mem_cons.mpr ⟨oX8_ages_20 C CR hr hnm hn, List.forall_mem_cons.mpr ⟨oX8_ages_29 C CR hr hnm hn, List.forall_mem_cons.mpr ⟨oX8_ages_30 C CR hr hnm hn, List.forall_mem_cons.mpr ⟨oX8_ages_50 C CR hr hnm hn, List.forall_mem_cons.mpr ⟨oX8_ages_82 C CR hr hnm hn, List.forall_mem_cons.mpr ⟨oX8_ages_94 C CR hr hnm hn, fun _ h => nomatch h⟩⟩⟩⟩⟩⟩⟩))
theorem dX8_fits_0 : decode cX8_fits 0 = .ok (.aload_n 0, 1) := by decide +kernel
theorem dX8_fits_1 : decode cX8_fits 1 = .ok (.getfield 29, 3) := by decide +kernel
theorem dX8_fits_4 : decode cX8_fits 4 = .ok (.iload_n 1, 1) := by decide +kernel
theorem dX8_fits_5 : decode cX8_fits 5 = .ok (.iaload, 1) := by decide +kernel
theorem dX8_fits_6 : decode cX8_fits 6 = .ok (.iconst 1, 1) := by decide +kernel
theorem dX8_fits_7 : decode cX8_fits 7 = .ok (.if_icmp .eq 13, 3) := by decide +kernel
theorem dX8_fits_10 : decode cX8_fits 10 = .ok (.aload_n 0, 1) := by decide +kernel
theorem dX8_fits_11 : decode cX8_fits 11 = .ok (.getfield 29, 3) := by decide +kernel
theorem dX8_fits_14 : decode cX8_fits 14 = .ok (.iload_n 1, 1) := by decide +kernel
theorem dX8_fits_15 : decode cX8_fits 15 = .ok (.iaload, 1) := by decide +kernel
theorem dX8_fits_16 : decode cX8_fits 16 = .ok (.iconst 2, 1) := by decide +kernel
theorem dX8_fits_17 : decode cX8_fits 17 = .ok (.if_icmp .ne 49, 3) := by decide +kernel
theorem dX8_fits_20 : decode cX8_fits 20 = .ok (.aload_n 0, 1) := by decide +kernel
theorem dX8_fits_21 : decode cX8_fits 21 = .ok (.getfield 16, 3) := by decide +kernel
theorem dX8_fits_24 : decode cX8_fits 24 = .ok (.iload_n 1, 1) := by decide +kernel
theorem dX8_fits_25 : decode cX8_fits 25 = .ok (.iaload, 1) := by decide +kernel
theorem dX8_fits_26 : decode cX8_fits 26 = .ok (.ifCond .le 40, 3) := by decide +kernel
theorem dX8_fits_29 : decode cX8_fits 29 = .ok (.aload_n 0, 1) := by decide +kernel
theorem dX8_fits_30 : decode cX8_fits 30 = .ok (.getfield 62, 3) := by decide +kernel
theorem dX8_fits_33 : decode cX8_fits 33 = .ok (.iconst 5, 1) := by decide +kernel
theorem dX8_fits_34 : decode cX8_fits 34 = .ok (.iload_n 1, 1) := by decide +kernel
theorem dX8_fits_35 : decode cX8_fits 35 = .ok (.imul, 1) := by decide +kernel
theorem dX8_fits_36 : decode cX8_fits 36 = .ok (.iaload, 1) := by decide +kernel
theorem dX8_fits_37 : decode cX8_fits 37 = .ok (.ifCond .le 29, 3) := by decide +kernel
theorem dX8_fits_40 : decode cX8_fits 40 = .ok (.aload_n 0, 1) := by decide +kernel
theorem dX8_fits_41 : decode cX8_fits 41 = .ok (.getfield 62, 3) := by decide +kernel
theorem dX8_fits_44 : decode cX8_fits 44 = .ok (.iconst 5, 1) := by decide +kernel
theorem dX8_fits_45 : decode cX8_fits 45 = .ok (.iload_n 1, 1) := by decide +kernel
theorem dX8_fits_46 : decode cX8_fits 46 = .ok (.imul, 1) := by decide +kernel
theorem dX8_fits_47 : decode cX8_fits 47 = .ok (.iconst 1, 1) := by decide +kernel
theorem dX8_fits_48 : decode cX8_fits 48 = .ok (.iadd, 1) := by decide +kernel
theorem dX8_fits_49 : decode cX8_fits 49 = .ok (.iaload, 1) := by decide +kernel
theorem dX8_fits_50 : decode cX8_fits 50 = .ok (.ifCond .le 16, 3) := by decide +kernel
theorem dX8_fits_53 : decode cX8_fits 53 = .ok (.aload_n 0, 1) := by decide +kernel
theorem dX8_fits_54 : decode cX8_fits 54 = .ok (.iload_n 1, 1) := by decide +kernel
theorem dX8_fits_55 : decode cX8_fits 55 = .ok (.iconst 4, 1) := by decide +kernel
theorem dX8_fits_56 : decode cX8_fits 56 = .ok (.invokevirtual 225, 3) := by decide +kernel
theorem dX8_fits_59 : decode cX8_fits 59 = .ok (.ifCond .eq 7, 3) := by decide +kernel
theorem dX8_fits_62 : decode cX8_fits 62 = .ok (.iconst 1, 1) := by decide +kernel
theorem dX8_fits_63 : decode cX8_fits 63 = .ok (.goto 4, 3) := by decide +kernel
theorem dX8_fits_66 : decode cX8_fits 66 = .ok (.iconst 0, 1) := by decide +kernel
theorem dX8_fits_67 : decode cX8_fits 67 = .ok (.ireturn, 1) := by decide +kernel
noncomputable def bX8_fits_0 (Q : Option Value → MM → Prop) (nx : Nat → Kt) : Kt := ldA 0 (gR 8 7 (ldI 1 (aI 10 (cI 1 (ifc (fun x y => x = y) (nx 20) (ldA 0 (gR 8 7 (ldI 1 (aI 10 (cI 2 (ifc (fun x y => x = y) (nx 20) (nx 66))))))))))))
noncomputable def bX8_fits_20 (Q : Option Value → MM → Prop) (nx : Nat → Kt) : Kt := ldA 0 (gR 8 3 (ldI 1 (aI 10 (ifz (fun x => x ≤ 0) (nx 66) (ldA 0 (gR 8 18 (cI 5 (ldI 1 (bop (fun x y => x * y) (aI 10 (ifz (fun x => x ≤ 0) (nx 66) (ldA 0 (gR 8 18 (cI 5 (ldI 1 (bop (fun x y => x * y) (cI 1 (bop (fun x y => x + y) (aI 10 (ifz (fun x => x ≤ 0) (nx 66) (ldA 0 (ldI 1 (cI 4 (cV 2 8 wX8_isPartner 0 0 0 0 (ifz (fun x => x = 0) (nx 66) (cI 1 (nx 67)))))))))))))))))))))))))))
noncomputable def bX8_fits_66 (Q : Option Value → MM → Prop) (nx : Nat → Kt) : Kt := cI 0 (nx 67)
noncomputable def bX8_fits_67 (Q : Option Value → MM → Prop) (nx : Nat → Kt) : Kt := rZ Q
noncomputable def kX8_fits (Q : Option Value → MM → Prop) (nx : Nat → Kt) : Nat → Kt := bse [(0, bX8_fits_0 Q nx), (20, bX8_fits_20 Q nx), (66, bX8_fits_66 Q nx), (67, bX8_fits_67 Q nx)]
abbrev rX8_fits : Room := { frames := 1, cells := 0, slots := 0, locals := 22 }
noncomputable def wX8_fits : Mw := mw 2 kX8_fits
set_option maxRecDepth 20000 in
theorem oX8_fits_0 {T : Ct} {Q : Option Value → MM → Prop} (C : Cx T cX8_fits 2 RX8 0 0) (CR : CxR T 1 22) (hr : T.2.2.2.2.2.2.2.2.1.sig.returnType = (some .boolean)) (hnm : T.2.2.2.2.2.2.2.2.1.name = "fits") {nx : Nat → Kt} (hn : ∀ pc, Sd T 2 (QT T Q 0 0) 0 0 pc (nx pc)) : Sd T 2 (QT T Q 0 0) 0 0 0 (bX8_fits_0 Q nx) := x_al_n C dX8_fits_0 rfl (gf_X8_29 C dX8_fits_1 (x_il_n C dX8_fits_4 rfl (x_iald C dX8_fits_5 (x_ic C dX8_fits_6 (by decide) (x_ic_eq C (hn 20) dX8_fits_7 (by decide) (x_al_n C dX8_fits_10 rfl (gf_X8_29 C dX8_fits_11 (x_il_n C dX8_fits_14 rfl (x_iald C dX8_fits_15 (x_ic C dX8_fits_16 (by decide) (x_ic_ne C (hn 66) dX8_fits_17 (by decide) (hn 20))))))))))))
set_option maxRecDepth 20000 in
theorem oX8_fits_20 {T : Ct} {Q : Option Value → MM → Prop} (C : Cx T cX8_fits 2 RX8 0 0) (CR : CxR T 1 22) (hr : T.2.2.2.2.2.2.2.2.1.sig.returnType = (some .boolean)) (hnm : T.2.2.2.2.2.2.2.2.1.name = "fits") {nx : Nat → Kt} (hn : ∀ pc, Sd T 2 (QT T Q 0 0) 0 0 pc (nx pc)) : Sd T 2 (QT T Q 0 0) 0 0 20 (bX8_fits_20 Q nx) := x_al_n C dX8_fits_20 rfl (gf_X8_16 C dX8_fits_21 (x_il_n C dX8_fits_24 rfl (x_iald C dX8_fits_25 (x_if_le C (hn 66) dX8_fits_26 (by decide) (x_al_n C dX8_fits_29 rfl (gf_X8_62 C dX8_fits_30 (x_ic C dX8_fits_33 (by decide) (x_il_n C dX8_fits_34 rfl (x_imul C dX8_fits_35 (x_iald C dX8_fits_36 (x_if_le C (hn 66) dX8_fits_37 (by decide) (x_al_n C dX8_fits_40 rfl (gf_X8_62 C dX8_fits_41 (x_ic C dX8_fits_44 (by decide) (x_il_n C dX8_fits_45 rfl (x_imul C dX8_fits_46 (x_ic C dX8_fits_47 (by decide) (x_iadd C dX8_fits_48 (x_iald C dX8_fits_49 (x_if_le C (hn 66) dX8_fits_50 (by decide) (x_al_n C dX8_fits_53 rfl (x_il_n C dX8_fits_54 rfl (x_ic C dX8_fits_55 (by decide) (x_cV C CR mX8_isPartner ⟨co_X8_isPartner, init_X8, md_X8_isPartner, by decide, by decide⟩ (ci := 8) (TX := TX8) (N := 51) rfl (by decide) ml_X8_225 im_X8_isPartner se_X8_isPartner dX8_fits_56 (x_if_eq C (hn 66) dX8_fits_59 (by decide) (x_ic C dX8_fits_62 (by decide) (x_goto C (hn 67) dX8_fits_63 (by decide))))))))))))))))))))))))))))
set_option maxRecDepth 20000 in
theorem oX8_fits_66 {T : Ct} {Q : Option Value → MM → Prop} (C : Cx T cX8_fits 2 RX8 0 0) (CR : CxR T 1 22) (hr : T.2.2.2.2.2.2.2.2.1.sig.returnType = (some .boolean)) (hnm : T.2.2.2.2.2.2.2.2.1.name = "fits") {nx : Nat → Kt} (hn : ∀ pc, Sd T 2 (QT T Q 0 0) 0 0 pc (nx pc)) : Sd T 2 (QT T Q 0 0) 0 0 66 (bX8_fits_66 Q nx) := x_ic C dX8_fits_66 (by decide) (hn 67)
set_option maxRecDepth 20000 in
theorem oX8_fits_67 {T : Ct} {Q : Option Value → MM → Prop} (C : Cx T cX8_fits 2 RX8 0 0) (CR : CxR T 1 22) (hr : T.2.2.2.2.2.2.2.2.1.sig.returnType = (some .boolean)) (hnm : T.2.2.2.2.2.2.2.2.1.name = "fits") {nx : Nat → Kt} (hn : ∀ pc, Sd T 2 (QT T Q 0 0) 0 0 pc (nx pc)) : Sd T 2 (QT T Q 0 0) 0 0 67 (bX8_fits_67 Q nx) := x_rZ C hr dX8_fits_67
set_option maxRecDepth 20000 in
theorem mX8_fits (l : Launch) (D : va_G) (cA : Nat → ClassId) (base : Nat) : Mc l D cA base yX8_fits cX8_fits 2 (some .boolean) rX8_fits wX8_fits := mc_of (by decide +kernel) kX8_fits (fun T Q C CR hr hnm nx hn => bse_ok _ (List.forall_mem_cons.mpr ⟨oX8_fits_0 C CR hr hnm hn, List.forall_mem_cons.mpr ⟨oX8_fits_20 C CR hr hnm hn, List.forall_mem_cons.mpr ⟨oX8_fits_66 C CR hr hnm hn, List.forall_mem_cons.mpr ⟨oX8_fits_67 C CR hr hnm hn, fun _ h => nomatch h⟩⟩⟩⟩))
theorem dX8_areLike_0 : decode cX8_areLike 0 = .ok (.aload_n 0, 1) := by decide +kernel
theorem dX8_areLike_1 : decode cX8_areLike 1 = .ok (.getfield 16, 3) := by decide +kernel
theorem dX8_areLike_4 : decode cX8_areLike 4 = .ok (.iload_n 1, 1) := by decide +kernel
theorem dX8_areLike_5 : decode cX8_areLike 5 = .ok (.iaload, 1) := by decide +kernel
theorem dX8_areLike_6 : decode cX8_areLike 6 = .ok (.aload_n 0, 1) := by decide +kernel
theorem dX8_areLike_7 : decode cX8_areLike 7 = .ok (.getfield 16, 3) := by decide +kernel
theorem dX8_areLike_10 : decode cX8_areLike 10 = .ok (.iload_n 2, 1) := by decide +kernel
theorem dX8_areLike_11 : decode cX8_areLike 11 = .ok (.iaload, 1) := by decide +kernel
theorem dX8_areLike_12 : decode cX8_areLike 12 = .ok (.if_icmp .ne 49, 3) := by decide +kernel
theorem dX8_areLike_15 : decode cX8_areLike 15 = .ok (.aload_n 0, 1) := by decide +kernel
theorem dX8_areLike_16 : decode cX8_areLike 16 = .ok (.getfield 62, 3) := by decide +kernel
theorem dX8_areLike_19 : decode cX8_areLike 19 = .ok (.iconst 5, 1) := by decide +kernel
theorem dX8_areLike_20 : decode cX8_areLike 20 = .ok (.iload_n 1, 1) := by decide +kernel
theorem dX8_areLike_21 : decode cX8_areLike 21 = .ok (.imul, 1) := by decide +kernel
theorem dX8_areLike_22 : decode cX8_areLike 22 = .ok (.iaload, 1) := by decide +kernel
theorem dX8_areLike_23 : decode cX8_areLike 23 = .ok (.aload_n 0, 1) := by decide +kernel
theorem dX8_areLike_24 : decode cX8_areLike 24 = .ok (.getfield 62, 3) := by decide +kernel
theorem dX8_areLike_27 : decode cX8_areLike 27 = .ok (.iconst 5, 1) := by decide +kernel
theorem dX8_areLike_28 : decode cX8_areLike 28 = .ok (.iload_n 2, 1) := by decide +kernel
theorem dX8_areLike_29 : decode cX8_areLike 29 = .ok (.imul, 1) := by decide +kernel
theorem dX8_areLike_30 : decode cX8_areLike 30 = .ok (.iaload, 1) := by decide +kernel
theorem dX8_areLike_31 : decode cX8_areLike 31 = .ok (.if_icmp .ne 30, 3) := by decide +kernel
theorem dX8_areLike_34 : decode cX8_areLike 34 = .ok (.aload_n 0, 1) := by decide +kernel
theorem dX8_areLike_35 : decode cX8_areLike 35 = .ok (.getfield 62, 3) := by decide +kernel
theorem dX8_areLike_38 : decode cX8_areLike 38 = .ok (.iconst 5, 1) := by decide +kernel
theorem dX8_areLike_39 : decode cX8_areLike 39 = .ok (.iload_n 1, 1) := by decide +kernel
theorem dX8_areLike_40 : decode cX8_areLike 40 = .ok (.imul, 1) := by decide +kernel
theorem dX8_areLike_41 : decode cX8_areLike 41 = .ok (.iconst 1, 1) := by decide +kernel
theorem dX8_areLike_42 : decode cX8_areLike 42 = .ok (.iadd, 1) := by decide +kernel
theorem dX8_areLike_43 : decode cX8_areLike 43 = .ok (.iaload, 1) := by decide +kernel
theorem dX8_areLike_44 : decode cX8_areLike 44 = .ok (.aload_n 0, 1) := by decide +kernel
theorem dX8_areLike_45 : decode cX8_areLike 45 = .ok (.getfield 62, 3) := by decide +kernel
theorem dX8_areLike_48 : decode cX8_areLike 48 = .ok (.iconst 5, 1) := by decide +kernel
theorem dX8_areLike_49 : decode cX8_areLike 49 = .ok (.iload_n 2, 1) := by decide +kernel
theorem dX8_areLike_50 : decode cX8_areLike 50 = .ok (.imul, 1) := by decide +kernel
theorem dX8_areLike_51 : decode cX8_areLike 51 = .ok (.iconst 1, 1) := by decide +kernel
theorem dX8_areLike_52 : decode cX8_areLike 52 = .ok (.iadd, 1) := by decide +kernel
theorem dX8_areLike_53 : decode cX8_areLike 53 = .ok (.iaload, 1) := by decide +kernel
theorem dX8_areLike_54 : decode cX8_areLike 54 = .ok (.if_icmp .ne 7, 3) := by decide +kernel
theorem dX8_areLike_57 : decode cX8_areLike 57 = .ok (.iconst 1, 1) := by decide +kernel
theorem dX8_areLike_58 : decode cX8_areLike 58 = .ok (.goto 4, 3) := by decide +kernel
theorem dX8_areLike_61 : decode cX8_areLike 61 = .ok (.iconst 0, 1) := by decide +kernel
theorem dX8_areLike_62 : decode cX8_areLike 62 = .ok (.ireturn, 1) := by decide +kernel
noncomputable def bX8_areLike_0 (Q : Option Value → MM → Prop) (nx : Nat → Kt) : Kt := ldA 0 (gR 8 3 (ldI 1 (aI 10 (ldA 0 (gR 8 3 (ldI 2 (aI 10 (ifc (fun x y => x = y) (ldA 0 (gR 8 18 (cI 5 (ldI 1 (bop (fun x y => x * y) (aI 10 (ldA 0 (gR 8 18 (cI 5 (ldI 2 (bop (fun x y => x * y) (aI 10 (ifc (fun x y => x = y) (ldA 0 (gR 8 18 (cI 5 (ldI 1 (bop (fun x y => x * y) (cI 1 (bop (fun x y => x + y) (aI 10 (ldA 0 (gR 8 18 (cI 5 (ldI 2 (bop (fun x y => x * y) (cI 1 (bop (fun x y => x + y) (aI 10 (ifc (fun x y => x = y) (cI 1 (nx 62)) (nx 61)))))))))))))))))) (nx 61)))))))))))))) (nx 61)))))))))
noncomputable def bX8_areLike_61 (Q : Option Value → MM → Prop) (nx : Nat → Kt) : Kt := cI 0 (nx 62)
noncomputable def bX8_areLike_62 (Q : Option Value → MM → Prop) (nx : Nat → Kt) : Kt := rZ Q
noncomputable def kX8_areLike (Q : Option Value → MM → Prop) (nx : Nat → Kt) : Nat → Kt := bse [(0, bX8_areLike_0 Q nx), (61, bX8_areLike_61 Q nx), (62, bX8_areLike_62 Q nx)]
abbrev rX8_areLike : Room := { frames := 0, cells := 0, slots := 0, locals := 0 }
noncomputable def wX8_areLike : Mw := mw 3 kX8_areLike
set_option maxRecDepth 20000 in
theorem oX8_areLike_0 {T : Ct} {Q : Option Value → MM → Prop} (C : Cx T cX8_areLike 3 RX8 0 0) (CR : CxR T 0 0) (hr : T.2.2.2.2.2.2.2.2.1.sig.returnType = (some .boolean)) (hnm : T.2.2.2.2.2.2.2.2.1.name = "areLike") {nx : Nat → Kt} (hn : ∀ pc, Sd T 3 (QT T Q 0 0) 0 0 pc (nx pc)) : Sd T 3 (QT T Q 0 0) 0 0 0 (bX8_areLike_0 Q nx) := x_al_n C dX8_areLike_0 rfl (gf_X8_16 C dX8_areLike_1 (x_il_n C dX8_areLike_4 rfl (x_iald C dX8_areLike_5 (x_al_n C dX8_areLike_6 rfl (gf_X8_16 C dX8_areLike_7 (x_il_n C dX8_areLike_10 rfl (x_iald C dX8_areLike_11 (x_ic_ne C (hn 61) dX8_areLike_12 (by decide) (x_al_n C dX8_areLike_15 rfl (gf_X8_62 C dX8_areLike_16 (x_ic C dX8_areLike_19 (by decide) (x_il_n C dX8_areLike_20 rfl (x_imul C dX8_areLike_21 (x_iald C dX8_areLike_22 (x_al_n C dX8_areLike_23 rfl (gf_X8_62 C dX8_areLike_24 (x_ic C dX8_areLike_27 (by decide) (x_il_n C dX8_areLike_28 rfl (x_imul C dX8_areLike_29 (x_iald C dX8_areLike_30 (x_ic_ne C (hn 61) dX8_areLike_31 (by decide) (x_al_n C dX8_areLike_34 rfl (gf_X8_62 C dX8_areLike_35 (x_ic C dX8_areLike_38 (by decide) (x_il_n C dX8_areLike_39 rfl (x_imul C dX8_areLike_40 (x_ic C dX8_areLike_41 (by decide) (x_iadd C dX8_areLike_42 (x_iald C dX8_areLike_43 (x_al_n C dX8_areLike_44 rfl (gf_X8_62 C dX8_areLike_45 (x_ic C dX8_areLike_48 (by decide) (x_il_n C dX8_areLike_49 rfl (x_imul C dX8_areLike_50 (x_ic C dX8_areLike_51 (by decide) (x_iadd C dX8_areLike_52 (x_iald C dX8_areLike_53 (x_ic_ne C (hn 61) dX8_areLike_54 (by decide) (x_ic C dX8_areLike_57 (by decide) (x_goto C (hn 62) dX8_areLike_58 (by decide)))))))))))))))))))))))))))))))))))))))))
set_option maxRecDepth 20000 in
theorem oX8_areLike_61 {T : Ct} {Q : Option Value → MM → Prop} (C : Cx T cX8_areLike 3 RX8 0 0) (CR : CxR T 0 0) (hr : T.2.2.2.2.2.2.2.2.1.sig.returnType = (some .boolean)) (hnm : T.2.2.2.2.2.2.2.2.1.name = "areLike") {nx : Nat → Kt} (hn : ∀ pc, Sd T 3 (QT T Q 0 0) 0 0 pc (nx pc)) : Sd T 3 (QT T Q 0 0) 0 0 61 (bX8_areLike_61 Q nx) := x_ic C dX8_areLike_61 (by decide) (hn 62)
set_option maxRecDepth 20000 in
theorem oX8_areLike_62 {T : Ct} {Q : Option Value → MM → Prop} (C : Cx T cX8_areLike 3 RX8 0 0) (CR : CxR T 0 0) (hr : T.2.2.2.2.2.2.2.2.1.sig.returnType = (some .boolean)) (hnm : T.2.2.2.2.2.2.2.2.1.name = "areLike") {nx : Nat → Kt} (hn : ∀ pc, Sd T 3 (QT T Q 0 0) 0 0 pc (nx pc)) : Sd T 3 (QT T Q 0 0) 0 0 62 (bX8_areLike_62 Q nx) := x_rZ C hr dX8_areLike_62
set_option maxRecDepth 20000 in
theorem mX8_areLike (l : Launch) (D : va_G) (cA : Nat → ClassId) (base : Nat) : Mc l D cA base yX8_areLike cX8_areLike 3 (some .boolean) rX8_areLike wX8_areLike := mc_of (by decide +kernel) kX8_areLike (fun T Q C CR hr hnm nx hn => bse_ok _ (List.forall_mem_cons.mpr ⟨oX8_areLike_0 C CR hr hnm hn, List.forall_mem_cons.mpr ⟨oX8_areLike_61 C CR hr hnm hn, List.forall_mem_cons.mpr ⟨oX8_areLike_62 C CR hr hnm hn, fun _ h => nomatch h⟩⟩⟩))
theorem dX8_isAhead_0 : decode cX8_isAhead 0 = .ok (.iload_n 1, 1) := by decide +kernel
theorem dX8_isAhead_1 : decode cX8_isAhead 1 = .ok (.bipush 8, 2) := by decide +kernel
theorem dX8_isAhead_3 : decode cX8_isAhead 3 = .ok (.idiv, 1) := by decide +kernel
theorem dX8_isAhead_4 : decode cX8_isAhead 4 = .ok (.aload_n 0, 1) := by decide +kernel
theorem dX8_isAhead_5 : decode cX8_isAhead 5 = .ok (.invokevirtual 228, 3) := by decide +kernel
theorem dX8_isAhead_8 : decode cX8_isAhead 8 = .ok (.if_icmp .ne 7, 3) := by decide +kernel
theorem dX8_isAhead_11 : decode cX8_isAhead 11 = .ok (.iconst 1, 1) := by decide +kernel
theorem dX8_isAhead_12 : decode cX8_isAhead 12 = .ok (.goto 4, 3) := by decide +kernel
theorem dX8_isAhead_15 : decode cX8_isAhead 15 = .ok (.iconst 0, 1) := by decide +kernel
theorem dX8_isAhead_16 : decode cX8_isAhead 16 = .ok (.istore_n 3, 1) := by decide +kernel
theorem dX8_isAhead_17 : decode cX8_isAhead 17 = .ok (.iload_n 3, 1) := by decide +kernel
theorem dX8_isAhead_18 : decode cX8_isAhead 18 = .ok (.ifCond .eq 12, 3) := by decide +kernel
theorem dX8_isAhead_21 : decode cX8_isAhead 21 = .ok (.aload_n 0, 1) := by decide +kernel
theorem dX8_isAhead_22 : decode cX8_isAhead 22 = .ok (.getfield 19, 3) := by decide +kernel
theorem dX8_isAhead_25 : decode cX8_isAhead 25 = .ok (.iload_n 1, 1) := by decide +kernel
theorem dX8_isAhead_26 : decode cX8_isAhead 26 = .ok (.iaload, 1) := by decide +kernel
theorem dX8_isAhead_27 : decode cX8_isAhead 27 = .ok (.goto 13, 3) := by decide +kernel
theorem dX8_isAhead_30 : decode cX8_isAhead 30 = .ok (.aload_n 0, 1) := by decide +kernel
theorem dX8_isAhead_31 : decode cX8_isAhead 31 = .ok (.getfield 62, 3) := by decide +kernel
theorem dX8_isAhead_34 : decode cX8_isAhead 34 = .ok (.iconst 5, 1) := by decide +kernel
theorem dX8_isAhead_35 : decode cX8_isAhead 35 = .ok (.iload_n 1, 1) := by decide +kernel
theorem dX8_isAhead_36 : decode cX8_isAhead 36 = .ok (.imul, 1) := by decide +kernel
theorem dX8_isAhead_37 : decode cX8_isAhead 37 = .ok (.iconst 2, 1) := by decide +kernel
theorem dX8_isAhead_38 : decode cX8_isAhead 38 = .ok (.iadd, 1) := by decide +kernel
theorem dX8_isAhead_39 : decode cX8_isAhead 39 = .ok (.iaload, 1) := by decide +kernel
theorem dX8_isAhead_40 : decode cX8_isAhead 40 = .ok (.istore 4, 2) := by decide +kernel
theorem dX8_isAhead_42 : decode cX8_isAhead 42 = .ok (.iload_n 3, 1) := by decide +kernel
theorem dX8_isAhead_43 : decode cX8_isAhead 43 = .ok (.ifCond .eq 12, 3) := by decide +kernel
theorem dX8_isAhead_46 : decode cX8_isAhead 46 = .ok (.aload_n 0, 1) := by decide +kernel
theorem dX8_isAhead_47 : decode cX8_isAhead 47 = .ok (.getfield 19, 3) := by decide +kernel
theorem dX8_isAhead_50 : decode cX8_isAhead 50 = .ok (.iload_n 2, 1) := by decide +kernel
theorem dX8_isAhead_51 : decode cX8_isAhead 51 = .ok (.iaload, 1) := by decide +kernel
theorem dX8_isAhead_52 : decode cX8_isAhead 52 = .ok (.goto 13, 3) := by decide +kernel
theorem dX8_isAhead_55 : decode cX8_isAhead 55 = .ok (.aload_n 0, 1) := by decide +kernel
theorem dX8_isAhead_56 : decode cX8_isAhead 56 = .ok (.getfield 62, 3) := by decide +kernel
theorem dX8_isAhead_59 : decode cX8_isAhead 59 = .ok (.iconst 5, 1) := by decide +kernel
theorem dX8_isAhead_60 : decode cX8_isAhead 60 = .ok (.iload_n 2, 1) := by decide +kernel
theorem dX8_isAhead_61 : decode cX8_isAhead 61 = .ok (.imul, 1) := by decide +kernel
theorem dX8_isAhead_62 : decode cX8_isAhead 62 = .ok (.iconst 2, 1) := by decide +kernel
theorem dX8_isAhead_63 : decode cX8_isAhead 63 = .ok (.iadd, 1) := by decide +kernel
theorem dX8_isAhead_64 : decode cX8_isAhead 64 = .ok (.iaload, 1) := by decide +kernel
theorem dX8_isAhead_65 : decode cX8_isAhead 65 = .ok (.istore 5, 2) := by decide +kernel
theorem dX8_isAhead_67 : decode cX8_isAhead 67 = .ok (.iload_n 3, 1) := by decide +kernel
theorem dX8_isAhead_68 : decode cX8_isAhead 68 = .ok (.ifCond .eq 7, 3) := by decide +kernel
theorem dX8_isAhead_71 : decode cX8_isAhead 71 = .ok (.iload_n 1, 1) := by decide +kernel
theorem dX8_isAhead_72 : decode cX8_isAhead 72 = .ok (.goto 13, 3) := by decide +kernel
theorem dX8_isAhead_75 : decode cX8_isAhead 75 = .ok (.aload_n 0, 1) := by decide +kernel
theorem dX8_isAhead_76 : decode cX8_isAhead 76 = .ok (.getfield 62, 3) := by decide +kernel
theorem dX8_isAhead_79 : decode cX8_isAhead 79 = .ok (.iconst 5, 1) := by decide +kernel
theorem dX8_isAhead_80 : decode cX8_isAhead 80 = .ok (.iload_n 1, 1) := by decide +kernel
theorem dX8_isAhead_81 : decode cX8_isAhead 81 = .ok (.imul, 1) := by decide +kernel
theorem dX8_isAhead_82 : decode cX8_isAhead 82 = .ok (.iconst 3, 1) := by decide +kernel
theorem dX8_isAhead_83 : decode cX8_isAhead 83 = .ok (.iadd, 1) := by decide +kernel
theorem dX8_isAhead_84 : decode cX8_isAhead 84 = .ok (.iaload, 1) := by decide +kernel
theorem dX8_isAhead_85 : decode cX8_isAhead 85 = .ok (.istore 6, 2) := by decide +kernel
theorem dX8_isAhead_87 : decode cX8_isAhead 87 = .ok (.iload_n 3, 1) := by decide +kernel
theorem dX8_isAhead_88 : decode cX8_isAhead 88 = .ok (.ifCond .eq 7, 3) := by decide +kernel
theorem dX8_isAhead_91 : decode cX8_isAhead 91 = .ok (.iload_n 2, 1) := by decide +kernel
theorem dX8_isAhead_92 : decode cX8_isAhead 92 = .ok (.goto 13, 3) := by decide +kernel
theorem dX8_isAhead_95 : decode cX8_isAhead 95 = .ok (.aload_n 0, 1) := by decide +kernel
theorem dX8_isAhead_96 : decode cX8_isAhead 96 = .ok (.getfield 62, 3) := by decide +kernel
theorem dX8_isAhead_99 : decode cX8_isAhead 99 = .ok (.iconst 5, 1) := by decide +kernel
theorem dX8_isAhead_100 : decode cX8_isAhead 100 = .ok (.iload_n 2, 1) := by decide +kernel
theorem dX8_isAhead_101 : decode cX8_isAhead 101 = .ok (.imul, 1) := by decide +kernel
theorem dX8_isAhead_102 : decode cX8_isAhead 102 = .ok (.iconst 3, 1) := by decide +kernel
theorem dX8_isAhead_103 : decode cX8_isAhead 103 = .ok (.iadd, 1) := by decide +kernel
theorem dX8_isAhead_104 : decode cX8_isAhead 104 = .ok (.iaload, 1) := by decide +kernel
theorem dX8_isAhead_105 : decode cX8_isAhead 105 = .ok (.istore 7, 2) := by decide +kernel
theorem dX8_isAhead_107 : decode cX8_isAhead 107 = .ok (.iload 4, 2) := by decide +kernel
theorem dX8_isAhead_109 : decode cX8_isAhead 109 = .ok (.iload 5, 2) := by decide +kernel
theorem dX8_isAhead_111 : decode cX8_isAhead 111 = .ok (.if_icmp .eq 18, 3) := by decide +kernel
theorem dX8_isAhead_114 : decode cX8_isAhead 114 = .ok (.iload 4, 2) := by decide +kernel
theorem dX8_isAhead_116 : decode cX8_isAhead 116 = .ok (.iload 5, 2) := by decide +kernel
theorem dX8_isAhead_118 : decode cX8_isAhead 118 = .ok (.if_icmp .ge 7, 3) := by decide +kernel
theorem dX8_isAhead_121 : decode cX8_isAhead 121 = .ok (.iconst 1, 1) := by decide +kernel
theorem dX8_isAhead_122 : decode cX8_isAhead 122 = .ok (.goto 39, 3) := by decide +kernel
theorem dX8_isAhead_125 : decode cX8_isAhead 125 = .ok (.iconst 0, 1) := by decide +kernel
theorem dX8_isAhead_126 : decode cX8_isAhead 126 = .ok (.goto 35, 3) := by decide +kernel
theorem dX8_isAhead_129 : decode cX8_isAhead 129 = .ok (.iload 6, 2) := by decide +kernel
theorem dX8_isAhead_131 : decode cX8_isAhead 131 = .ok (.iload 7, 2) := by decide +kernel
theorem dX8_isAhead_133 : decode cX8_isAhead 133 = .ok (.if_icmp .eq 18, 3) := by decide +kernel
theorem dX8_isAhead_136 : decode cX8_isAhead 136 = .ok (.iload 6, 2) := by decide +kernel
theorem dX8_isAhead_138 : decode cX8_isAhead 138 = .ok (.iload 7, 2) := by decide +kernel
theorem dX8_isAhead_140 : decode cX8_isAhead 140 = .ok (.if_icmp .ge 7, 3) := by decide +kernel
theorem dX8_isAhead_143 : decode cX8_isAhead 143 = .ok (.iconst 1, 1) := by decide +kernel
theorem dX8_isAhead_144 : decode cX8_isAhead 144 = .ok (.goto 17, 3) := by decide +kernel
theorem dX8_isAhead_147 : decode cX8_isAhead 147 = .ok (.iconst 0, 1) := by decide +kernel
theorem dX8_isAhead_148 : decode cX8_isAhead 148 = .ok (.goto 13, 3) := by decide +kernel
theorem dX8_isAhead_151 : decode cX8_isAhead 151 = .ok (.iload_n 1, 1) := by decide +kernel
theorem dX8_isAhead_152 : decode cX8_isAhead 152 = .ok (.iload_n 2, 1) := by decide +kernel
theorem dX8_isAhead_153 : decode cX8_isAhead 153 = .ok (.if_icmp .ge 7, 3) := by decide +kernel
theorem dX8_isAhead_156 : decode cX8_isAhead 156 = .ok (.iconst 1, 1) := by decide +kernel
theorem dX8_isAhead_157 : decode cX8_isAhead 157 = .ok (.goto 4, 3) := by decide +kernel
theorem dX8_isAhead_160 : decode cX8_isAhead 160 = .ok (.iconst 0, 1) := by decide +kernel
theorem dX8_isAhead_161 : decode cX8_isAhead 161 = .ok (.ireturn, 1) := by decide +kernel
noncomputable def bX8_isAhead_0 (Q : Option Value → MM → Prop) (nx : Nat → Kt) : Kt := ldI 1 (cI 8 (bod (fun x y => x / y) (ldA 0 (cV 0 8 wX8_stronger 0 0 0 0 (ifc (fun x y => x = y) (cI 1 (nx 16)) (nx 15))))))
noncomputable def bX8_isAhead_15 (Q : Option Value → MM → Prop) (nx : Nat → Kt) : Kt := cI 0 (nx 16)
noncomputable def bX8_isAhead_16 (Q : Option Value → MM → Prop) (nx : Nat → Kt) : Kt := stI 3 (ldI 3 (ifz (fun x => x = 0) (nx 30) (ldA 0 (gR 8 4 (ldI 1 (aI 10 (nx 40)))))))
noncomputable def bX8_isAhead_30 (Q : Option Value → MM → Prop) (nx : Nat → Kt) : Kt := ldA 0 (gR 8 18 (cI 5 (ldI 1 (bop (fun x y => x * y) (cI 2 (bop (fun x y => x + y) (aI 10 (nx 40))))))))
noncomputable def bX8_isAhead_40 (Q : Option Value → MM → Prop) (nx : Nat → Kt) : Kt := stI 4 (ldI 3 (ifz (fun x => x = 0) (nx 55) (ldA 0 (gR 8 4 (ldI 2 (aI 10 (nx 65)))))))
noncomputable def bX8_isAhead_55 (Q : Option Value → MM → Prop) (nx : Nat → Kt) : Kt := ldA 0 (gR 8 18 (cI 5 (ldI 2 (bop (fun x y => x * y) (cI 2 (bop (fun x y => x + y) (aI 10 (nx 65))))))))
noncomputable def bX8_isAhead_65 (Q : Option Value → MM → Prop) (nx : Nat → Kt) : Kt := stI 5 (ldI 3 (ifz (fun x => x = 0) (nx 75) (ldI 1 (nx 85))))
noncomputable def bX8_isAhead_75 (Q : Option Value → MM → Prop) (nx : Nat → Kt) : Kt := ldA 0 (gR 8 18 (cI 5 (ldI 1 (bop (fun x y => x * y) (cI 3 (bop (fun x y => x + y) (aI 10 (nx 85))))))))
noncomputable def bX8_isAhead_85 (Q : Option Value → MM → Prop) (nx : Nat → Kt) : Kt := stI 6 (ldI 3 (ifz (fun x => x = 0) (nx 95) (ldI 2 (nx 105))))
noncomputable def bX8_isAhead_95 (Q : Option Value → MM → Prop) (nx : Nat → Kt) : Kt := ldA 0 (gR 8 18 (cI 5 (ldI 2 (bop (fun x y => x * y) (cI 3 (bop (fun x y => x + y) (aI 10 (nx 105))))))))
noncomputable def bX8_isAhead_105 (Q : Option Value → MM → Prop) (nx : Nat → Kt) : Kt := stI 7 (ldI 4 (ldI 5 (ifc (fun x y => x = y) (nx 129) (ldI 4 (ldI 5 (ifc (fun x y => y ≤ x) (nx 125) (cI 1 (nx 161))))))))
noncomputable def bX8_isAhead_125 (Q : Option Value → MM → Prop) (nx : Nat → Kt) : Kt := cI 0 (nx 161)
noncomputable def bX8_isAhead_129 (Q : Option Value → MM → Prop) (nx : Nat → Kt) : Kt := ldI 6 (ldI 7 (ifc (fun x y => x = y) (nx 151) (ldI 6 (ldI 7 (ifc (fun x y => y ≤ x) (nx 147) (cI 1 (nx 161)))))))
noncomputable def bX8_isAhead_147 (Q : Option Value → MM → Prop) (nx : Nat → Kt) : Kt := cI 0 (nx 161)
noncomputable def bX8_isAhead_151 (Q : Option Value → MM → Prop) (nx : Nat → Kt) : Kt := ldI 1 (ldI 2 (ifc (fun x y => y ≤ x) (nx 160) (cI 1 (nx 161))))
noncomputable def bX8_isAhead_160 (Q : Option Value → MM → Prop) (nx : Nat → Kt) : Kt := cI 0 (nx 161)
noncomputable def bX8_isAhead_161 (Q : Option Value → MM → Prop) (nx : Nat → Kt) : Kt := rZ Q
noncomputable def kX8_isAhead (Q : Option Value → MM → Prop) (nx : Nat → Kt) : Nat → Kt := bse [(0, bX8_isAhead_0 Q nx), (15, bX8_isAhead_15 Q nx), (16, bX8_isAhead_16 Q nx), (30, bX8_isAhead_30 Q nx), (40, bX8_isAhead_40 Q nx), (55, bX8_isAhead_55 Q nx), (65, bX8_isAhead_65 Q nx), (75, bX8_isAhead_75 Q nx), (85, bX8_isAhead_85 Q nx), (95, bX8_isAhead_95 Q nx), (105, bX8_isAhead_105 Q nx), (125, bX8_isAhead_125 Q nx), (129, bX8_isAhead_129 Q nx), (147, bX8_isAhead_147 Q nx), (151, bX8_isAhead_151 Q nx), (160, bX8_isAhead_160 Q nx), (161, bX8_isAhead_161 Q nx)]
abbrev rX8_isAhead : Room := { frames := 1, cells := 0, slots := 0, locals := 20 }
noncomputable def wX8_isAhead : Mw := mw 8 kX8_isAhead
set_option maxRecDepth 20000 in
theorem oX8_isAhead_0 {T : Ct} {Q : Option Value → MM → Prop} (C : Cx T cX8_isAhead 8 RX8 0 0) (CR : CxR T 1 20) (hr : T.2.2.2.2.2.2.2.2.1.sig.returnType = (some .boolean)) (hnm : T.2.2.2.2.2.2.2.2.1.name = "isAhead") {nx : Nat → Kt} (hn : ∀ pc, Sd T 8 (QT T Q 0 0) 0 0 pc (nx pc)) : Sd T 8 (QT T Q 0 0) 0 0 0 (bX8_isAhead_0 Q nx) := x_il_n C dX8_isAhead_0 rfl (x_bp C dX8_isAhead_1 (by decide) (x_idiv C dX8_isAhead_3 (x_al_n C dX8_isAhead_4 rfl (x_cV C CR mX8_stronger ⟨co_X8_stronger, init_X8, md_X8_stronger, by decide, by decide⟩ (ci := 8) (TX := TX8) (N := 51) rfl (by decide) ml_X8_228 im_X8_stronger se_X8_stronger dX8_isAhead_5 (x_ic_ne C (hn 15) dX8_isAhead_8 (by decide) (x_ic C dX8_isAhead_11 (by decide) (x_goto C (hn 16) dX8_isAhead_12 (by decide))))))))
set_option maxRecDepth 20000 in
theorem oX8_isAhead_15 {T : Ct} {Q : Option Value → MM → Prop} (C : Cx T cX8_isAhead 8 RX8 0 0) (CR : CxR T 1 20) (hr : T.2.2.2.2.2.2.2.2.1.sig.returnType = (some .boolean)) (hnm : T.2.2.2.2.2.2.2.2.1.name = "isAhead") {nx : Nat → Kt} (hn : ∀ pc, Sd T 8 (QT T Q 0 0) 0 0 pc (nx pc)) : Sd T 8 (QT T Q 0 0) 0 0 15 (bX8_isAhead_15 Q nx) := x_ic C dX8_isAhead_15 (by decide) (hn 16)
set_option maxRecDepth 20000 in
theorem oX8_isAhead_16 {T : Ct} {Q : Option Value → MM → Prop} (C : Cx T cX8_isAhead 8 RX8 0 0) (CR : CxR T 1 20) (hr : T.2.2.2.2.2.2.2.2.1.sig.returnType = (some .boolean)) (hnm : T.2.2.2.2.2.2.2.2.1.name = "isAhead") {nx : Nat → Kt} (hn : ∀ pc, Sd T 8 (QT T Q 0 0) 0 0 pc (nx pc)) : Sd T 8 (QT T Q 0 0) 0 0 16 (bX8_isAhead_16 Q nx) := x_is_n C dX8_isAhead_16 rfl (by decide) (x_il_n C dX8_isAhead_17 rfl (x_if_eq C (hn 30) dX8_isAhead_18 (by decide) (x_al_n C dX8_isAhead_21 rfl (gf_X8_19 C dX8_isAhead_22 (x_il_n C dX8_isAhead_25 rfl (x_iald C dX8_isAhead_26 (x_goto C (hn 40) dX8_isAhead_27 (by decide))))))))
set_option maxRecDepth 20000 in
theorem oX8_isAhead_30 {T : Ct} {Q : Option Value → MM → Prop} (C : Cx T cX8_isAhead 8 RX8 0 0) (CR : CxR T 1 20) (hr : T.2.2.2.2.2.2.2.2.1.sig.returnType = (some .boolean)) (hnm : T.2.2.2.2.2.2.2.2.1.name = "isAhead") {nx : Nat → Kt} (hn : ∀ pc, Sd T 8 (QT T Q 0 0) 0 0 pc (nx pc)) : Sd T 8 (QT T Q 0 0) 0 0 30 (bX8_isAhead_30 Q nx) := x_al_n C dX8_isAhead_30 rfl (gf_X8_62 C dX8_isAhead_31 (x_ic C dX8_isAhead_34 (by decide) (x_il_n C dX8_isAhead_35 rfl (x_imul C dX8_isAhead_36 (x_ic C dX8_isAhead_37 (by decide) (x_iadd C dX8_isAhead_38 (x_iald C dX8_isAhead_39 (hn 40))))))))
set_option maxRecDepth 20000 in
theorem oX8_isAhead_40 {T : Ct} {Q : Option Value → MM → Prop} (C : Cx T cX8_isAhead 8 RX8 0 0) (CR : CxR T 1 20) (hr : T.2.2.2.2.2.2.2.2.1.sig.returnType = (some .boolean)) (hnm : T.2.2.2.2.2.2.2.2.1.name = "isAhead") {nx : Nat → Kt} (hn : ∀ pc, Sd T 8 (QT T Q 0 0) 0 0 pc (nx pc)) : Sd T 8 (QT T Q 0 0) 0 0 40 (bX8_isAhead_40 Q nx) := x_is C dX8_isAhead_40 (by decide) (x_il_n C dX8_isAhead_42 rfl (x_if_eq C (hn 55) dX8_isAhead_43 (by decide) (x_al_n C dX8_isAhead_46 rfl (gf_X8_19 C dX8_isAhead_47 (x_il_n C dX8_isAhead_50 rfl (x_iald C dX8_isAhead_51 (x_goto C (hn 65) dX8_isAhead_52 (by decide))))))))
set_option maxRecDepth 20000 in
theorem oX8_isAhead_55 {T : Ct} {Q : Option Value → MM → Prop} (C : Cx T cX8_isAhead 8 RX8 0 0) (CR : CxR T 1 20) (hr : T.2.2.2.2.2.2.2.2.1.sig.returnType = (some .boolean)) (hnm : T.2.2.2.2.2.2.2.2.1.name = "isAhead") {nx : Nat → Kt} (hn : ∀ pc, Sd T 8 (QT T Q 0 0) 0 0 pc (nx pc)) : Sd T 8 (QT T Q 0 0) 0 0 55 (bX8_isAhead_55 Q nx) := x_al_n C dX8_isAhead_55 rfl (gf_X8_62 C dX8_isAhead_56 (x_ic C dX8_isAhead_59 (by decide) (x_il_n C dX8_isAhead_60 rfl (x_imul C dX8_isAhead_61 (x_ic C dX8_isAhead_62 (by decide) (x_iadd C dX8_isAhead_63 (x_iald C dX8_isAhead_64 (hn 65))))))))
set_option maxRecDepth 20000 in
theorem oX8_isAhead_65 {T : Ct} {Q : Option Value → MM → Prop} (C : Cx T cX8_isAhead 8 RX8 0 0) (CR : CxR T 1 20) (hr : T.2.2.2.2.2.2.2.2.1.sig.returnType = (some .boolean)) (hnm : T.2.2.2.2.2.2.2.2.1.name = "isAhead") {nx : Nat → Kt} (hn : ∀ pc, Sd T 8 (QT T Q 0 0) 0 0 pc (nx pc)) : Sd T 8 (QT T Q 0 0) 0 0 65 (bX8_isAhead_65 Q nx) := x_is C dX8_isAhead_65 (by decide) (x_il_n C dX8_isAhead_67 rfl (x_if_eq C (hn 75) dX8_isAhead_68 (by decide) (x_il_n C dX8_isAhead_71 rfl (x_goto C (hn 85) dX8_isAhead_72 (by decide)))))
set_option maxRecDepth 20000 in
theorem oX8_isAhead_75 {T : Ct} {Q : Option Value → MM → Prop} (C : Cx T cX8_isAhead 8 RX8 0 0) (CR : CxR T 1 20) (hr : T.2.2.2.2.2.2.2.2.1.sig.returnType = (some .boolean)) (hnm : T.2.2.2.2.2.2.2.2.1.name = "isAhead") {nx : Nat → Kt} (hn : ∀ pc, Sd T 8 (QT T Q 0 0) 0 0 pc (nx pc)) : Sd T 8 (QT T Q 0 0) 0 0 75 (bX8_isAhead_75 Q nx) := x_al_n C dX8_isAhead_75 rfl (gf_X8_62 C dX8_isAhead_76 (x_ic C dX8_isAhead_79 (by decide) (x_il_n C dX8_isAhead_80 rfl (x_imul C dX8_isAhead_81 (x_ic C dX8_isAhead_82 (by decide) (x_iadd C dX8_isAhead_83 (x_iald C dX8_isAhead_84 (hn 85))))))))
set_option maxRecDepth 20000 in
theorem oX8_isAhead_85 {T : Ct} {Q : Option Value → MM → Prop} (C : Cx T cX8_isAhead 8 RX8 0 0) (CR : CxR T 1 20) (hr : T.2.2.2.2.2.2.2.2.1.sig.returnType = (some .boolean)) (hnm : T.2.2.2.2.2.2.2.2.1.name = "isAhead") {nx : Nat → Kt} (hn : ∀ pc, Sd T 8 (QT T Q 0 0) 0 0 pc (nx pc)) : Sd T 8 (QT T Q 0 0) 0 0 85 (bX8_isAhead_85 Q nx) := x_is C dX8_isAhead_85 (by decide) (x_il_n C dX8_isAhead_87 rfl (x_if_eq C (hn 95) dX8_isAhead_88 (by decide) (x_il_n C dX8_isAhead_91 rfl (x_goto C (hn 105) dX8_isAhead_92 (by decide)))))
set_option maxRecDepth 20000 in
theorem oX8_isAhead_95 {T : Ct} {Q : Option Value → MM → Prop} (C : Cx T cX8_isAhead 8 RX8 0 0) (CR : CxR T 1 20) (hr : T.2.2.2.2.2.2.2.2.1.sig.returnType = (some .boolean)) (hnm : T.2.2.2.2.2.2.2.2.1.name = "isAhead") {nx : Nat → Kt} (hn : ∀ pc, Sd T 8 (QT T Q 0 0) 0 0 pc (nx pc)) : Sd T 8 (QT T Q 0 0) 0 0 95 (bX8_isAhead_95 Q nx) := x_al_n C dX8_isAhead_95 rfl (gf_X8_62 C dX8_isAhead_96 (x_ic C dX8_isAhead_99 (by decide) (x_il_n C dX8_isAhead_100 rfl (x_imul C dX8_isAhead_101 (x_ic C dX8_isAhead_102 (by decide) (x_iadd C dX8_isAhead_103 (x_iald C dX8_isAhead_104 (hn 105))))))))
set_option maxRecDepth 20000 in
theorem oX8_isAhead_105 {T : Ct} {Q : Option Value → MM → Prop} (C : Cx T cX8_isAhead 8 RX8 0 0) (CR : CxR T 1 20) (hr : T.2.2.2.2.2.2.2.2.1.sig.returnType = (some .boolean)) (hnm : T.2.2.2.2.2.2.2.2.1.name = "isAhead") {nx : Nat → Kt} (hn : ∀ pc, Sd T 8 (QT T Q 0 0) 0 0 pc (nx pc)) : Sd T 8 (QT T Q 0 0) 0 0 105 (bX8_isAhead_105 Q nx) := x_is C dX8_isAhead_105 (by decide) (x_il C dX8_isAhead_107 (x_il C dX8_isAhead_109 (x_ic_eq C (hn 129) dX8_isAhead_111 (by decide) (x_il C dX8_isAhead_114 (x_il C dX8_isAhead_116 (x_ic_ge C (hn 125) dX8_isAhead_118 (by decide) (x_ic C dX8_isAhead_121 (by decide) (x_goto C (hn 161) dX8_isAhead_122 (by decide)))))))))
set_option maxRecDepth 20000 in
theorem oX8_isAhead_125 {T : Ct} {Q : Option Value → MM → Prop} (C : Cx T cX8_isAhead 8 RX8 0 0) (CR : CxR T 1 20) (hr : T.2.2.2.2.2.2.2.2.1.sig.returnType = (some .boolean)) (hnm : T.2.2.2.2.2.2.2.2.1.name = "isAhead") {nx : Nat → Kt} (hn : ∀ pc, Sd T 8 (QT T Q 0 0) 0 0 pc (nx pc)) : Sd T 8 (QT T Q 0 0) 0 0 125 (bX8_isAhead_125 Q nx) := x_ic C dX8_isAhead_125 (by decide) (x_goto C (hn 161) dX8_isAhead_126 (by decide))
set_option maxRecDepth 20000 in
theorem oX8_isAhead_129 {T : Ct} {Q : Option Value → MM → Prop} (C : Cx T cX8_isAhead 8 RX8 0 0) (CR : CxR T 1 20) (hr : T.2.2.2.2.2.2.2.2.1.sig.returnType = (some .boolean)) (hnm : T.2.2.2.2.2.2.2.2.1.name = "isAhead") {nx : Nat → Kt} (hn : ∀ pc, Sd T 8 (QT T Q 0 0) 0 0 pc (nx pc)) : Sd T 8 (QT T Q 0 0) 0 0 129 (bX8_isAhead_129 Q nx) := x_il C dX8_isAhead_129 (x_il C dX8_isAhead_131 (x_ic_eq C (hn 151) dX8_isAhead_133 (by decide) (x_il C dX8_isAhead_136 (x_il C dX8_isAhead_138 (x_ic_ge C (hn 147) dX8_isAhead_140 (by decide) (x_ic C dX8_isAhead_143 (by decide) (x_goto C (hn 161) dX8_isAhead_144 (by decide))))))))
set_option maxRecDepth 20000 in
theorem oX8_isAhead_147 {T : Ct} {Q : Option Value → MM → Prop} (C : Cx T cX8_isAhead 8 RX8 0 0) (CR : CxR T 1 20) (hr : T.2.2.2.2.2.2.2.2.1.sig.returnType = (some .boolean)) (hnm : T.2.2.2.2.2.2.2.2.1.name = "isAhead") {nx : Nat → Kt} (hn : ∀ pc, Sd T 8 (QT T Q 0 0) 0 0 pc (nx pc)) : Sd T 8 (QT T Q 0 0) 0 0 147 (bX8_isAhead_147 Q nx) := x_ic C dX8_isAhead_147 (by decide) (x_goto C (hn 161) dX8_isAhead_148 (by decide))
set_option maxRecDepth 20000 in
theorem oX8_isAhead_151 {T : Ct} {Q : Option Value → MM → Prop} (C : Cx T cX8_isAhead 8 RX8 0 0) (CR : CxR T 1 20) (hr : T.2.2.2.2.2.2.2.2.1.sig.returnType = (some .boolean)) (hnm : T.2.2.2.2.2.2.2.2.1.name = "isAhead") {nx : Nat → Kt} (hn : ∀ pc, Sd T 8 (QT T Q 0 0) 0 0 pc (nx pc)) : Sd T 8 (QT T Q 0 0) 0 0 151 (bX8_isAhead_151 Q nx) := x_il_n C dX8_isAhead_151 rfl (x_il_n C dX8_isAhead_152 rfl (x_ic_ge C (hn 160) dX8_isAhead_153 (by decide) (x_ic C dX8_isAhead_156 (by decide) (x_goto C (hn 161) dX8_isAhead_157 (by decide)))))
set_option maxRecDepth 20000 in
theorem oX8_isAhead_160 {T : Ct} {Q : Option Value → MM → Prop} (C : Cx T cX8_isAhead 8 RX8 0 0) (CR : CxR T 1 20) (hr : T.2.2.2.2.2.2.2.2.1.sig.returnType = (some .boolean)) (hnm : T.2.2.2.2.2.2.2.2.1.name = "isAhead") {nx : Nat → Kt} (hn : ∀ pc, Sd T 8 (QT T Q 0 0) 0 0 pc (nx pc)) : Sd T 8 (QT T Q 0 0) 0 0 160 (bX8_isAhead_160 Q nx) := x_ic C dX8_isAhead_160 (by decide) (hn 161)
set_option maxRecDepth 20000 in
theorem oX8_isAhead_161 {T : Ct} {Q : Option Value → MM → Prop} (C : Cx T cX8_isAhead 8 RX8 0 0) (CR : CxR T 1 20) (hr : T.2.2.2.2.2.2.2.2.1.sig.returnType = (some .boolean)) (hnm : T.2.2.2.2.2.2.2.2.1.name = "isAhead") {nx : Nat → Kt} (hn : ∀ pc, Sd T 8 (QT T Q 0 0) 0 0 pc (nx pc)) : Sd T 8 (QT T Q 0 0) 0 0 161 (bX8_isAhead_161 Q nx) := x_rZ C hr dX8_isAhead_161
set_option maxRecDepth 20000 in
theorem mX8_isAhead (l : Launch) (D : va_G) (cA : Nat → ClassId) (base : Nat) : Mc l D cA base yX8_isAhead cX8_isAhead 8 (some .boolean) rX8_isAhead wX8_isAhead := mc_of (by decide +kernel) kX8_isAhead (fun T Q C CR hr hnm nx hn => bse_ok _ (List.forall_mem_cons.mpr ⟨oX8_isAhead_0 C CR hr hnm hn, List.forall_mem_cons.mpr ⟨oX8_isAhead_15 C CR hr hnm hn, List.forall_mem_cons.mpr ⟨oX8_isAhead_16 C CR hr hnm hn, List.forall_mem_cons.mpr ⟨oX8_isAhead_30 C CR hr hnm hn, List.forall_mem_cons.mpr ⟨oX8_isAhead_40 C CR hr hnm hn, List.forall_mem_cons.mpr ⟨oX8_isAhead_55 C CR hr hnm hn, List.forall_mem_cons.mpr ⟨oX8_isAhead_65 C CR hr hnm hn, List.forall_mem_cons.mpr ⟨oX8_isAhead_75 C CR hr hnm hn, List.forall_mem_cons.mpr ⟨oX8_isAhead_85 C CR hr hnm hn, List.forall_mem_cons.mpr ⟨oX8_isAhead_95 C CR hr hnm hn, List.forall_mem_cons.mpr ⟨oX8_isAhead_105 C CR hr hnm hn, List.forall_mem_cons.mpr ⟨oX8_isAhead_125 C CR hr hnm hn, List.forall_mem_cons.mpr ⟨oX8_isAhead_129 C CR hr hnm hn, List.forall_mem_cons.mpr ⟨oX8_isAhead_147 C CR hr hnm hn, List.forall_mem_cons.mpr ⟨oX8_isAhead_151 C CR hr hnm hn, List.forall_mem_cons.mpr ⟨oX8_isAhead_160 C CR hr hnm hn, List.forall_mem_cons.mpr ⟨oX8_isAhead_161 C CR hr hnm hn, fun _ h => nomatch h⟩⟩⟩⟩⟩⟩⟩⟩⟩⟩⟩⟩⟩⟩⟩⟩⟩))
theorem dX8_chooses_0 : decode cX8_chooses 0 = .ok (.bipush 8, 2) := by decide +kernel
theorem dX8_chooses_2 : decode cX8_chooses 2 = .ok (.iload_n 1, 1) := by decide +kernel
theorem dX8_chooses_3 : decode cX8_chooses 3 = .ok (.imul, 1) := by decide +kernel
theorem dX8_chooses_4 : decode cX8_chooses 4 = .ok (.istore_n 2, 1) := by decide +kernel
theorem dX8_chooses_5 : decode cX8_chooses 5 = .ok (.iload_n 2, 1) := by decide +kernel
theorem dX8_chooses_6 : decode cX8_chooses 6 = .ok (.bipush 8, 2) := by decide +kernel
theorem dX8_chooses_8 : decode cX8_chooses 8 = .ok (.iload_n 1, 1) := by decide +kernel
theorem dX8_chooses_9 : decode cX8_chooses 9 = .ok (.imul, 1) := by decide +kernel
theorem dX8_chooses_10 : decode cX8_chooses 10 = .ok (.bipush 8, 2) := by decide +kernel
theorem dX8_chooses_12 : decode cX8_chooses 12 = .ok (.iadd, 1) := by decide +kernel
theorem dX8_chooses_13 : decode cX8_chooses 13 = .ok (.if_icmp .ge 169, 3) := by decide +kernel
theorem dX8_chooses_16 : decode cX8_chooses 16 = .ok (.iconst (-1), 1) := by decide +kernel
theorem dX8_chooses_17 : decode cX8_chooses 17 = .ok (.istore_n 3, 1) := by decide +kernel
theorem dX8_chooses_18 : decode cX8_chooses 18 = .ok (.iconst 0, 1) := by decide +kernel
theorem dX8_chooses_19 : decode cX8_chooses 19 = .ok (.istore 4, 2) := by decide +kernel
theorem dX8_chooses_21 : decode cX8_chooses 21 = .ok (.bipush 8, 2) := by decide +kernel
theorem dX8_chooses_23 : decode cX8_chooses 23 = .ok (.iload_n 1, 1) := by decide +kernel
theorem dX8_chooses_24 : decode cX8_chooses 24 = .ok (.imul, 1) := by decide +kernel
theorem dX8_chooses_25 : decode cX8_chooses 25 = .ok (.istore 5, 2) := by decide +kernel
theorem dX8_chooses_27 : decode cX8_chooses 27 = .ok (.iload 5, 2) := by decide +kernel
theorem dX8_chooses_29 : decode cX8_chooses 29 = .ok (.bipush 8, 2) := by decide +kernel
theorem dX8_chooses_31 : decode cX8_chooses 31 = .ok (.iload_n 1, 1) := by decide +kernel
theorem dX8_chooses_32 : decode cX8_chooses 32 = .ok (.imul, 1) := by decide +kernel
theorem dX8_chooses_33 : decode cX8_chooses 33 = .ok (.bipush 8, 2) := by decide +kernel
theorem dX8_chooses_35 : decode cX8_chooses 35 = .ok (.iadd, 1) := by decide +kernel
theorem dX8_chooses_36 : decode cX8_chooses 36 = .ok (.if_icmp .ge 76, 3) := by decide +kernel
theorem dX8_chooses_39 : decode cX8_chooses 39 = .ok (.aload_n 0, 1) := by decide +kernel
theorem dX8_chooses_40 : decode cX8_chooses 40 = .ok (.iload_n 2, 1) := by decide +kernel
theorem dX8_chooses_41 : decode cX8_chooses 41 = .ok (.invokevirtual 232, 3) := by decide +kernel
theorem dX8_chooses_44 : decode cX8_chooses 44 = .ok (.ifCond .eq 68, 3) := by decide +kernel
theorem dX8_chooses_47 : decode cX8_chooses 47 = .ok (.aload_n 0, 1) := by decide +kernel
theorem dX8_chooses_48 : decode cX8_chooses 48 = .ok (.iload 5, 2) := by decide +kernel
theorem dX8_chooses_50 : decode cX8_chooses 50 = .ok (.invokevirtual 232, 3) := by decide +kernel
theorem dX8_chooses_53 : decode cX8_chooses 53 = .ok (.ifCond .eq 53, 3) := by decide +kernel
theorem dX8_chooses_56 : decode cX8_chooses 56 = .ok (.aload_n 0, 1) := by decide +kernel
theorem dX8_chooses_57 : decode cX8_chooses 57 = .ok (.iload_n 2, 1) := by decide +kernel
theorem dX8_chooses_58 : decode cX8_chooses 58 = .ok (.iload 5, 2) := by decide +kernel
theorem dX8_chooses_60 : decode cX8_chooses 60 = .ok (.invokevirtual 235, 3) := by decide +kernel
theorem dX8_chooses_63 : decode cX8_chooses 63 = .ok (.ifCond .ne 6, 3) := by decide +kernel
theorem dX8_chooses_66 : decode cX8_chooses 66 = .ok (.goto 40, 3) := by decide +kernel
theorem dX8_chooses_69 : decode cX8_chooses 69 = .ok (.iload_n 3, 1) := by decide +kernel
theorem dX8_chooses_70 : decode cX8_chooses 70 = .ok (.iconst (-1), 1) := by decide +kernel
theorem dX8_chooses_71 : decode cX8_chooses 71 = .ok (.if_icmp .ne 9, 3) := by decide +kernel
theorem dX8_chooses_74 : decode cX8_chooses 74 = .ok (.iload 5, 2) := by decide +kernel
theorem dX8_chooses_76 : decode cX8_chooses 76 = .ok (.bipush 8, 2) := by decide +kernel
theorem dX8_chooses_78 : decode cX8_chooses 78 = .ok (.irem, 1) := by decide +kernel
theorem dX8_chooses_79 : decode cX8_chooses 79 = .ok (.istore_n 3, 1) := by decide +kernel
theorem dX8_chooses_80 : decode cX8_chooses 80 = .ok (.iload 4, 2) := by decide +kernel
theorem dX8_chooses_82 : decode cX8_chooses 82 = .ok (.iload 5, 2) := by decide +kernel
theorem dX8_chooses_84 : decode cX8_chooses 84 = .ok (.iload_n 2, 1) := by decide +kernel
theorem dX8_chooses_85 : decode cX8_chooses 85 = .ok (.if_icmp .eq 17, 3) := by decide +kernel
theorem dX8_chooses_88 : decode cX8_chooses 88 = .ok (.aload_n 0, 1) := by decide +kernel
theorem dX8_chooses_89 : decode cX8_chooses 89 = .ok (.iload 5, 2) := by decide +kernel
theorem dX8_chooses_91 : decode cX8_chooses 91 = .ok (.iload_n 2, 1) := by decide +kernel
theorem dX8_chooses_92 : decode cX8_chooses 92 = .ok (.invokevirtual 238, 3) := by decide +kernel
theorem dX8_chooses_95 : decode cX8_chooses 95 = .ok (.ifCond .eq 7, 3) := by decide +kernel
theorem dX8_chooses_98 : decode cX8_chooses 98 = .ok (.iconst 1, 1) := by decide +kernel
theorem dX8_chooses_99 : decode cX8_chooses 99 = .ok (.goto 4, 3) := by decide +kernel
theorem dX8_chooses_102 : decode cX8_chooses 102 = .ok (.iconst 0, 1) := by decide +kernel
theorem dX8_chooses_103 : decode cX8_chooses 103 = .ok (.iadd, 1) := by decide +kernel
theorem dX8_chooses_104 : decode cX8_chooses 104 = .ok (.istore 4, 2) := by decide +kernel
theorem dX8_chooses_106 : decode cX8_chooses 106 = .ok (.iinc 5 1, 3) := by decide +kernel
theorem dX8_chooses_109 : decode cX8_chooses 109 = .ok (.goto (-82), 3) := by decide +kernel
theorem dX8_chooses_112 : decode cX8_chooses 112 = .ok (.aload_n 0, 1) := by decide +kernel
theorem dX8_chooses_113 : decode cX8_chooses 113 = .ok (.getfield 35, 3) := by decide +kernel
theorem dX8_chooses_116 : decode cX8_chooses 116 = .ok (.iload_n 2, 1) := by decide +kernel
theorem dX8_chooses_117 : decode cX8_chooses 117 = .ok (.iaload, 1) := by decide +kernel
theorem dX8_chooses_118 : decode cX8_chooses 118 = .ok (.iconst 4, 1) := by decide +kernel
theorem dX8_chooses_119 : decode cX8_chooses 119 = .ok (.if_icmp .ne 23, 3) := by decide +kernel
theorem dX8_chooses_122 : decode cX8_chooses 122 = .ok (.iload_n 3, 1) := by decide +kernel
theorem dX8_chooses_123 : decode cX8_chooses 123 = .ok (.aload_n 0, 1) := by decide +kernel
theorem dX8_chooses_124 : decode cX8_chooses 124 = .ok (.getfield 44, 3) := by decide +kernel
theorem dX8_chooses_127 : decode cX8_chooses 127 = .ok (.iload_n 2, 1) := by decide +kernel
theorem dX8_chooses_128 : decode cX8_chooses 128 = .ok (.iaload, 1) := by decide +kernel
theorem dX8_chooses_129 : decode cX8_chooses 129 = .ok (.if_icmp .eq 13, 3) := by decide +kernel
theorem dX8_chooses_132 : decode cX8_chooses 132 = .ok (.aload_n 0, 1) := by decide +kernel
theorem dX8_chooses_133 : decode cX8_chooses 133 = .ok (.getfield 123, 3) := by decide +kernel
theorem dX8_chooses_136 : decode cX8_chooses 136 = .ok (.iload_n 1, 1) := by decide +kernel
theorem dX8_chooses_137 : decode cX8_chooses 137 = .ok (.dup2, 1) := by decide +kernel
theorem dX8_chooses_138 : decode cX8_chooses 138 = .ok (.iaload, 1) := by decide +kernel
theorem dX8_chooses_139 : decode cX8_chooses 139 = .ok (.iconst 1, 1) := by decide +kernel
theorem dX8_chooses_140 : decode cX8_chooses 140 = .ok (.iadd, 1) := by decide +kernel
theorem dX8_chooses_141 : decode cX8_chooses 141 = .ok (.iastore, 1) := by decide +kernel
theorem dX8_chooses_142 : decode cX8_chooses 142 = .ok (.aload_n 0, 1) := by decide +kernel
theorem dX8_chooses_143 : decode cX8_chooses 143 = .ok (.getfield 44, 3) := by decide +kernel
theorem dX8_chooses_146 : decode cX8_chooses 146 = .ok (.iload_n 2, 1) := by decide +kernel
theorem dX8_chooses_147 : decode cX8_chooses 147 = .ok (.iload_n 3, 1) := by decide +kernel
theorem dX8_chooses_148 : decode cX8_chooses 148 = .ok (.iastore, 1) := by decide +kernel
theorem dX8_chooses_149 : decode cX8_chooses 149 = .ok (.aload_n 0, 1) := by decide +kernel
theorem dX8_chooses_150 : decode cX8_chooses 150 = .ok (.getfield 47, 3) := by decide +kernel
theorem dX8_chooses_153 : decode cX8_chooses 153 = .ok (.iload_n 2, 1) := by decide +kernel
theorem dX8_chooses_154 : decode cX8_chooses 154 = .ok (.iload_n 3, 1) := by decide +kernel
theorem dX8_chooses_155 : decode cX8_chooses 155 = .ok (.iconst (-1), 1) := by decide +kernel
theorem dX8_chooses_156 : decode cX8_chooses 156 = .ok (.if_icmp .eq 18, 3) := by decide +kernel
theorem dX8_chooses_159 : decode cX8_chooses 159 = .ok (.iload 4, 2) := by decide +kernel
theorem dX8_chooses_161 : decode cX8_chooses 161 = .ok (.aload_n 0, 1) := by decide +kernel
theorem dX8_chooses_162 : decode cX8_chooses 162 = .ok (.getfield 13, 3) := by decide +kernel
theorem dX8_chooses_165 : decode cX8_chooses 165 = .ok (.iload_n 1, 1) := by decide +kernel
theorem dX8_chooses_166 : decode cX8_chooses 166 = .ok (.iaload, 1) := by decide +kernel
theorem dX8_chooses_167 : decode cX8_chooses 167 = .ok (.if_icmp .ge 7, 3) := by decide +kernel
theorem dX8_chooses_170 : decode cX8_chooses 170 = .ok (.iconst 1, 1) := by decide +kernel
theorem dX8_chooses_171 : decode cX8_chooses 171 = .ok (.goto 4, 3) := by decide +kernel
theorem dX8_chooses_174 : decode cX8_chooses 174 = .ok (.iconst 0, 1) := by decide +kernel
theorem dX8_chooses_175 : decode cX8_chooses 175 = .ok (.bastore, 1) := by decide +kernel
theorem dX8_chooses_176 : decode cX8_chooses 176 = .ok (.iinc 2 1, 3) := by decide +kernel
theorem dX8_chooses_179 : decode cX8_chooses 179 = .ok (.goto (-174), 3) := by decide +kernel
theorem dX8_chooses_182 : decode cX8_chooses 182 = .ok (.return_, 1) := by decide +kernel
noncomputable def bX8_chooses_0 (Q : Option Value → MM → Prop) (nx : Nat → Kt) : Kt := cI 8 (ldI 1 (bop (fun x y => x * y) (stI 2 (nx 5))))
noncomputable def bX8_chooses_5 (Q : Option Value → MM → Prop) (nx : Nat → Kt) : Kt := ldI 2 (cI 8 (ldI 1 (bop (fun x y => x * y) (cI 8 (bop (fun x y => x + y) (ifc (fun x y => y ≤ x) (nx 182) (cI (-1) (stI 3 (cI 0 (stI 4 (cI 8 (ldI 1 (bop (fun x y => x * y) (stI 5 (nx 27)))))))))))))))
noncomputable def bX8_chooses_27 (Q : Option Value → MM → Prop) (nx : Nat → Kt) : Kt := ldI 5 (cI 8 (ldI 1 (bop (fun x y => x * y) (cI 8 (bop (fun x y => x + y) (ifc (fun x y => y ≤ x) (nx 112) (ldA 0 (ldI 2 (cV 1 8 wX8_fits 0 0 0 0 (ifz (fun x => x = 0) (nx 112) (ldA 0 (ldI 5 (cV 1 8 wX8_fits 0 0 0 0 (ifz (fun x => x = 0) (nx 106) (ldA 0 (ldI 2 (ldI 5 (cV 2 8 wX8_areLike 0 0 0 0 (ifz (fun x => x = 0) (nx 106) (nx 69))))))))))))))))))))
noncomputable def bX8_chooses_69 (Q : Option Value → MM → Prop) (nx : Nat → Kt) : Kt := ldI 3 (cI (-1) (ifc (fun x y => x = y) (ldI 5 (cI 8 (bod (fun x y => x - x / y * y) (stI 3 (nx 80))))) (nx 80)))
noncomputable def bX8_chooses_80 (Q : Option Value → MM → Prop) (nx : Nat → Kt) : Kt := ldI 4 (ldI 5 (ldI 2 (ifc (fun x y => x = y) (nx 102) (ldA 0 (ldI 5 (ldI 2 (cV 2 8 wX8_isAhead 0 0 0 0 (ifz (fun x => x = 0) (nx 102) (cI 1 (nx 103))))))))))
noncomputable def bX8_chooses_102 (Q : Option Value → MM → Prop) (nx : Nat → Kt) : Kt := cI 0 (nx 103)
noncomputable def bX8_chooses_103 (Q : Option Value → MM → Prop) (nx : Nat → Kt) : Kt := bop (fun x y => x + y) (stI 4 (nx 106))
noncomputable def bX8_chooses_106 (Q : Option Value → MM → Prop) (nx : Nat → Kt) : Kt := inc 5 1 (nx 27)
noncomputable def bX8_chooses_112 (Q : Option Value → MM → Prop) (nx : Nat → Kt) : Kt := ldA 0 (gR 8 9 (ldI 2 (aI 10 (cI 4 (ifc (fun x y => x = y) (ldI 3 (ldA 0 (gR 8 12 (ldI 2 (aI 10 (ifc (fun x y => x = y) (nx 142) (ldA 0 (gR 8 40 (ldI 1 (du2 (aI 10 (cI 1 (bop (fun x y => x + y) (sAI (nx 142))))))))))))))) (nx 142))))))
noncomputable def bX8_chooses_142 (Q : Option Value → MM → Prop) (nx : Nat → Kt) : Kt := ldA 0 (gR 8 12 (ldI 2 (ldI 3 (sAI (ldA 0 (gR 8 13 (ldI 2 (ldI 3 (cI (-1) (ifc (fun x y => x = y) (nx 174) (ldI 4 (ldA 0 (gR 8 2 (ldI 1 (aI 10 (ifc (fun x y => y ≤ x) (nx 174) (cI 1 (nx 175))))))))))))))))))
noncomputable def bX8_chooses_174 (Q : Option Value → MM → Prop) (nx : Nat → Kt) : Kt := cI 0 (nx 175)
noncomputable def bX8_chooses_175 (Q : Option Value → MM → Prop) (nx : Nat → Kt) : Kt := sAZ (inc 2 1 (nx 5))
noncomputable def bX8_chooses_182 (Q : Option Value → MM → Prop) (nx : Nat → Kt) : Kt := rV Q
noncomputable def kX8_chooses (Q : Option Value → MM → Prop) (nx : Nat → Kt) : Nat → Kt := bse [(0, bX8_chooses_0 Q nx), (5, bX8_chooses_5 Q nx), (27, bX8_chooses_27 Q nx), (69, bX8_chooses_69 Q nx), (80, bX8_chooses_80 Q nx), (102, bX8_chooses_102 Q nx), (103, bX8_chooses_103 Q nx), (106, bX8_chooses_106 Q nx), (112, bX8_chooses_112 Q nx), (142, bX8_chooses_142 Q nx), (174, bX8_chooses_174 Q nx), (175, bX8_chooses_175 Q nx), (182, bX8_chooses_182 Q nx)]
abbrev rX8_chooses : Room := { frames := 2, cells := 0, slots := 0, locals := 47 }
noncomputable def wX8_chooses : Mw := mw 6 kX8_chooses
set_option maxRecDepth 20000 in
theorem oX8_chooses_0 {T : Ct} {Q : Option Value → MM → Prop} (C : Cx T cX8_chooses 6 RX8 0 0) (CR : CxR T 2 47) (hr : T.2.2.2.2.2.2.2.2.1.sig.returnType = none) (hnm : T.2.2.2.2.2.2.2.2.1.name = "chooses") {nx : Nat → Kt} (hn : ∀ pc, Sd T 6 (QT T Q 0 0) 0 0 pc (nx pc)) : Sd T 6 (QT T Q 0 0) 0 0 0 (bX8_chooses_0 Q nx) := x_bp C dX8_chooses_0 (by decide) (x_il_n C dX8_chooses_2 rfl (x_imul C dX8_chooses_3 (x_is_n C dX8_chooses_4 rfl (by decide) (hn 5))))
set_option maxRecDepth 20000 in
theorem oX8_chooses_5 {T : Ct} {Q : Option Value → MM → Prop} (C : Cx T cX8_chooses 6 RX8 0 0) (CR : CxR T 2 47) (hr : T.2.2.2.2.2.2.2.2.1.sig.returnType = none) (hnm : T.2.2.2.2.2.2.2.2.1.name = "chooses") {nx : Nat → Kt} (hn : ∀ pc, Sd T 6 (QT T Q 0 0) 0 0 pc (nx pc)) : Sd T 6 (QT T Q 0 0) 0 0 5 (bX8_chooses_5 Q nx) := x_il_n C dX8_chooses_5 rfl (x_bp C dX8_chooses_6 (by decide) (x_il_n C dX8_chooses_8 rfl (x_imul C dX8_chooses_9 (x_bp C dX8_chooses_10 (by decide) (x_iadd C dX8_chooses_12 (x_ic_ge C (hn 182) dX8_chooses_13 (by decide) (x_ic C dX8_chooses_16 (by decide) (x_is_n C dX8_chooses_17 rfl (by decide) (x_ic C dX8_chooses_18 (by decide) (x_is C dX8_chooses_19 (by decide) (x_bp C dX8_chooses_21 (by decide) (x_il_n C dX8_chooses_23 rfl (x_imul C dX8_chooses_24 (x_is C dX8_chooses_25 (by decide) (hn 27)))))))))))))))
set_option maxRecDepth 20000 in
theorem oX8_chooses_27 {T : Ct} {Q : Option Value → MM → Prop} (C : Cx T cX8_chooses 6 RX8 0 0) (CR : CxR T 2 47) (hr : T.2.2.2.2.2.2.2.2.1.sig.returnType = none) (hnm : T.2.2.2.2.2.2.2.2.1.name = "chooses") {nx : Nat → Kt} (hn : ∀ pc, Sd T 6 (QT T Q 0 0) 0 0 pc (nx pc)) : Sd T 6 (QT T Q 0 0) 0 0 27 (bX8_chooses_27 Q nx) := x_il C dX8_chooses_27 (x_bp C dX8_chooses_29 (by decide) (x_il_n C dX8_chooses_31 rfl (x_imul C dX8_chooses_32 (x_bp C dX8_chooses_33 (by decide) (x_iadd C dX8_chooses_35 (x_ic_ge C (hn 112) dX8_chooses_36 (by decide) (x_al_n C dX8_chooses_39 rfl (x_il_n C dX8_chooses_40 rfl (x_cV C CR mX8_fits ⟨co_X8_fits, init_X8, md_X8_fits, by decide, by decide⟩ (ci := 8) (TX := TX8) (N := 51) rfl (by decide) ml_X8_232 im_X8_fits se_X8_fits dX8_chooses_41 (x_if_eq C (hn 112) dX8_chooses_44 (by decide) (x_al_n C dX8_chooses_47 rfl (x_il C dX8_chooses_48 (x_cV C CR mX8_fits ⟨co_X8_fits, init_X8, md_X8_fits, by decide, by decide⟩ (ci := 8) (TX := TX8) (N := 51) rfl (by decide) ml_X8_232 im_X8_fits se_X8_fits dX8_chooses_50 (x_if_eq C (hn 106) dX8_chooses_53 (by decide) (x_al_n C dX8_chooses_56 rfl (x_il_n C dX8_chooses_57 rfl (x_il C dX8_chooses_58 (x_cV C CR mX8_areLike ⟨co_X8_areLike, init_X8, md_X8_areLike, by decide, by decide⟩ (ci := 8) (TX := TX8) (N := 51) rfl (by decide) ml_X8_235 im_X8_areLike se_X8_areLike dX8_chooses_60 (x_if_ne C (hn 69) dX8_chooses_63 (by decide) (x_goto C (hn 106) dX8_chooses_66 (by decide)))))))))))))))))))))
set_option maxRecDepth 20000 in
theorem oX8_chooses_69 {T : Ct} {Q : Option Value → MM → Prop} (C : Cx T cX8_chooses 6 RX8 0 0) (CR : CxR T 2 47) (hr : T.2.2.2.2.2.2.2.2.1.sig.returnType = none) (hnm : T.2.2.2.2.2.2.2.2.1.name = "chooses") {nx : Nat → Kt} (hn : ∀ pc, Sd T 6 (QT T Q 0 0) 0 0 pc (nx pc)) : Sd T 6 (QT T Q 0 0) 0 0 69 (bX8_chooses_69 Q nx) := x_il_n C dX8_chooses_69 rfl (x_ic C dX8_chooses_70 (by decide) (x_ic_ne C (hn 80) dX8_chooses_71 (by decide) (x_il C dX8_chooses_74 (x_bp C dX8_chooses_76 (by decide) (x_irem C dX8_chooses_78 (x_is_n C dX8_chooses_79 rfl (by decide) (hn 80)))))))
set_option maxRecDepth 20000 in
theorem oX8_chooses_80 {T : Ct} {Q : Option Value → MM → Prop} (C : Cx T cX8_chooses 6 RX8 0 0) (CR : CxR T 2 47) (hr : T.2.2.2.2.2.2.2.2.1.sig.returnType = none) (hnm : T.2.2.2.2.2.2.2.2.1.name = "chooses") {nx : Nat → Kt} (hn : ∀ pc, Sd T 6 (QT T Q 0 0) 0 0 pc (nx pc)) : Sd T 6 (QT T Q 0 0) 0 0 80 (bX8_chooses_80 Q nx) := x_il C dX8_chooses_80 (x_il C dX8_chooses_82 (x_il_n C dX8_chooses_84 rfl (x_ic_eq C (hn 102) dX8_chooses_85 (by decide) (x_al_n C dX8_chooses_88 rfl (x_il C dX8_chooses_89 (x_il_n C dX8_chooses_91 rfl (x_cV C CR mX8_isAhead ⟨co_X8_isAhead, init_X8, md_X8_isAhead, by decide, by decide⟩ (ci := 8) (TX := TX8) (N := 51) rfl (by decide) ml_X8_238 im_X8_isAhead se_X8_isAhead dX8_chooses_92 (x_if_eq C (hn 102) dX8_chooses_95 (by decide) (x_ic C dX8_chooses_98 (by decide) (x_goto C (hn 103) dX8_chooses_99 (by decide)))))))))))
set_option maxRecDepth 20000 in
theorem oX8_chooses_102 {T : Ct} {Q : Option Value → MM → Prop} (C : Cx T cX8_chooses 6 RX8 0 0) (CR : CxR T 2 47) (hr : T.2.2.2.2.2.2.2.2.1.sig.returnType = none) (hnm : T.2.2.2.2.2.2.2.2.1.name = "chooses") {nx : Nat → Kt} (hn : ∀ pc, Sd T 6 (QT T Q 0 0) 0 0 pc (nx pc)) : Sd T 6 (QT T Q 0 0) 0 0 102 (bX8_chooses_102 Q nx) := x_ic C dX8_chooses_102 (by decide) (hn 103)
set_option maxRecDepth 20000 in
theorem oX8_chooses_103 {T : Ct} {Q : Option Value → MM → Prop} (C : Cx T cX8_chooses 6 RX8 0 0) (CR : CxR T 2 47) (hr : T.2.2.2.2.2.2.2.2.1.sig.returnType = none) (hnm : T.2.2.2.2.2.2.2.2.1.name = "chooses") {nx : Nat → Kt} (hn : ∀ pc, Sd T 6 (QT T Q 0 0) 0 0 pc (nx pc)) : Sd T 6 (QT T Q 0 0) 0 0 103 (bX8_chooses_103 Q nx) := x_iadd C dX8_chooses_103 (x_is C dX8_chooses_104 (by decide) (hn 106))
set_option maxRecDepth 20000 in
theorem oX8_chooses_106 {T : Ct} {Q : Option Value → MM → Prop} (C : Cx T cX8_chooses 6 RX8 0 0) (CR : CxR T 2 47) (hr : T.2.2.2.2.2.2.2.2.1.sig.returnType = none) (hnm : T.2.2.2.2.2.2.2.2.1.name = "chooses") {nx : Nat → Kt} (hn : ∀ pc, Sd T 6 (QT T Q 0 0) 0 0 pc (nx pc)) : Sd T 6 (QT T Q 0 0) 0 0 106 (bX8_chooses_106 Q nx) := x_inc C dX8_chooses_106 (by decide) (by decide) (x_goto C (hn 27) dX8_chooses_109 (by decide))
set_option maxRecDepth 20000 in
theorem oX8_chooses_112 {T : Ct} {Q : Option Value → MM → Prop} (C : Cx T cX8_chooses 6 RX8 0 0) (CR : CxR T 2 47) (hr : T.2.2.2.2.2.2.2.2.1.sig.returnType = none) (hnm : T.2.2.2.2.2.2.2.2.1.name = "chooses") {nx : Nat → Kt} (hn : ∀ pc, Sd T 6 (QT T Q 0 0) 0 0 pc (nx pc)) : Sd T 6 (QT T Q 0 0) 0 0 112 (bX8_chooses_112 Q nx) := x_al_n C dX8_chooses_112 rfl (gf_X8_35 C dX8_chooses_113 (x_il_n C dX8_chooses_116 rfl (x_iald C dX8_chooses_117 (x_ic C dX8_chooses_118 (by decide) (x_ic_ne C (hn 142) dX8_chooses_119 (by decide) (x_il_n C dX8_chooses_122 rfl (x_al_n C dX8_chooses_123 rfl (gf_X8_44 C dX8_chooses_124 (x_il_n C dX8_chooses_127 rfl (x_iald C dX8_chooses_128 (x_ic_eq C (hn 142) dX8_chooses_129 (by decide) (x_al_n C dX8_chooses_132 rfl (gf_X8_123 C dX8_chooses_133 (x_il_n C dX8_chooses_136 rfl (x_dup2 C dX8_chooses_137 (x_iald C dX8_chooses_138 (x_ic C dX8_chooses_139 (by decide) (x_iadd C dX8_chooses_140 (x_iast C dX8_chooses_141 (hn 142))))))))))))))))))))
set_option maxRecDepth 20000 in
theorem oX8_chooses_142 {T : Ct} {Q : Option Value → MM → Prop} (C : Cx T cX8_chooses 6 RX8 0 0) (CR : CxR T 2 47) (hr : T.2.2.2.2.2.2.2.2.1.sig.returnType = none) (hnm : T.2.2.2.2.2.2.2.2.1.name = "chooses") {nx : Nat → Kt} (hn : ∀ pc, Sd T 6 (QT T Q 0 0) 0 0 pc (nx pc)) : Sd T 6 (QT T Q 0 0) 0 0 142 (bX8_chooses_142 Q nx) := x_al_n C dX8_chooses_142 rfl (gf_X8_44 C dX8_chooses_143 (x_il_n C dX8_chooses_146 rfl (x_il_n C dX8_chooses_147 rfl (x_iast C dX8_chooses_148 (x_al_n C dX8_chooses_149 rfl (gf_X8_47 C dX8_chooses_150 (x_il_n C dX8_chooses_153 rfl (x_il_n C dX8_chooses_154 rfl (x_ic C dX8_chooses_155 (by decide) (x_ic_eq C (hn 174) dX8_chooses_156 (by decide) (x_il C dX8_chooses_159 (x_al_n C dX8_chooses_161 rfl (gf_X8_13 C dX8_chooses_162 (x_il_n C dX8_chooses_165 rfl (x_iald C dX8_chooses_166 (x_ic_ge C (hn 174) dX8_chooses_167 (by decide) (x_ic C dX8_chooses_170 (by decide) (x_goto C (hn 175) dX8_chooses_171 (by decide)))))))))))))))))))
set_option maxRecDepth 20000 in
theorem oX8_chooses_174 {T : Ct} {Q : Option Value → MM → Prop} (C : Cx T cX8_chooses 6 RX8 0 0) (CR : CxR T 2 47) (hr : T.2.2.2.2.2.2.2.2.1.sig.returnType = none) (hnm : T.2.2.2.2.2.2.2.2.1.name = "chooses") {nx : Nat → Kt} (hn : ∀ pc, Sd T 6 (QT T Q 0 0) 0 0 pc (nx pc)) : Sd T 6 (QT T Q 0 0) 0 0 174 (bX8_chooses_174 Q nx) := x_ic C dX8_chooses_174 (by decide) (hn 175)
set_option maxRecDepth 20000 in
theorem oX8_chooses_175 {T : Ct} {Q : Option Value → MM → Prop} (C : Cx T cX8_chooses 6 RX8 0 0) (CR : CxR T 2 47) (hr : T.2.2.2.2.2.2.2.2.1.sig.returnType = none) (hnm : T.2.2.2.2.2.2.2.2.1.name = "chooses") {nx : Nat → Kt} (hn : ∀ pc, Sd T 6 (QT T Q 0 0) 0 0 pc (nx pc)) : Sd T 6 (QT T Q 0 0) 0 0 175 (bX8_chooses_175 Q nx) := x_zast C dX8_chooses_175 (x_inc C dX8_chooses_176 (by decide) (by decide) (x_goto C (hn 5) dX8_chooses_179 (by decide)))
set_option maxRecDepth 20000 in
theorem oX8_chooses_182 {T : Ct} {Q : Option Value → MM → Prop} (C : Cx T cX8_chooses 6 RX8 0 0) (CR : CxR T 2 47) (hr : T.2.2.2.2.2.2.2.2.1.sig.returnType = none) (hnm : T.2.2.2.2.2.2.2.2.1.name = "chooses") {nx : Nat → Kt} (hn : ∀ pc, Sd T 6 (QT T Q 0 0) 0 0 pc (nx pc)) : Sd T 6 (QT T Q 0 0) 0 0 182 (bX8_chooses_182 Q nx) := x_rV C hr dX8_chooses_182
set_option maxRecDepth 20000 in
theorem mX8_chooses (l : Launch) (D : va_G) (cA : Nat → ClassId) (base : Nat) : Mc l D cA base yX8_chooses cX8_chooses 6 none rX8_chooses wX8_chooses := mc_of (by decide +kernel) kX8_chooses (fun T Q C CR hr hnm nx hn => bse_ok _ (List.forall_mem_cons.mpr ⟨oX8_chooses_0 C CR hr hnm hn, List.forall_mem_cons.mpr ⟨oX8_chooses_5 C CR hr hnm hn, List.forall_mem_cons.mpr ⟨oX8_chooses_27 C CR hr hnm hn, List.forall_mem_cons.mpr ⟨oX8_chooses_69 C CR hr hnm hn, List.forall_mem_cons.mpr ⟨oX8_chooses_80 C CR hr hnm hn, List.forall_mem_cons.mpr ⟨oX8_chooses_102 C CR hr hnm hn, List.forall_mem_cons.mpr ⟨oX8_chooses_103 C CR hr hnm hn, List.forall_mem_cons.mpr ⟨oX8_chooses_106 C CR hr hnm hn, List.forall_mem_cons.mpr ⟨oX8_chooses_112 C CR hr hnm hn, List.forall_mem_cons.mpr ⟨oX8_chooses_142 C CR hr hnm hn, List.forall_mem_cons.mpr ⟨oX8_chooses_174 C CR hr hnm hn, List.forall_mem_cons.mpr ⟨oX8_chooses_175 C CR hr hnm hn, List.forall_mem_cons.mpr ⟨oX8_chooses_182 C CR hr hnm hn, fun _ h => nomatch h⟩⟩⟩⟩⟩⟩⟩⟩⟩⟩⟩⟩⟩))
theorem dX8_isOther_0 : decode cX8_isOther 0 = .ok (.aload_n 0, 1) := by decide +kernel
theorem dX8_isOther_1 : decode cX8_isOther 1 = .ok (.getfield 35, 3) := by decide +kernel
theorem dX8_isOther_4 : decode cX8_isOther 4 = .ok (.iload_n 1, 1) := by decide +kernel
theorem dX8_isOther_5 : decode cX8_isOther 5 = .ok (.iaload, 1) := by decide +kernel
theorem dX8_isOther_6 : decode cX8_isOther 6 = .ok (.ifCond .le 68, 3) := by decide +kernel
theorem dX8_isOther_9 : decode cX8_isOther 9 = .ok (.aload_n 0, 1) := by decide +kernel
theorem dX8_isOther_10 : decode cX8_isOther 10 = .ok (.getfield 65, 3) := by decide +kernel
theorem dX8_isOther_13 : decode cX8_isOther 13 = .ok (.iconst 3, 1) := by decide +kernel
theorem dX8_isOther_14 : decode cX8_isOther 14 = .ok (.iload_n 1, 1) := by decide +kernel
theorem dX8_isOther_15 : decode cX8_isOther 15 = .ok (.imul, 1) := by decide +kernel
theorem dX8_isOther_16 : decode cX8_isOther 16 = .ok (.iaload, 1) := by decide +kernel
theorem dX8_isOther_17 : decode cX8_isOther 17 = .ok (.aload_n 0, 1) := by decide +kernel
theorem dX8_isOther_18 : decode cX8_isOther 18 = .ok (.getfield 16, 3) := by decide +kernel
theorem dX8_isOther_21 : decode cX8_isOther 21 = .ok (.iload_n 1, 1) := by decide +kernel
theorem dX8_isOther_22 : decode cX8_isOther 22 = .ok (.iaload, 1) := by decide +kernel
theorem dX8_isOther_23 : decode cX8_isOther 23 = .ok (.if_icmp .ne 47, 3) := by decide +kernel
theorem dX8_isOther_26 : decode cX8_isOther 26 = .ok (.aload_n 0, 1) := by decide +kernel
theorem dX8_isOther_27 : decode cX8_isOther 27 = .ok (.getfield 65, 3) := by decide +kernel
theorem dX8_isOther_30 : decode cX8_isOther 30 = .ok (.iconst 3, 1) := by decide +kernel
theorem dX8_isOther_31 : decode cX8_isOther 31 = .ok (.iload_n 1, 1) := by decide +kernel
theorem dX8_isOther_32 : decode cX8_isOther 32 = .ok (.imul, 1) := by decide +kernel
theorem dX8_isOther_33 : decode cX8_isOther 33 = .ok (.iconst 1, 1) := by decide +kernel
theorem dX8_isOther_34 : decode cX8_isOther 34 = .ok (.iadd, 1) := by decide +kernel
theorem dX8_isOther_35 : decode cX8_isOther 35 = .ok (.iaload, 1) := by decide +kernel
theorem dX8_isOther_36 : decode cX8_isOther 36 = .ok (.aload_n 0, 1) := by decide +kernel
theorem dX8_isOther_37 : decode cX8_isOther 37 = .ok (.getfield 62, 3) := by decide +kernel
theorem dX8_isOther_40 : decode cX8_isOther 40 = .ok (.iconst 5, 1) := by decide +kernel
theorem dX8_isOther_41 : decode cX8_isOther 41 = .ok (.iload_n 1, 1) := by decide +kernel
theorem dX8_isOther_42 : decode cX8_isOther 42 = .ok (.imul, 1) := by decide +kernel
theorem dX8_isOther_43 : decode cX8_isOther 43 = .ok (.iaload, 1) := by decide +kernel
theorem dX8_isOther_44 : decode cX8_isOther 44 = .ok (.if_icmp .ne 26, 3) := by decide +kernel
theorem dX8_isOther_47 : decode cX8_isOther 47 = .ok (.aload_n 0, 1) := by decide +kernel
theorem dX8_isOther_48 : decode cX8_isOther 48 = .ok (.getfield 65, 3) := by decide +kernel
theorem dX8_isOther_51 : decode cX8_isOther 51 = .ok (.iconst 3, 1) := by decide +kernel
theorem dX8_isOther_52 : decode cX8_isOther 52 = .ok (.iload_n 1, 1) := by decide +kernel
theorem dX8_isOther_53 : decode cX8_isOther 53 = .ok (.imul, 1) := by decide +kernel
theorem dX8_isOther_54 : decode cX8_isOther 54 = .ok (.iconst 2, 1) := by decide +kernel
theorem dX8_isOther_55 : decode cX8_isOther 55 = .ok (.iadd, 1) := by decide +kernel
theorem dX8_isOther_56 : decode cX8_isOther 56 = .ok (.iaload, 1) := by decide +kernel
theorem dX8_isOther_57 : decode cX8_isOther 57 = .ok (.aload_n 0, 1) := by decide +kernel
theorem dX8_isOther_58 : decode cX8_isOther 58 = .ok (.getfield 62, 3) := by decide +kernel
theorem dX8_isOther_61 : decode cX8_isOther 61 = .ok (.iconst 5, 1) := by decide +kernel
theorem dX8_isOther_62 : decode cX8_isOther 62 = .ok (.iload_n 1, 1) := by decide +kernel
theorem dX8_isOther_63 : decode cX8_isOther 63 = .ok (.imul, 1) := by decide +kernel
theorem dX8_isOther_64 : decode cX8_isOther 64 = .ok (.iconst 1, 1) := by decide +kernel
theorem dX8_isOther_65 : decode cX8_isOther 65 = .ok (.iadd, 1) := by decide +kernel
theorem dX8_isOther_66 : decode cX8_isOther 66 = .ok (.iaload, 1) := by decide +kernel
theorem dX8_isOther_67 : decode cX8_isOther 67 = .ok (.if_icmp .eq 7, 3) := by decide +kernel
theorem dX8_isOther_70 : decode cX8_isOther 70 = .ok (.iconst 1, 1) := by decide +kernel
theorem dX8_isOther_71 : decode cX8_isOther 71 = .ok (.goto 4, 3) := by decide +kernel
theorem dX8_isOther_74 : decode cX8_isOther 74 = .ok (.iconst 0, 1) := by decide +kernel
theorem dX8_isOther_75 : decode cX8_isOther 75 = .ok (.ireturn, 1) := by decide +kernel
noncomputable def bX8_isOther_0 (Q : Option Value → MM → Prop) (nx : Nat → Kt) : Kt := ldA 0 (gR 8 9 (ldI 1 (aI 10 (ifz (fun x => x ≤ 0) (nx 74) (ldA 0 (gR 8 19 (cI 3 (ldI 1 (bop (fun x y => x * y) (aI 10 (ldA 0 (gR 8 3 (ldI 1 (aI 10 (ifc (fun x y => x = y) (ldA 0 (gR 8 19 (cI 3 (ldI 1 (bop (fun x y => x * y) (cI 1 (bop (fun x y => x + y) (aI 10 (ldA 0 (gR 8 18 (cI 5 (ldI 1 (bop (fun x y => x * y) (aI 10 (ifc (fun x y => x = y) (ldA 0 (gR 8 19 (cI 3 (ldI 1 (bop (fun x y => x * y) (cI 2 (bop (fun x y => x + y) (aI 10 (ldA 0 (gR 8 18 (cI 5 (ldI 1 (bop (fun x y => x * y) (cI 1 (nx 65))))))))))))))) (nx 70)))))))))))))))) (nx 70))))))))))))))))
noncomputable def bX8_isOther_65 (Q : Option Value → MM → Prop) (nx : Nat → Kt) : Kt := bop (fun x y => x + y) (aI 10 (ifc (fun x y => x = y) (nx 74) (nx 70)))
noncomputable def bX8_isOther_70 (Q : Option Value → MM → Prop) (nx : Nat → Kt) : Kt := cI 1 (nx 75)
noncomputable def bX8_isOther_74 (Q : Option Value → MM → Prop) (nx : Nat → Kt) : Kt := cI 0 (nx 75)
noncomputable def bX8_isOther_75 (Q : Option Value → MM → Prop) (nx : Nat → Kt) : Kt := rZ Q
noncomputable def kX8_isOther (Q : Option Value → MM → Prop) (nx : Nat → Kt) : Nat → Kt := bse [(0, bX8_isOther_0 Q nx), (65, bX8_isOther_65 Q nx), (70, bX8_isOther_70 Q nx), (74, bX8_isOther_74 Q nx), (75, bX8_isOther_75 Q nx)]
abbrev rX8_isOther : Room := { frames := 0, cells := 0, slots := 0, locals := 0 }
noncomputable def wX8_isOther : Mw := mw 2 kX8_isOther
set_option maxRecDepth 20000 in
theorem oX8_isOther_0 {T : Ct} {Q : Option Value → MM → Prop} (C : Cx T cX8_isOther 2 RX8 0 0) (CR : CxR T 0 0) (hr : T.2.2.2.2.2.2.2.2.1.sig.returnType = (some .boolean)) (hnm : T.2.2.2.2.2.2.2.2.1.name = "isOther") {nx : Nat → Kt} (hn : ∀ pc, Sd T 2 (QT T Q 0 0) 0 0 pc (nx pc)) : Sd T 2 (QT T Q 0 0) 0 0 0 (bX8_isOther_0 Q nx) := x_al_n C dX8_isOther_0 rfl (gf_X8_35 C dX8_isOther_1 (x_il_n C dX8_isOther_4 rfl (x_iald C dX8_isOther_5 (x_if_le C (hn 74) dX8_isOther_6 (by decide) (x_al_n C dX8_isOther_9 rfl (gf_X8_65 C dX8_isOther_10 (x_ic C dX8_isOther_13 (by decide) (x_il_n C dX8_isOther_14 rfl (x_imul C dX8_isOther_15 (x_iald C dX8_isOther_16 (x_al_n C dX8_isOther_17 rfl (gf_X8_16 C dX8_isOther_18 (x_il_n C dX8_isOther_21 rfl (x_iald C dX8_isOther_22 (x_ic_ne C (hn 70) dX8_isOther_23 (by decide) (x_al_n C dX8_isOther_26 rfl (gf_X8_65 C dX8_isOther_27 (x_ic C dX8_isOther_30 (by decide) (x_il_n C dX8_isOther_31 rfl (x_imul C dX8_isOther_32 (x_ic C dX8_isOther_33 (by decide) (x_iadd C dX8_isOther_34 (x_iald C dX8_isOther_35 (x_al_n C dX8_isOther_36 rfl (gf_X8_62 C dX8_isOther_37 (x_ic C dX8_isOther_40 (by decide) (x_il_n C dX8_isOther_41 rfl (x_imul C dX8_isOther_42 (x_iald C dX8_isOther_43 (x_ic_ne C (hn 70) dX8_isOther_44 (by decide) (x_al_n C dX8_isOther_47 rfl (gf_X8_65 C dX8_isOther_48 (x_ic C dX8_isOther_51 (by decide) (x_il_n C dX8_isOther_52 rfl (x_imul C dX8_isOther_53 (x_ic C dX8_isOther_54 (by decide) (x_iadd C dX8_isOther_55 (x_iald C dX8_isOther_56 (x_al_n C dX8_isOther_57 rfl (gf_X8_62 C dX8_isOther_58 (x_ic C dX8_isOther_61 (by decide) (x_il_n C dX8_isOther_62 rfl (x_imul C dX8_isOther_63 (x_ic C dX8_isOther_64 (by decide) (hn 65)))))))))))))))))))))))))))))))))))))))))))))
set_option maxRecDepth 20000 in
theorem oX8_isOther_65 {T : Ct} {Q : Option Value → MM → Prop} (C : Cx T cX8_isOther 2 RX8 0 0) (CR : CxR T 0 0) (hr : T.2.2.2.2.2.2.2.2.1.sig.returnType = (some .boolean)) (hnm : T.2.2.2.2.2.2.2.2.1.name = "isOther") {nx : Nat → Kt} (hn : ∀ pc, Sd T 2 (QT T Q 0 0) 0 0 pc (nx pc)) : Sd T 2 (QT T Q 0 0) 0 0 65 (bX8_isOther_65 Q nx) := x_iadd C dX8_isOther_65 (x_iald C dX8_isOther_66 (x_ic_eq C (hn 74) dX8_isOther_67 (by decide) (hn 70)))
set_option maxRecDepth 20000 in
theorem oX8_isOther_70 {T : Ct} {Q : Option Value → MM → Prop} (C : Cx T cX8_isOther 2 RX8 0 0) (CR : CxR T 0 0) (hr : T.2.2.2.2.2.2.2.2.1.sig.returnType = (some .boolean)) (hnm : T.2.2.2.2.2.2.2.2.1.name = "isOther") {nx : Nat → Kt} (hn : ∀ pc, Sd T 2 (QT T Q 0 0) 0 0 pc (nx pc)) : Sd T 2 (QT T Q 0 0) 0 0 70 (bX8_isOther_70 Q nx) := x_ic C dX8_isOther_70 (by decide) (x_goto C (hn 75) dX8_isOther_71 (by decide))
set_option maxRecDepth 20000 in
theorem oX8_isOther_74 {T : Ct} {Q : Option Value → MM → Prop} (C : Cx T cX8_isOther 2 RX8 0 0) (CR : CxR T 0 0) (hr : T.2.2.2.2.2.2.2.2.1.sig.returnType = (some .boolean)) (hnm : T.2.2.2.2.2.2.2.2.1.name = "isOther") {nx : Nat → Kt} (hn : ∀ pc, Sd T 2 (QT T Q 0 0) 0 0 pc (nx pc)) : Sd T 2 (QT T Q 0 0) 0 0 74 (bX8_isOther_74 Q nx) := x_ic C dX8_isOther_74 (by decide) (hn 75)
set_option maxRecDepth 20000 in
theorem oX8_isOther_75 {T : Ct} {Q : Option Value → MM → Prop} (C : Cx T cX8_isOther 2 RX8 0 0) (CR : CxR T 0 0) (hr : T.2.2.2.2.2.2.2.2.1.sig.returnType = (some .boolean)) (hnm : T.2.2.2.2.2.2.2.2.1.name = "isOther") {nx : Nat → Kt} (hn : ∀ pc, Sd T 2 (QT T Q 0 0) 0 0 pc (nx pc)) : Sd T 2 (QT T Q 0 0) 0 0 75 (bX8_isOther_75 Q nx) := x_rZ C hr dX8_isOther_75
set_option maxRecDepth 20000 in
theorem mX8_isOther (l : Launch) (D : va_G) (cA : Nat → ClassId) (base : Nat) : Mc l D cA base yX8_isOther cX8_isOther 2 (some .boolean) rX8_isOther wX8_isOther := mc_of (by decide +kernel) kX8_isOther (fun T Q C CR hr hnm nx hn => bse_ok _ (List.forall_mem_cons.mpr ⟨oX8_isOther_0 C CR hr hnm hn, List.forall_mem_cons.mpr ⟨oX8_isOther_65 C CR hr hnm hn, List.forall_mem_cons.mpr ⟨oX8_isOther_70 C CR hr hnm hn, List.forall_mem_cons.mpr ⟨oX8_isOther_74 C CR hr hnm hn, List.forall_mem_cons.mpr ⟨oX8_isOther_75 C CR hr hnm hn, fun _ h => nomatch h⟩⟩⟩⟩⟩))
theorem dX8_steps_0 : decode cX8_steps 0 = .ok (.aload_n 0, 1) := by decide +kernel
theorem dX8_steps_1 : decode cX8_steps 1 = .ok (.iload_n 1, 1) := by decide +kernel
theorem dX8_steps_2 : decode cX8_steps 2 = .ok (.invokevirtual 241, 3) := by decide +kernel
theorem dX8_steps_5 : decode cX8_steps 5 = .ok (.ifCond .ne 4, 3) := by decide +kernel
theorem dX8_steps_8 : decode cX8_steps 8 = .ok (.return_, 1) := by decide +kernel
theorem dX8_steps_9 : decode cX8_steps 9 = .ok (.aload_n 0, 1) := by decide +kernel
theorem dX8_steps_10 : decode cX8_steps 10 = .ok (.getfield 47, 3) := by decide +kernel
theorem dX8_steps_13 : decode cX8_steps 13 = .ok (.iload_n 1, 1) := by decide +kernel
theorem dX8_steps_14 : decode cX8_steps 14 = .ok (.baload, 1) := by decide +kernel
theorem dX8_steps_15 : decode cX8_steps 15 = .ok (.ifCond .eq 11, 3) := by decide +kernel
theorem dX8_steps_18 : decode cX8_steps 18 = .ok (.aload_n 0, 1) := by decide +kernel
theorem dX8_steps_19 : decode cX8_steps 19 = .ok (.iload_n 1, 1) := by decide +kernel
theorem dX8_steps_20 : decode cX8_steps 20 = .ok (.invokevirtual 244, 3) := by decide +kernel
theorem dX8_steps_23 : decode cX8_steps 23 = .ok (.ifCond .eq 10, 3) := by decide +kernel
theorem dX8_steps_26 : decode cX8_steps 26 = .ok (.aload_n 0, 1) := by decide +kernel
theorem dX8_steps_27 : decode cX8_steps 27 = .ok (.iload_n 1, 1) := by decide +kernel
theorem dX8_steps_28 : decode cX8_steps 28 = .ok (.iconst 0, 1) := by decide +kernel
theorem dX8_steps_29 : decode cX8_steps 29 = .ok (.invokevirtual 144, 3) := by decide +kernel
theorem dX8_steps_32 : decode cX8_steps 32 = .ok (.return_, 1) := by decide +kernel
theorem dX8_steps_33 : decode cX8_steps 33 = .ok (.aload_n 0, 1) := by decide +kernel
theorem dX8_steps_34 : decode cX8_steps 34 = .ok (.iload_n 1, 1) := by decide +kernel
theorem dX8_steps_35 : decode cX8_steps 35 = .ok (.bipush 8, 2) := by decide +kernel
theorem dX8_steps_37 : decode cX8_steps 37 = .ok (.invokevirtual 225, 3) := by decide +kernel
theorem dX8_steps_40 : decode cX8_steps 40 = .ok (.istore_n 2, 1) := by decide +kernel
theorem dX8_steps_41 : decode cX8_steps 41 = .ok (.aload_n 0, 1) := by decide +kernel
theorem dX8_steps_42 : decode cX8_steps 42 = .ok (.iload_n 1, 1) := by decide +kernel
theorem dX8_steps_43 : decode cX8_steps 43 = .ok (.bipush 16, 2) := by decide +kernel
theorem dX8_steps_45 : decode cX8_steps 45 = .ok (.invokevirtual 225, 3) := by decide +kernel
theorem dX8_steps_48 : decode cX8_steps 48 = .ok (.istore_n 3, 1) := by decide +kernel
theorem dX8_steps_49 : decode cX8_steps 49 = .ok (.aload_n 0, 1) := by decide +kernel
theorem dX8_steps_50 : decode cX8_steps 50 = .ok (.getfield 35, 3) := by decide +kernel
theorem dX8_steps_53 : decode cX8_steps 53 = .ok (.iload_n 1, 1) := by decide +kernel
theorem dX8_steps_54 : decode cX8_steps 54 = .ok (.iaload, 1) := by decide +kernel
theorem dX8_steps_55 : decode cX8_steps 55 = .ok (.tableswitch 164 0 3 #[29, 97, 125, 138], 29) := by decide +kernel
theorem dX8_steps_84 : decode cX8_steps 84 = .ok (.aload_n 0, 1) := by decide +kernel
theorem dX8_steps_85 : decode cX8_steps 85 = .ok (.iload_n 1, 1) := by decide +kernel
theorem dX8_steps_86 : decode cX8_steps 86 = .ok (.iconst 1, 1) := by decide +kernel
theorem dX8_steps_87 : decode cX8_steps 87 = .ok (.invokevirtual 144, 3) := by decide +kernel
theorem dX8_steps_90 : decode cX8_steps 90 = .ok (.aload_n 0, 1) := by decide +kernel
theorem dX8_steps_91 : decode cX8_steps 91 = .ok (.getfield 38, 3) := by decide +kernel
theorem dX8_steps_94 : decode cX8_steps 94 = .ok (.iload_n 1, 1) := by decide +kernel
theorem dX8_steps_95 : decode cX8_steps 95 = .ok (.iconst 2, 1) := by decide +kernel
theorem dX8_steps_96 : decode cX8_steps 96 = .ok (.iastore, 1) := by decide +kernel
theorem dX8_steps_97 : decode cX8_steps 97 = .ok (.aload_n 0, 1) := by decide +kernel
theorem dX8_steps_98 : decode cX8_steps 98 = .ok (.getfield 65, 3) := by decide +kernel
theorem dX8_steps_101 : decode cX8_steps 101 = .ok (.iconst 3, 1) := by decide +kernel
theorem dX8_steps_102 : decode cX8_steps 102 = .ok (.iload_n 1, 1) := by decide +kernel
theorem dX8_steps_103 : decode cX8_steps 103 = .ok (.imul, 1) := by decide +kernel
theorem dX8_steps_104 : decode cX8_steps 104 = .ok (.aload_n 0, 1) := by decide +kernel
theorem dX8_steps_105 : decode cX8_steps 105 = .ok (.getfield 16, 3) := by decide +kernel
theorem dX8_steps_108 : decode cX8_steps 108 = .ok (.iload_n 1, 1) := by decide +kernel
theorem dX8_steps_109 : decode cX8_steps 109 = .ok (.iaload, 1) := by decide +kernel
theorem dX8_steps_110 : decode cX8_steps 110 = .ok (.iastore, 1) := by decide +kernel
theorem dX8_steps_111 : decode cX8_steps 111 = .ok (.aload_n 0, 1) := by decide +kernel
theorem dX8_steps_112 : decode cX8_steps 112 = .ok (.getfield 65, 3) := by decide +kernel
theorem dX8_steps_115 : decode cX8_steps 115 = .ok (.iconst 3, 1) := by decide +kernel
theorem dX8_steps_116 : decode cX8_steps 116 = .ok (.iload_n 1, 1) := by decide +kernel
theorem dX8_steps_117 : decode cX8_steps 117 = .ok (.imul, 1) := by decide +kernel
theorem dX8_steps_118 : decode cX8_steps 118 = .ok (.iconst 1, 1) := by decide +kernel
theorem dX8_steps_119 : decode cX8_steps 119 = .ok (.iadd, 1) := by decide +kernel
theorem dX8_steps_120 : decode cX8_steps 120 = .ok (.aload_n 0, 1) := by decide +kernel
theorem dX8_steps_121 : decode cX8_steps 121 = .ok (.getfield 62, 3) := by decide +kernel
theorem dX8_steps_124 : decode cX8_steps 124 = .ok (.iconst 5, 1) := by decide +kernel
theorem dX8_steps_125 : decode cX8_steps 125 = .ok (.iload_n 1, 1) := by decide +kernel
theorem dX8_steps_126 : decode cX8_steps 126 = .ok (.imul, 1) := by decide +kernel
theorem dX8_steps_127 : decode cX8_steps 127 = .ok (.iaload, 1) := by decide +kernel
theorem dX8_steps_128 : decode cX8_steps 128 = .ok (.iastore, 1) := by decide +kernel
theorem dX8_steps_129 : decode cX8_steps 129 = .ok (.aload_n 0, 1) := by decide +kernel
theorem dX8_steps_130 : decode cX8_steps 130 = .ok (.getfield 65, 3) := by decide +kernel
theorem dX8_steps_133 : decode cX8_steps 133 = .ok (.iconst 3, 1) := by decide +kernel
theorem dX8_steps_134 : decode cX8_steps 134 = .ok (.iload_n 1, 1) := by decide +kernel
theorem dX8_steps_135 : decode cX8_steps 135 = .ok (.imul, 1) := by decide +kernel
theorem dX8_steps_136 : decode cX8_steps 136 = .ok (.iconst 2, 1) := by decide +kernel
theorem dX8_steps_137 : decode cX8_steps 137 = .ok (.iadd, 1) := by decide +kernel
theorem dX8_steps_138 : decode cX8_steps 138 = .ok (.aload_n 0, 1) := by decide +kernel
theorem dX8_steps_139 : decode cX8_steps 139 = .ok (.getfield 62, 3) := by decide +kernel
theorem dX8_steps_142 : decode cX8_steps 142 = .ok (.iconst 5, 1) := by decide +kernel
theorem dX8_steps_143 : decode cX8_steps 143 = .ok (.iload_n 1, 1) := by decide +kernel
theorem dX8_steps_144 : decode cX8_steps 144 = .ok (.imul, 1) := by decide +kernel
theorem dX8_steps_145 : decode cX8_steps 145 = .ok (.iconst 1, 1) := by decide +kernel
theorem dX8_steps_146 : decode cX8_steps 146 = .ok (.iadd, 1) := by decide +kernel
theorem dX8_steps_147 : decode cX8_steps 147 = .ok (.iaload, 1) := by decide +kernel
theorem dX8_steps_148 : decode cX8_steps 148 = .ok (.iastore, 1) := by decide +kernel
theorem dX8_steps_149 : decode cX8_steps 149 = .ok (.goto 93, 3) := by decide +kernel
theorem dX8_steps_152 : decode cX8_steps 152 = .ok (.aload_n 0, 1) := by decide +kernel
theorem dX8_steps_153 : decode cX8_steps 153 = .ok (.getfield 38, 3) := by decide +kernel
theorem dX8_steps_156 : decode cX8_steps 156 = .ok (.iload_n 1, 1) := by decide +kernel
theorem dX8_steps_157 : decode cX8_steps 157 = .ok (.dup2, 1) := by decide +kernel
theorem dX8_steps_158 : decode cX8_steps 158 = .ok (.iaload, 1) := by decide +kernel
theorem dX8_steps_159 : decode cX8_steps 159 = .ok (.iconst 1, 1) := by decide +kernel
theorem dX8_steps_160 : decode cX8_steps 160 = .ok (.isub, 1) := by decide +kernel
theorem dX8_steps_161 : decode cX8_steps 161 = .ok (.iastore, 1) := by decide +kernel
theorem dX8_steps_162 : decode cX8_steps 162 = .ok (.aload_n 0, 1) := by decide +kernel
theorem dX8_steps_163 : decode cX8_steps 163 = .ok (.getfield 38, 3) := by decide +kernel
theorem dX8_steps_166 : decode cX8_steps 166 = .ok (.iload_n 1, 1) := by decide +kernel
theorem dX8_steps_167 : decode cX8_steps 167 = .ok (.iaload, 1) := by decide +kernel
theorem dX8_steps_168 : decode cX8_steps 168 = .ok (.ifCond .ne 74, 3) := by decide +kernel
theorem dX8_steps_171 : decode cX8_steps 171 = .ok (.aload_n 0, 1) := by decide +kernel
theorem dX8_steps_172 : decode cX8_steps 172 = .ok (.iload_n 1, 1) := by decide +kernel
theorem dX8_steps_173 : decode cX8_steps 173 = .ok (.iconst 2, 1) := by decide +kernel
theorem dX8_steps_174 : decode cX8_steps 174 = .ok (.invokevirtual 144, 3) := by decide +kernel
theorem dX8_steps_177 : decode cX8_steps 177 = .ok (.goto 65, 3) := by decide +kernel
theorem dX8_steps_180 : decode cX8_steps 180 = .ok (.iload_n 2, 1) := by decide +kernel
theorem dX8_steps_181 : decode cX8_steps 181 = .ok (.ifCond .eq 61, 3) := by decide +kernel
theorem dX8_steps_184 : decode cX8_steps 184 = .ok (.aload_n 0, 1) := by decide +kernel
theorem dX8_steps_185 : decode cX8_steps 185 = .ok (.iload_n 1, 1) := by decide +kernel
theorem dX8_steps_186 : decode cX8_steps 186 = .ok (.iconst 3, 1) := by decide +kernel
theorem dX8_steps_187 : decode cX8_steps 187 = .ok (.invokevirtual 144, 3) := by decide +kernel
theorem dX8_steps_190 : decode cX8_steps 190 = .ok (.goto 52, 3) := by decide +kernel
theorem dX8_steps_193 : decode cX8_steps 193 = .ok (.iload_n 2, 1) := by decide +kernel
theorem dX8_steps_194 : decode cX8_steps 194 = .ok (.ifCond .ne 12, 3) := by decide +kernel
theorem dX8_steps_197 : decode cX8_steps 197 = .ok (.aload_n 0, 1) := by decide +kernel
theorem dX8_steps_198 : decode cX8_steps 198 = .ok (.iload_n 1, 1) := by decide +kernel
theorem dX8_steps_199 : decode cX8_steps 199 = .ok (.iconst 2, 1) := by decide +kernel
theorem dX8_steps_200 : decode cX8_steps 200 = .ok (.invokevirtual 144, 3) := by decide +kernel
theorem dX8_steps_203 : decode cX8_steps 203 = .ok (.goto 39, 3) := by decide +kernel
theorem dX8_steps_206 : decode cX8_steps 206 = .ok (.iload_n 3, 1) := by decide +kernel
theorem dX8_steps_207 : decode cX8_steps 207 = .ok (.ifCond .eq 35, 3) := by decide +kernel
theorem dX8_steps_210 : decode cX8_steps 210 = .ok (.aload_n 0, 1) := by decide +kernel
theorem dX8_steps_211 : decode cX8_steps 211 = .ok (.iload_n 1, 1) := by decide +kernel
theorem dX8_steps_212 : decode cX8_steps 212 = .ok (.iconst 4, 1) := by decide +kernel
theorem dX8_steps_213 : decode cX8_steps 213 = .ok (.invokevirtual 144, 3) := by decide +kernel
theorem dX8_steps_216 : decode cX8_steps 216 = .ok (.goto 26, 3) := by decide +kernel
theorem dX8_steps_219 : decode cX8_steps 219 = .ok (.iload_n 2, 1) := by decide +kernel
theorem dX8_steps_220 : decode cX8_steps 220 = .ok (.ifCond .ne 12, 3) := by decide +kernel
theorem dX8_steps_223 : decode cX8_steps 223 = .ok (.aload_n 0, 1) := by decide +kernel
theorem dX8_steps_224 : decode cX8_steps 224 = .ok (.iload_n 1, 1) := by decide +kernel
theorem dX8_steps_225 : decode cX8_steps 225 = .ok (.iconst 2, 1) := by decide +kernel
theorem dX8_steps_226 : decode cX8_steps 226 = .ok (.invokevirtual 144, 3) := by decide +kernel
theorem dX8_steps_229 : decode cX8_steps 229 = .ok (.goto 13, 3) := by decide +kernel
theorem dX8_steps_232 : decode cX8_steps 232 = .ok (.iload_n 3, 1) := by decide +kernel
theorem dX8_steps_233 : decode cX8_steps 233 = .ok (.ifCond .ne 9, 3) := by decide +kernel
theorem dX8_steps_236 : decode cX8_steps 236 = .ok (.aload_n 0, 1) := by decide +kernel
theorem dX8_steps_237 : decode cX8_steps 237 = .ok (.iload_n 1, 1) := by decide +kernel
theorem dX8_steps_238 : decode cX8_steps 238 = .ok (.iconst 3, 1) := by decide +kernel
theorem dX8_steps_239 : decode cX8_steps 239 = .ok (.invokevirtual 144, 3) := by decide +kernel
theorem dX8_steps_242 : decode cX8_steps 242 = .ok (.return_, 1) := by decide +kernel
noncomputable def bX8_steps_0 (Q : Option Value → MM → Prop) (nx : Nat → Kt) : Kt := ldA 0 (ldI 1 (cV 1 8 wX8_isLit 0 0 0 0 (ifz (fun x => x = 0) (rV Q) (nx 9))))
noncomputable def bX8_steps_9 (Q : Option Value → MM → Prop) (nx : Nat → Kt) : Kt := ldA 0 (gR 8 13 (ldI 1 (aI 11 (ifz (fun x => x = 0) (nx 26) (ldA 0 (ldI 1 (cV 1 8 wX8_isOther 0 0 0 0 (ifz (fun x => x = 0) (nx 33) (nx 26)))))))))
noncomputable def bX8_steps_26 (Q : Option Value → MM → Prop) (nx : Nat → Kt) : Kt := ldA 0 (ldI 1 (cI 0 (cV 2 8 wX8_goesTo 0 0 0 0 (rV Q))))
noncomputable def bX8_steps_33 (Q : Option Value → MM → Prop) (nx : Nat → Kt) : Kt := ldA 0 (ldI 1 (cI 8 (cV 2 8 wX8_isPartner 0 0 0 0 (stI 2 (ldA 0 (ldI 1 (cI 16 (cV 2 8 wX8_isPartner 0 0 0 0 (stI 3 (ldA 0 (gR 8 9 (ldI 1 (aI 10 (swt 0 3 (fun j => nx (([84, 152, 180, 193] : List Nat).getD j 0)) (nx 219)))))))))))))))
noncomputable def bX8_steps_84 (Q : Option Value → MM → Prop) (nx : Nat → Kt) : Kt := ldA 0 (ldI 1 (cI 1 (cV 2 8 wX8_goesTo 0 0 0 0 (ldA 0 (gR 8 10 (ldI 1 (cI 2 (sAI (ldA 0 (gR 8 19 (cI 3 (ldI 1 (bop (fun x y => x * y) (ldA 0 (gR 8 3 (ldI 1 (aI 10 (sAI (ldA 0 (gR 8 19 (cI 3 (ldI 1 (bop (fun x y => x * y) (cI 1 (bop (fun x y => x + y) (ldA 0 (gR 8 18 (cI 5 (ldI 1 (bop (fun x y => x * y) (aI 10 (sAI (ldA 0 (gR 8 19 (cI 3 (ldI 1 (bop (fun x y => x * y) (cI 2 (bop (fun x y => x + y) (ldA 0 (gR 8 18 (cI 5 (ldI 1 (bop (fun x y => x * y) (nx 145)))))))))))))))))))))))))))))))))))))))))))))
noncomputable def bX8_steps_145 (Q : Option Value → MM → Prop) (nx : Nat → Kt) : Kt := cI 1 (bop (fun x y => x + y) (aI 10 (sAI (nx 242))))
noncomputable def bX8_steps_152 (Q : Option Value → MM → Prop) (nx : Nat → Kt) : Kt := ldA 0 (gR 8 10 (ldI 1 (du2 (aI 10 (cI 1 (bop (fun x y => x - y) (sAI (ldA 0 (gR 8 10 (ldI 1 (aI 10 (ifz (fun x => x = 0) (ldA 0 (ldI 1 (cI 2 (cV 2 8 wX8_goesTo 0 0 0 0 (nx 242))))) (nx 242)))))))))))))
noncomputable def bX8_steps_180 (Q : Option Value → MM → Prop) (nx : Nat → Kt) : Kt := ldI 2 (ifz (fun x => x = 0) (nx 242) (ldA 0 (ldI 1 (cI 3 (cV 2 8 wX8_goesTo 0 0 0 0 (nx 242))))))
noncomputable def bX8_steps_193 (Q : Option Value → MM → Prop) (nx : Nat → Kt) : Kt := ldI 2 (ifz (fun x => x = 0) (ldA 0 (ldI 1 (cI 2 (cV 2 8 wX8_goesTo 0 0 0 0 (nx 242))))) (nx 206))
noncomputable def bX8_steps_206 (Q : Option Value → MM → Prop) (nx : Nat → Kt) : Kt := ldI 3 (ifz (fun x => x = 0) (nx 242) (ldA 0 (ldI 1 (cI 4 (cV 2 8 wX8_goesTo 0 0 0 0 (nx 242))))))
noncomputable def bX8_steps_219 (Q : Option Value → MM → Prop) (nx : Nat → Kt) : Kt := ldI 2 (ifz (fun x => x = 0) (ldA 0 (ldI 1 (cI 2 (cV 2 8 wX8_goesTo 0 0 0 0 (nx 242))))) (nx 232))
noncomputable def bX8_steps_232 (Q : Option Value → MM → Prop) (nx : Nat → Kt) : Kt := ldI 3 (ifz (fun x => x = 0) (ldA 0 (ldI 1 (cI 3 (cV 2 8 wX8_goesTo 0 0 0 0 (nx 242))))) (nx 242))
noncomputable def bX8_steps_242 (Q : Option Value → MM → Prop) (nx : Nat → Kt) : Kt := rV Q
noncomputable def kX8_steps (Q : Option Value → MM → Prop) (nx : Nat → Kt) : Nat → Kt := bse [(0, bX8_steps_0 Q nx), (9, bX8_steps_9 Q nx), (26, bX8_steps_26 Q nx), (33, bX8_steps_33 Q nx), (84, bX8_steps_84 Q nx), (145, bX8_steps_145 Q nx), (152, bX8_steps_152 Q nx), (180, bX8_steps_180 Q nx), (193, bX8_steps_193 Q nx), (206, bX8_steps_206 Q nx), (219, bX8_steps_219 Q nx), (232, bX8_steps_232 Q nx), (242, bX8_steps_242 Q nx)]
abbrev rX8_steps : Room := { frames := 1, cells := 0, slots := 0, locals := 22 }
noncomputable def wX8_steps : Mw := mw 4 kX8_steps
set_option maxRecDepth 20000 in
theorem oX8_steps_0 {T : Ct} {Q : Option Value → MM → Prop} (C : Cx T cX8_steps 4 RX8 0 0) (CR : CxR T 1 22) (hr : T.2.2.2.2.2.2.2.2.1.sig.returnType = none) (hnm : T.2.2.2.2.2.2.2.2.1.name = "steps") {nx : Nat → Kt} (hn : ∀ pc, Sd T 4 (QT T Q 0 0) 0 0 pc (nx pc)) : Sd T 4 (QT T Q 0 0) 0 0 0 (bX8_steps_0 Q nx) := x_al_n C dX8_steps_0 rfl (x_il_n C dX8_steps_1 rfl (x_cV C CR mX8_isLit ⟨co_X8_isLit, init_X8, md_X8_isLit, by decide, by decide⟩ (ci := 8) (TX := TX8) (N := 51) rfl (by decide) ml_X8_241 im_X8_isLit se_X8_isLit dX8_steps_2 (x_if_ne C (hn 9) dX8_steps_5 (by decide) (x_rV C hr dX8_steps_8))))
set_option maxRecDepth 20000 in
theorem oX8_steps_9 {T : Ct} {Q : Option Value → MM → Prop} (C : Cx T cX8_steps 4 RX8 0 0) (CR : CxR T 1 22) (hr : T.2.2.2.2.2.2.2.2.1.sig.returnType = none) (hnm : T.2.2.2.2.2.2.2.2.1.name = "steps") {nx : Nat → Kt} (hn : ∀ pc, Sd T 4 (QT T Q 0 0) 0 0 pc (nx pc)) : Sd T 4 (QT T Q 0 0) 0 0 9 (bX8_steps_9 Q nx) := x_al_n C dX8_steps_9 rfl (gf_X8_47 C dX8_steps_10 (x_il_n C dX8_steps_13 rfl (x_zald C dX8_steps_14 (x_if_eq C (hn 26) dX8_steps_15 (by decide) (x_al_n C dX8_steps_18 rfl (x_il_n C dX8_steps_19 rfl (x_cV C CR mX8_isOther ⟨co_X8_isOther, init_X8, md_X8_isOther, by decide, by decide⟩ (ci := 8) (TX := TX8) (N := 51) rfl (by decide) ml_X8_244 im_X8_isOther se_X8_isOther dX8_steps_20 (x_if_eq C (hn 33) dX8_steps_23 (by decide) (hn 26)))))))))
set_option maxRecDepth 20000 in
theorem oX8_steps_26 {T : Ct} {Q : Option Value → MM → Prop} (C : Cx T cX8_steps 4 RX8 0 0) (CR : CxR T 1 22) (hr : T.2.2.2.2.2.2.2.2.1.sig.returnType = none) (hnm : T.2.2.2.2.2.2.2.2.1.name = "steps") {nx : Nat → Kt} (hn : ∀ pc, Sd T 4 (QT T Q 0 0) 0 0 pc (nx pc)) : Sd T 4 (QT T Q 0 0) 0 0 26 (bX8_steps_26 Q nx) := x_al_n C dX8_steps_26 rfl (x_il_n C dX8_steps_27 rfl (x_ic C dX8_steps_28 (by decide) (x_cV C CR mX8_goesTo ⟨co_X8_goesTo, init_X8, md_X8_goesTo, by decide, by decide⟩ (ci := 8) (TX := TX8) (N := 51) rfl (by decide) ml_X8_144 im_X8_goesTo se_X8_goesTo dX8_steps_29 (x_rV C hr dX8_steps_32))))
set_option maxRecDepth 20000 in
theorem oX8_steps_33 {T : Ct} {Q : Option Value → MM → Prop} (C : Cx T cX8_steps 4 RX8 0 0) (CR : CxR T 1 22) (hr : T.2.2.2.2.2.2.2.2.1.sig.returnType = none) (hnm : T.2.2.2.2.2.2.2.2.1.name = "steps") {nx : Nat → Kt} (hn : ∀ pc, Sd T 4 (QT T Q 0 0) 0 0 pc (nx pc)) : Sd T 4 (QT T Q 0 0) 0 0 33 (bX8_steps_33 Q nx) := x_al_n C dX8_steps_33 rfl (x_il_n C dX8_steps_34 rfl (x_bp C dX8_steps_35 (by decide) (x_cV C CR mX8_isPartner ⟨co_X8_isPartner, init_X8, md_X8_isPartner, by decide, by decide⟩ (ci := 8) (TX := TX8) (N := 51) rfl (by decide) ml_X8_225 im_X8_isPartner se_X8_isPartner dX8_steps_37 (x_is_n C dX8_steps_40 rfl (by decide) (x_al_n C dX8_steps_41 rfl (x_il_n C dX8_steps_42 rfl (x_bp C dX8_steps_43 (by decide) (x_cV C CR mX8_isPartner ⟨co_X8_isPartner, init_X8, md_X8_isPartner, by decide, by decide⟩ (ci := 8) (TX := TX8) (N := 51) rfl (by decide) ml_X8_225 im_X8_isPartner se_X8_isPartner dX8_steps_45 (x_is_n C dX8_steps_48 rfl (by decide) (x_al_n C dX8_steps_49 rfl (gf_X8_35 C dX8_steps_50 (x_il_n C dX8_steps_53 rfl (x_iald C dX8_steps_54 (x_sw C (tl := [84, 152, 180, 193]) hn dX8_steps_55 (by decide) (by decide) (by decide)))))))))))))))
set_option maxRecDepth 20000 in
theorem oX8_steps_84 {T : Ct} {Q : Option Value → MM → Prop} (C : Cx T cX8_steps 4 RX8 0 0) (CR : CxR T 1 22) (hr : T.2.2.2.2.2.2.2.2.1.sig.returnType = none) (hnm : T.2.2.2.2.2.2.2.2.1.name = "steps") {nx : Nat → Kt} (hn : ∀ pc, Sd T 4 (QT T Q 0 0) 0 0 pc (nx pc)) : Sd T 4 (QT T Q 0 0) 0 0 84 (bX8_steps_84 Q nx) := x_al_n C dX8_steps_84 rfl (x_il_n C dX8_steps_85 rfl (x_ic C dX8_steps_86 (by decide) (x_cV C CR mX8_goesTo ⟨co_X8_goesTo, init_X8, md_X8_goesTo, by decide, by decide⟩ (ci := 8) (TX := TX8) (N := 51) rfl (by decide) ml_X8_144 im_X8_goesTo se_X8_goesTo dX8_steps_87 (x_al_n C dX8_steps_90 rfl (gf_X8_38 C dX8_steps_91 (x_il_n C dX8_steps_94 rfl (x_ic C dX8_steps_95 (by decide) (x_iast C dX8_steps_96 (x_al_n C dX8_steps_97 rfl (gf_X8_65 C dX8_steps_98 (x_ic C dX8_steps_101 (by decide) (x_il_n C dX8_steps_102 rfl (x_imul C dX8_steps_103 (x_al_n C dX8_steps_104 rfl (gf_X8_16 C dX8_steps_105 (x_il_n C dX8_steps_108 rfl (x_iald C dX8_steps_109 (x_iast C dX8_steps_110 (x_al_n C dX8_steps_111 rfl (gf_X8_65 C dX8_steps_112 (x_ic C dX8_steps_115 (by decide) (x_il_n C dX8_steps_116 rfl (x_imul C dX8_steps_117 (x_ic C dX8_steps_118 (by decide) (x_iadd C dX8_steps_119 (x_al_n C dX8_steps_120 rfl (gf_X8_62 C dX8_steps_121 (x_ic C dX8_steps_124 (by decide) (x_il_n C dX8_steps_125 rfl (x_imul C dX8_steps_126 (x_iald C dX8_steps_127 (x_iast C dX8_steps_128 (x_al_n C dX8_steps_129 rfl (gf_X8_65 C dX8_steps_130 (x_ic C dX8_steps_133 (by decide) (x_il_n C dX8_steps_134 rfl (x_imul C dX8_steps_135 (x_ic C dX8_steps_136 (by decide) (x_iadd C dX8_steps_137 (x_al_n C dX8_steps_138 rfl (gf_X8_62 C dX8_steps_139 (x_ic C dX8_steps_142 (by decide) (x_il_n C dX8_steps_143 rfl (x_imul C dX8_steps_144 (hn 145)))))))))))))))))))))))))))))))))))))))))))))
set_option maxRecDepth 20000 in
theorem oX8_steps_145 {T : Ct} {Q : Option Value → MM → Prop} (C : Cx T cX8_steps 4 RX8 0 0) (CR : CxR T 1 22) (hr : T.2.2.2.2.2.2.2.2.1.sig.returnType = none) (hnm : T.2.2.2.2.2.2.2.2.1.name = "steps") {nx : Nat → Kt} (hn : ∀ pc, Sd T 4 (QT T Q 0 0) 0 0 pc (nx pc)) : Sd T 4 (QT T Q 0 0) 0 0 145 (bX8_steps_145 Q nx) := x_ic C dX8_steps_145 (by decide) (x_iadd C dX8_steps_146 (x_iald C dX8_steps_147 (x_iast C dX8_steps_148 (x_goto C (hn 242) dX8_steps_149 (by decide)))))
set_option maxRecDepth 20000 in
theorem oX8_steps_152 {T : Ct} {Q : Option Value → MM → Prop} (C : Cx T cX8_steps 4 RX8 0 0) (CR : CxR T 1 22) (hr : T.2.2.2.2.2.2.2.2.1.sig.returnType = none) (hnm : T.2.2.2.2.2.2.2.2.1.name = "steps") {nx : Nat → Kt} (hn : ∀ pc, Sd T 4 (QT T Q 0 0) 0 0 pc (nx pc)) : Sd T 4 (QT T Q 0 0) 0 0 152 (bX8_steps_152 Q nx) := x_al_n C dX8_steps_152 rfl (gf_X8_38 C dX8_steps_153 (x_il_n C dX8_steps_156 rfl (x_dup2 C dX8_steps_157 (x_iald C dX8_steps_158 (x_ic C dX8_steps_159 (by decide) (x_isub C dX8_steps_160 (x_iast C dX8_steps_161 (x_al_n C dX8_steps_162 rfl (gf_X8_38 C dX8_steps_163 (x_il_n C dX8_steps_166 rfl (x_iald C dX8_steps_167 (x_if_ne C (hn 242) dX8_steps_168 (by decide) (x_al_n C dX8_steps_171 rfl (x_il_n C dX8_steps_172 rfl (x_ic C dX8_steps_173 (by decide) (x_cV C CR mX8_goesTo ⟨co_X8_goesTo, init_X8, md_X8_goesTo, by decide, by decide⟩ (ci := 8) (TX := TX8) (N := 51) rfl (by decide) ml_X8_144 im_X8_goesTo se_X8_goesTo dX8_steps_174 (x_goto C (hn 242) dX8_steps_177 (by decide))))))))))))))))))
set_option maxRecDepth 20000 in
theorem oX8_steps_180 {T : Ct} {Q : Option Value → MM → Prop} (C : Cx T cX8_steps 4 RX8 0 0) (CR : CxR T 1 22) (hr : T.2.2.2.2.2.2.2.2.1.sig.returnType = none) (hnm : T.2.2.2.2.2.2.2.2.1.name = "steps") {nx : Nat → Kt} (hn : ∀ pc, Sd T 4 (QT T Q 0 0) 0 0 pc (nx pc)) : Sd T 4 (QT T Q 0 0) 0 0 180 (bX8_steps_180 Q nx) := x_il_n C dX8_steps_180 rfl (x_if_eq C (hn 242) dX8_steps_181 (by decide) (x_al_n C dX8_steps_184 rfl (x_il_n C dX8_steps_185 rfl (x_ic C dX8_steps_186 (by decide) (x_cV C CR mX8_goesTo ⟨co_X8_goesTo, init_X8, md_X8_goesTo, by decide, by decide⟩ (ci := 8) (TX := TX8) (N := 51) rfl (by decide) ml_X8_144 im_X8_goesTo se_X8_goesTo dX8_steps_187 (x_goto C (hn 242) dX8_steps_190 (by decide)))))))
set_option maxRecDepth 20000 in
theorem oX8_steps_193 {T : Ct} {Q : Option Value → MM → Prop} (C : Cx T cX8_steps 4 RX8 0 0) (CR : CxR T 1 22) (hr : T.2.2.2.2.2.2.2.2.1.sig.returnType = none) (hnm : T.2.2.2.2.2.2.2.2.1.name = "steps") {nx : Nat → Kt} (hn : ∀ pc, Sd T 4 (QT T Q 0 0) 0 0 pc (nx pc)) : Sd T 4 (QT T Q 0 0) 0 0 193 (bX8_steps_193 Q nx) := x_il_n C dX8_steps_193 rfl (x_if_ne C (hn 206) dX8_steps_194 (by decide) (x_al_n C dX8_steps_197 rfl (x_il_n C dX8_steps_198 rfl (x_ic C dX8_steps_199 (by decide) (x_cV C CR mX8_goesTo ⟨co_X8_goesTo, init_X8, md_X8_goesTo, by decide, by decide⟩ (ci := 8) (TX := TX8) (N := 51) rfl (by decide) ml_X8_144 im_X8_goesTo se_X8_goesTo dX8_steps_200 (x_goto C (hn 242) dX8_steps_203 (by decide)))))))
set_option maxRecDepth 20000 in
theorem oX8_steps_206 {T : Ct} {Q : Option Value → MM → Prop} (C : Cx T cX8_steps 4 RX8 0 0) (CR : CxR T 1 22) (hr : T.2.2.2.2.2.2.2.2.1.sig.returnType = none) (hnm : T.2.2.2.2.2.2.2.2.1.name = "steps") {nx : Nat → Kt} (hn : ∀ pc, Sd T 4 (QT T Q 0 0) 0 0 pc (nx pc)) : Sd T 4 (QT T Q 0 0) 0 0 206 (bX8_steps_206 Q nx) := x_il_n C dX8_steps_206 rfl (x_if_eq C (hn 242) dX8_steps_207 (by decide) (x_al_n C dX8_steps_210 rfl (x_il_n C dX8_steps_211 rfl (x_ic C dX8_steps_212 (by decide) (x_cV C CR mX8_goesTo ⟨co_X8_goesTo, init_X8, md_X8_goesTo, by decide, by decide⟩ (ci := 8) (TX := TX8) (N := 51) rfl (by decide) ml_X8_144 im_X8_goesTo se_X8_goesTo dX8_steps_213 (x_goto C (hn 242) dX8_steps_216 (by decide)))))))
set_option maxRecDepth 20000 in
theorem oX8_steps_219 {T : Ct} {Q : Option Value → MM → Prop} (C : Cx T cX8_steps 4 RX8 0 0) (CR : CxR T 1 22) (hr : T.2.2.2.2.2.2.2.2.1.sig.returnType = none) (hnm : T.2.2.2.2.2.2.2.2.1.name = "steps") {nx : Nat → Kt} (hn : ∀ pc, Sd T 4 (QT T Q 0 0) 0 0 pc (nx pc)) : Sd T 4 (QT T Q 0 0) 0 0 219 (bX8_steps_219 Q nx) := x_il_n C dX8_steps_219 rfl (x_if_ne C (hn 232) dX8_steps_220 (by decide) (x_al_n C dX8_steps_223 rfl (x_il_n C dX8_steps_224 rfl (x_ic C dX8_steps_225 (by decide) (x_cV C CR mX8_goesTo ⟨co_X8_goesTo, init_X8, md_X8_goesTo, by decide, by decide⟩ (ci := 8) (TX := TX8) (N := 51) rfl (by decide) ml_X8_144 im_X8_goesTo se_X8_goesTo dX8_steps_226 (x_goto C (hn 242) dX8_steps_229 (by decide)))))))
set_option maxRecDepth 20000 in
theorem oX8_steps_232 {T : Ct} {Q : Option Value → MM → Prop} (C : Cx T cX8_steps 4 RX8 0 0) (CR : CxR T 1 22) (hr : T.2.2.2.2.2.2.2.2.1.sig.returnType = none) (hnm : T.2.2.2.2.2.2.2.2.1.name = "steps") {nx : Nat → Kt} (hn : ∀ pc, Sd T 4 (QT T Q 0 0) 0 0 pc (nx pc)) : Sd T 4 (QT T Q 0 0) 0 0 232 (bX8_steps_232 Q nx) := x_il_n C dX8_steps_232 rfl (x_if_ne C (hn 242) dX8_steps_233 (by decide) (x_al_n C dX8_steps_236 rfl (x_il_n C dX8_steps_237 rfl (x_ic C dX8_steps_238 (by decide) (x_cV C CR mX8_goesTo ⟨co_X8_goesTo, init_X8, md_X8_goesTo, by decide, by decide⟩ (ci := 8) (TX := TX8) (N := 51) rfl (by decide) ml_X8_144 im_X8_goesTo se_X8_goesTo dX8_steps_239 (hn 242))))))
set_option maxRecDepth 20000 in
theorem oX8_steps_242 {T : Ct} {Q : Option Value → MM → Prop} (C : Cx T cX8_steps 4 RX8 0 0) (CR : CxR T 1 22) (hr : T.2.2.2.2.2.2.2.2.1.sig.returnType = none) (hnm : T.2.2.2.2.2.2.2.2.1.name = "steps") {nx : Nat → Kt} (hn : ∀ pc, Sd T 4 (QT T Q 0 0) 0 0 pc (nx pc)) : Sd T 4 (QT T Q 0 0) 0 0 242 (bX8_steps_242 Q nx) := x_rV C hr dX8_steps_242
set_option maxRecDepth 20000 in
theorem mX8_steps (l : Launch) (D : va_G) (cA : Nat → ClassId) (base : Nat) : Mc l D cA base yX8_steps cX8_steps 4 none rX8_steps wX8_steps := mc_of (by decide +kernel) kX8_steps (fun T Q C CR hr hnm nx hn => bse_ok _ (List.forall_mem_cons.mpr ⟨oX8_steps_0 C CR hr hnm hn, List.forall_mem_cons.mpr ⟨oX8_steps_9 C CR hr hnm hn, List.forall_mem_cons.mpr ⟨oX8_steps_26 C CR hr hnm hn, List.forall_mem_cons.mpr ⟨oX8_steps_33 C CR hr hnm hn, List.forall_mem_cons.mpr ⟨oX8_steps_84 C CR hr hnm hn, List.forall_mem_cons.mpr ⟨oX8_steps_145 C CR hr hnm hn, List.forall_mem_cons.mpr ⟨oX8_steps_152 C CR hr hnm hn, List.forall_mem_cons.mpr ⟨oX8_steps_180 C CR hr hnm hn, List.forall_mem_cons.mpr ⟨oX8_steps_193 C CR hr hnm hn, List.forall_mem_cons.mpr ⟨oX8_steps_206 C CR hr hnm hn, List.forall_mem_cons.mpr ⟨oX8_steps_219 C CR hr hnm hn, List.forall_mem_cons.mpr ⟨oX8_steps_232 C CR hr hnm hn, List.forall_mem_cons.mpr ⟨oX8_steps_242 C CR hr hnm hn, fun _ h => nomatch h⟩⟩⟩⟩⟩⟩⟩⟩⟩⟩⟩⟩⟩))
theorem dX8_isTold_0 : decode cX8_isTold 0 = .ok (.aload_n 0, 1) := by decide +kernel
theorem dX8_isTold_1 : decode cX8_isTold 1 = .ok (.getfield 71, 3) := by decide +kernel
theorem dX8_isTold_4 : decode cX8_isTold 4 = .ok (.iload_n 1, 1) := by decide +kernel
theorem dX8_isTold_5 : decode cX8_isTold 5 = .ok (.iaload, 1) := by decide +kernel
theorem dX8_isTold_6 : decode cX8_isTold 6 = .ok (.iconst (-1), 1) := by decide +kernel
theorem dX8_isTold_7 : decode cX8_isTold 7 = .ok (.if_icmp .ne 5, 3) := by decide +kernel
theorem dX8_isTold_10 : decode cX8_isTold 10 = .ok (.iconst 0, 1) := by decide +kernel
theorem dX8_isTold_11 : decode cX8_isTold 11 = .ok (.ireturn, 1) := by decide +kernel
theorem dX8_isTold_12 : decode cX8_isTold 12 = .ok (.iconst 0, 1) := by decide +kernel
theorem dX8_isTold_13 : decode cX8_isTold 13 = .ok (.istore_n 2, 1) := by decide +kernel
theorem dX8_isTold_14 : decode cX8_isTold 14 = .ok (.iload_n 2, 1) := by decide +kernel
theorem dX8_isTold_15 : decode cX8_isTold 15 = .ok (.iconst 5, 1) := by decide +kernel
theorem dX8_isTold_16 : decode cX8_isTold 16 = .ok (.if_icmp .ge 30, 3) := by decide +kernel
theorem dX8_isTold_19 : decode cX8_isTold 19 = .ok (.aload_n 0, 1) := by decide +kernel
theorem dX8_isTold_20 : decode cX8_isTold 20 = .ok (.getfield 68, 3) := by decide +kernel
theorem dX8_isTold_23 : decode cX8_isTold 23 = .ok (.iconst 5, 1) := by decide +kernel
theorem dX8_isTold_24 : decode cX8_isTold 24 = .ok (.iload_n 1, 1) := by decide +kernel
theorem dX8_isTold_25 : decode cX8_isTold 25 = .ok (.imul, 1) := by decide +kernel
theorem dX8_isTold_26 : decode cX8_isTold 26 = .ok (.iload_n 2, 1) := by decide +kernel
theorem dX8_isTold_27 : decode cX8_isTold 27 = .ok (.iadd, 1) := by decide +kernel
theorem dX8_isTold_28 : decode cX8_isTold 28 = .ok (.iaload, 1) := by decide +kernel
theorem dX8_isTold_29 : decode cX8_isTold 29 = .ok (.aload_n 0, 1) := by decide +kernel
theorem dX8_isTold_30 : decode cX8_isTold 30 = .ok (.iload_n 1, 1) := by decide +kernel
theorem dX8_isTold_31 : decode cX8_isTold 31 = .ok (.iload_n 2, 1) := by decide +kernel
theorem dX8_isTold_32 : decode cX8_isTold 32 = .ok (.invokevirtual 216, 3) := by decide +kernel
theorem dX8_isTold_35 : decode cX8_isTold 35 = .ok (.if_icmp .eq 5, 3) := by decide +kernel
theorem dX8_isTold_38 : decode cX8_isTold 38 = .ok (.iconst 0, 1) := by decide +kernel
theorem dX8_isTold_39 : decode cX8_isTold 39 = .ok (.ireturn, 1) := by decide +kernel
theorem dX8_isTold_40 : decode cX8_isTold 40 = .ok (.iinc 2 1, 3) := by decide +kernel
theorem dX8_isTold_43 : decode cX8_isTold 43 = .ok (.goto (-29), 3) := by decide +kernel
theorem dX8_isTold_46 : decode cX8_isTold 46 = .ok (.iconst 1, 1) := by decide +kernel
theorem dX8_isTold_47 : decode cX8_isTold 47 = .ok (.ireturn, 1) := by decide +kernel
noncomputable def bX8_isTold_0 (Q : Option Value → MM → Prop) (nx : Nat → Kt) : Kt := ldA 0 (gR 8 21 (ldI 1 (aI 10 (cI (-1) (ifc (fun x y => x = y) (cI 0 (rZ Q)) (nx 12))))))
noncomputable def bX8_isTold_12 (Q : Option Value → MM → Prop) (nx : Nat → Kt) : Kt := cI 0 (stI 2 (nx 14))
noncomputable def bX8_isTold_14 (Q : Option Value → MM → Prop) (nx : Nat → Kt) : Kt := ldI 2 (cI 5 (ifc (fun x y => y ≤ x) (nx 46) (ldA 0 (gR 8 20 (cI 5 (ldI 1 (bop (fun x y => x * y) (ldI 2 (bop (fun x y => x + y) (aI 10 (ldA 0 (ldI 1 (ldI 2 (cV 2 8 wX8_own 0 0 0 0 (ifc (fun x y => x = y) (nx 40) (cI 0 (rZ Q)))))))))))))))))
noncomputable def bX8_isTold_40 (Q : Option Value → MM → Prop) (nx : Nat → Kt) : Kt := inc 2 1 (nx 14)
noncomputable def bX8_isTold_46 (Q : Option Value → MM → Prop) (nx : Nat → Kt) : Kt := cI 1 (rZ Q)
noncomputable def kX8_isTold (Q : Option Value → MM → Prop) (nx : Nat → Kt) : Nat → Kt := bse [(0, bX8_isTold_0 Q nx), (12, bX8_isTold_12 Q nx), (14, bX8_isTold_14 Q nx), (40, bX8_isTold_40 Q nx), (46, bX8_isTold_46 Q nx)]
abbrev rX8_isTold : Room := { frames := 2, cells := 0, slots := 0, locals := 44 }
noncomputable def wX8_isTold : Mw := mw 3 kX8_isTold
set_option maxRecDepth 20000 in
theorem oX8_isTold_0 {T : Ct} {Q : Option Value → MM → Prop} (C : Cx T cX8_isTold 3 RX8 0 0) (CR : CxR T 2 44) (hr : T.2.2.2.2.2.2.2.2.1.sig.returnType = (some .boolean)) (hnm : T.2.2.2.2.2.2.2.2.1.name = "isTold") {nx : Nat → Kt} (hn : ∀ pc, Sd T 3 (QT T Q 0 0) 0 0 pc (nx pc)) : Sd T 3 (QT T Q 0 0) 0 0 0 (bX8_isTold_0 Q nx) := x_al_n C dX8_isTold_0 rfl (gf_X8_71 C dX8_isTold_1 (x_il_n C dX8_isTold_4 rfl (x_iald C dX8_isTold_5 (x_ic C dX8_isTold_6 (by decide) (x_ic_ne C (hn 12) dX8_isTold_7 (by decide) (x_ic C dX8_isTold_10 (by decide) (x_rZ C hr dX8_isTold_11)))))))
set_option maxRecDepth 20000 in
theorem oX8_isTold_12 {T : Ct} {Q : Option Value → MM → Prop} (C : Cx T cX8_isTold 3 RX8 0 0) (CR : CxR T 2 44) (hr : T.2.2.2.2.2.2.2.2.1.sig.returnType = (some .boolean)) (hnm : T.2.2.2.2.2.2.2.2.1.name = "isTold") {nx : Nat → Kt} (hn : ∀ pc, Sd T 3 (QT T Q 0 0) 0 0 pc (nx pc)) : Sd T 3 (QT T Q 0 0) 0 0 12 (bX8_isTold_12 Q nx) := x_ic C dX8_isTold_12 (by decide) (x_is_n C dX8_isTold_13 rfl (by decide) (hn 14))
set_option maxRecDepth 20000 in
theorem oX8_isTold_14 {T : Ct} {Q : Option Value → MM → Prop} (C : Cx T cX8_isTold 3 RX8 0 0) (CR : CxR T 2 44) (hr : T.2.2.2.2.2.2.2.2.1.sig.returnType = (some .boolean)) (hnm : T.2.2.2.2.2.2.2.2.1.name = "isTold") {nx : Nat → Kt} (hn : ∀ pc, Sd T 3 (QT T Q 0 0) 0 0 pc (nx pc)) : Sd T 3 (QT T Q 0 0) 0 0 14 (bX8_isTold_14 Q nx) := x_il_n C dX8_isTold_14 rfl (x_ic C dX8_isTold_15 (by decide) (x_ic_ge C (hn 46) dX8_isTold_16 (by decide) (x_al_n C dX8_isTold_19 rfl (gf_X8_68 C dX8_isTold_20 (x_ic C dX8_isTold_23 (by decide) (x_il_n C dX8_isTold_24 rfl (x_imul C dX8_isTold_25 (x_il_n C dX8_isTold_26 rfl (x_iadd C dX8_isTold_27 (x_iald C dX8_isTold_28 (x_al_n C dX8_isTold_29 rfl (x_il_n C dX8_isTold_30 rfl (x_il_n C dX8_isTold_31 rfl (x_cV C CR mX8_own ⟨co_X8_own, init_X8, md_X8_own, by decide, by decide⟩ (ci := 8) (TX := TX8) (N := 51) rfl (by decide) ml_X8_216 im_X8_own se_X8_own dX8_isTold_32 (x_ic_eq C (hn 40) dX8_isTold_35 (by decide) (x_ic C dX8_isTold_38 (by decide) (x_rZ C hr dX8_isTold_39)))))))))))))))))
set_option maxRecDepth 20000 in
theorem oX8_isTold_40 {T : Ct} {Q : Option Value → MM → Prop} (C : Cx T cX8_isTold 3 RX8 0 0) (CR : CxR T 2 44) (hr : T.2.2.2.2.2.2.2.2.1.sig.returnType = (some .boolean)) (hnm : T.2.2.2.2.2.2.2.2.1.name = "isTold") {nx : Nat → Kt} (hn : ∀ pc, Sd T 3 (QT T Q 0 0) 0 0 pc (nx pc)) : Sd T 3 (QT T Q 0 0) 0 0 40 (bX8_isTold_40 Q nx) := x_inc C dX8_isTold_40 (by decide) (by decide) (x_goto C (hn 14) dX8_isTold_43 (by decide))
set_option maxRecDepth 20000 in
theorem oX8_isTold_46 {T : Ct} {Q : Option Value → MM → Prop} (C : Cx T cX8_isTold 3 RX8 0 0) (CR : CxR T 2 44) (hr : T.2.2.2.2.2.2.2.2.1.sig.returnType = (some .boolean)) (hnm : T.2.2.2.2.2.2.2.2.1.name = "isTold") {nx : Nat → Kt} (hn : ∀ pc, Sd T 3 (QT T Q 0 0) 0 0 pc (nx pc)) : Sd T 3 (QT T Q 0 0) 0 0 46 (bX8_isTold_46 Q nx) := x_ic C dX8_isTold_46 (by decide) (x_rZ C hr dX8_isTold_47)
set_option maxRecDepth 20000 in
theorem mX8_isTold (l : Launch) (D : va_G) (cA : Nat → ClassId) (base : Nat) : Mc l D cA base yX8_isTold cX8_isTold 3 (some .boolean) rX8_isTold wX8_isTold := mc_of (by decide +kernel) kX8_isTold (fun T Q C CR hr hnm nx hn => bse_ok _ (List.forall_mem_cons.mpr ⟨oX8_isTold_0 C CR hr hnm hn, List.forall_mem_cons.mpr ⟨oX8_isTold_12 C CR hr hnm hn, List.forall_mem_cons.mpr ⟨oX8_isTold_14 C CR hr hnm hn, List.forall_mem_cons.mpr ⟨oX8_isTold_40 C CR hr hnm hn, List.forall_mem_cons.mpr ⟨oX8_isTold_46 C CR hr hnm hn, fun _ h => nomatch h⟩⟩⟩⟩⟩))
theorem dX8_comesOn_0 : decode cX8_comesOn 0 = .ok (.aload_n 0, 1) := by decide +kernel
theorem dX8_comesOn_1 : decode cX8_comesOn 1 = .ok (.getfield 89, 3) := by decide +kernel
theorem dX8_comesOn_4 : decode cX8_comesOn 4 = .ok (.aload_n 0, 1) := by decide +kernel
theorem dX8_comesOn_5 : decode cX8_comesOn 5 = .ok (.getfield 166, 3) := by decide +kernel
theorem dX8_comesOn_8 : decode cX8_comesOn 8 = .ok (.iload_n 1, 1) := by decide +kernel
theorem dX8_comesOn_9 : decode cX8_comesOn 9 = .ok (.iastore, 1) := by decide +kernel
theorem dX8_comesOn_10 : decode cX8_comesOn 10 = .ok (.aload_n 0, 1) := by decide +kernel
theorem dX8_comesOn_11 : decode cX8_comesOn 11 = .ok (.getfield 92, 3) := by decide +kernel
theorem dX8_comesOn_14 : decode cX8_comesOn 14 = .ok (.aload_n 0, 1) := by decide +kernel
theorem dX8_comesOn_15 : decode cX8_comesOn 15 = .ok (.getfield 166, 3) := by decide +kernel
theorem dX8_comesOn_18 : decode cX8_comesOn 18 = .ok (.iload_n 2, 1) := by decide +kernel
theorem dX8_comesOn_19 : decode cX8_comesOn 19 = .ok (.iastore, 1) := by decide +kernel
theorem dX8_comesOn_20 : decode cX8_comesOn 20 = .ok (.aload_n 0, 1) := by decide +kernel
theorem dX8_comesOn_21 : decode cX8_comesOn 21 = .ok (.getfield 95, 3) := by decide +kernel
theorem dX8_comesOn_24 : decode cX8_comesOn 24 = .ok (.aload_n 0, 1) := by decide +kernel
theorem dX8_comesOn_25 : decode cX8_comesOn 25 = .ok (.getfield 166, 3) := by decide +kernel
theorem dX8_comesOn_28 : decode cX8_comesOn 28 = .ok (.aload_n 0, 1) := by decide +kernel
theorem dX8_comesOn_29 : decode cX8_comesOn 29 = .ok (.getfield 213, 3) := by decide +kernel
theorem dX8_comesOn_32 : decode cX8_comesOn 32 = .ok (.aload_n 0, 1) := by decide +kernel
theorem dX8_comesOn_33 : decode cX8_comesOn 33 = .ok (.getfield 77, 3) := by decide +kernel
theorem dX8_comesOn_36 : decode cX8_comesOn 36 = .ok (.iload_n 1, 1) := by decide +kernel
theorem dX8_comesOn_37 : decode cX8_comesOn 37 = .ok (.iaload, 1) := by decide +kernel
theorem dX8_comesOn_38 : decode cX8_comesOn 38 = .ok (.iadd, 1) := by decide +kernel
theorem dX8_comesOn_39 : decode cX8_comesOn 39 = .ok (.iastore, 1) := by decide +kernel
theorem dX8_comesOn_40 : decode cX8_comesOn 40 = .ok (.aload_n 0, 1) := by decide +kernel
theorem dX8_comesOn_41 : decode cX8_comesOn 41 = .ok (.getfield 98, 3) := by decide +kernel
theorem dX8_comesOn_44 : decode cX8_comesOn 44 = .ok (.aload_n 0, 1) := by decide +kernel
theorem dX8_comesOn_45 : decode cX8_comesOn 45 = .ok (.getfield 166, 3) := by decide +kernel
theorem dX8_comesOn_48 : decode cX8_comesOn 48 = .ok (.iload_n 3, 1) := by decide +kernel
theorem dX8_comesOn_49 : decode cX8_comesOn 49 = .ok (.iastore, 1) := by decide +kernel
theorem dX8_comesOn_50 : decode cX8_comesOn 50 = .ok (.aload_n 0, 1) := by decide +kernel
theorem dX8_comesOn_51 : decode cX8_comesOn 51 = .ok (.dup, 1) := by decide +kernel
theorem dX8_comesOn_52 : decode cX8_comesOn 52 = .ok (.getfield 166, 3) := by decide +kernel
theorem dX8_comesOn_55 : decode cX8_comesOn 55 = .ok (.iconst 1, 1) := by decide +kernel
theorem dX8_comesOn_56 : decode cX8_comesOn 56 = .ok (.iadd, 1) := by decide +kernel
theorem dX8_comesOn_57 : decode cX8_comesOn 57 = .ok (.putfield 166, 3) := by decide +kernel
theorem dX8_comesOn_60 : decode cX8_comesOn 60 = .ok (.return_, 1) := by decide +kernel
noncomputable def bX8_comesOn_0 (Q : Option Value → MM → Prop) (nx : Nat → Kt) : Kt := ldA 0 (gR 8 27 (ldA 0 (gI 8 32 (ldI 1 (sAI (ldA 0 (gR 8 28 (ldA 0 (gI 8 32 (ldI 2 (sAI (ldA 0 (gR 8 29 (ldA 0 (gI 8 32 (ldA 0 (gI 8 43 (ldA 0 (gR 8 23 (ldI 1 (aI 10 (bop (fun x y => x + y) (sAI (ldA 0 (gR 8 30 (ldA 0 (gI 8 32 (ldI 3 (sAI (ldA 0 (du (gI 8 32 (cI 1 (bop (fun x y => x + y) (tI 8 32 (rV Q))))))))))))))))))))))))))))))))))))
noncomputable def kX8_comesOn (Q : Option Value → MM → Prop) (nx : Nat → Kt) : Nat → Kt := bse [(0, bX8_comesOn_0 Q nx)]
abbrev rX8_comesOn : Room := { frames := 0, cells := 0, slots := 0, locals := 0 }
noncomputable def wX8_comesOn : Mw := mw 4 kX8_comesOn
set_option maxRecDepth 20000 in
theorem oX8_comesOn_0 {T : Ct} {Q : Option Value → MM → Prop} (C : Cx T cX8_comesOn 4 RX8 0 0) (CR : CxR T 0 0) (hr : T.2.2.2.2.2.2.2.2.1.sig.returnType = none) (hnm : T.2.2.2.2.2.2.2.2.1.name = "comesOn") {nx : Nat → Kt} (hn : ∀ pc, Sd T 4 (QT T Q 0 0) 0 0 pc (nx pc)) : Sd T 4 (QT T Q 0 0) 0 0 0 (bX8_comesOn_0 Q nx) := x_al_n C dX8_comesOn_0 rfl (gf_X8_89 C dX8_comesOn_1 (x_al_n C dX8_comesOn_4 rfl (gf_X8_166 C dX8_comesOn_5 (x_il_n C dX8_comesOn_8 rfl (x_iast C dX8_comesOn_9 (x_al_n C dX8_comesOn_10 rfl (gf_X8_92 C dX8_comesOn_11 (x_al_n C dX8_comesOn_14 rfl (gf_X8_166 C dX8_comesOn_15 (x_il_n C dX8_comesOn_18 rfl (x_iast C dX8_comesOn_19 (x_al_n C dX8_comesOn_20 rfl (gf_X8_95 C dX8_comesOn_21 (x_al_n C dX8_comesOn_24 rfl (gf_X8_166 C dX8_comesOn_25 (x_al_n C dX8_comesOn_28 rfl (gf_X8_213 C dX8_comesOn_29 (x_al_n C dX8_comesOn_32 rfl (gf_X8_77 C dX8_comesOn_33 (x_il_n C dX8_comesOn_36 rfl (x_iald C dX8_comesOn_37 (x_iadd C dX8_comesOn_38 (x_iast C dX8_comesOn_39 (x_al_n C dX8_comesOn_40 rfl (gf_X8_98 C dX8_comesOn_41 (x_al_n C dX8_comesOn_44 rfl (gf_X8_166 C dX8_comesOn_45 (x_il_n C dX8_comesOn_48 rfl (x_iast C dX8_comesOn_49 (x_al_n C dX8_comesOn_50 rfl (x_dup C dX8_comesOn_51 (gf_X8_166 C dX8_comesOn_52 (x_ic C dX8_comesOn_55 (by decide) (x_iadd C dX8_comesOn_56 (pf_X8_166 C dX8_comesOn_57 (x_rV C hr dX8_comesOn_60))))))))))))))))))))))))))))))))))))
set_option maxRecDepth 20000 in
theorem mX8_comesOn (l : Launch) (D : va_G) (cA : Nat → ClassId) (base : Nat) : Mc l D cA base yX8_comesOn cX8_comesOn 4 none rX8_comesOn wX8_comesOn := mc_of (by decide +kernel) kX8_comesOn (fun T Q C CR hr hnm nx hn => bse_ok _ (List.forall_mem_cons.mpr ⟨oX8_comesOn_0 C CR hr hnm hn, fun _ h => nomatch h⟩))
theorem dX8_puts_0 : decode cX8_puts 0 = .ok (.aload_n 0, 1) := by decide +kernel
theorem dX8_puts_1 : decode cX8_puts 1 = .ok (.iload_n 1, 1) := by decide +kernel
theorem dX8_puts_2 : decode cX8_puts 2 = .ok (.invokevirtual 241, 3) := by decide +kernel
theorem dX8_puts_5 : decode cX8_puts 5 = .ok (.ifCond .eq 21, 3) := by decide +kernel
theorem dX8_puts_8 : decode cX8_puts 8 = .ok (.aload_n 0, 1) := by decide +kernel
theorem dX8_puts_9 : decode cX8_puts 9 = .ok (.getfield 22, 3) := by decide +kernel
theorem dX8_puts_12 : decode cX8_puts 12 = .ok (.iload_n 1, 1) := by decide +kernel
theorem dX8_puts_13 : decode cX8_puts 13 = .ok (.baload, 1) := by decide +kernel
theorem dX8_puts_14 : decode cX8_puts 14 = .ok (.ifCond .ne 13, 3) := by decide +kernel
theorem dX8_puts_17 : decode cX8_puts 17 = .ok (.aload_n 0, 1) := by decide +kernel
theorem dX8_puts_18 : decode cX8_puts 18 = .ok (.iload_n 1, 1) := by decide +kernel
theorem dX8_puts_19 : decode cX8_puts 19 = .ok (.iconst 1, 1) := by decide +kernel
theorem dX8_puts_20 : decode cX8_puts 20 = .ok (.invokevirtual 225, 3) := by decide +kernel
theorem dX8_puts_23 : decode cX8_puts 23 = .ok (.ifCond .ne 4, 3) := by decide +kernel
theorem dX8_puts_26 : decode cX8_puts 26 = .ok (.return_, 1) := by decide +kernel
theorem dX8_puts_27 : decode cX8_puts 27 = .ok (.aload_n 0, 1) := by decide +kernel
theorem dX8_puts_28 : decode cX8_puts 28 = .ok (.getfield 29, 3) := by decide +kernel
theorem dX8_puts_31 : decode cX8_puts 31 = .ok (.iload_n 1, 1) := by decide +kernel
theorem dX8_puts_32 : decode cX8_puts 32 = .ok (.iaload, 1) := by decide +kernel
theorem dX8_puts_33 : decode cX8_puts 33 = .ok (.iconst 2, 1) := by decide +kernel
theorem dX8_puts_34 : decode cX8_puts 34 = .ok (.if_icmp .ne 17, 3) := by decide +kernel
theorem dX8_puts_37 : decode cX8_puts 37 = .ok (.aload_n 0, 1) := by decide +kernel
theorem dX8_puts_38 : decode cX8_puts 38 = .ok (.iload_n 1, 1) := by decide +kernel
theorem dX8_puts_39 : decode cX8_puts 39 = .ok (.iconst 2, 1) := by decide +kernel
theorem dX8_puts_40 : decode cX8_puts 40 = .ok (.invokevirtual 225, 3) := by decide +kernel
theorem dX8_puts_43 : decode cX8_puts 43 = .ok (.ifCond .ne 8, 3) := by decide +kernel
theorem dX8_puts_46 : decode cX8_puts 46 = .ok (.bipush 30, 2) := by decide +kernel
theorem dX8_puts_48 : decode cX8_puts 48 = .ok (.goto 4, 3) := by decide +kernel
theorem dX8_puts_51 : decode cX8_puts 51 = .ok (.iconst 1, 1) := by decide +kernel
theorem dX8_puts_52 : decode cX8_puts 52 = .ok (.istore_n 2, 1) := by decide +kernel
theorem dX8_puts_53 : decode cX8_puts 53 = .ok (.aload_n 0, 1) := by decide +kernel
theorem dX8_puts_54 : decode cX8_puts 54 = .ok (.iload_n 1, 1) := by decide +kernel
theorem dX8_puts_55 : decode cX8_puts 55 = .ok (.invokevirtual 247, 3) := by decide +kernel
theorem dX8_puts_58 : decode cX8_puts 58 = .ok (.ifCond .eq 28, 3) := by decide +kernel
theorem dX8_puts_61 : decode cX8_puts 61 = .ok (.aload_n 0, 1) := by decide +kernel
theorem dX8_puts_62 : decode cX8_puts 62 = .ok (.getfield 50, 3) := by decide +kernel
theorem dX8_puts_65 : decode cX8_puts 65 = .ok (.iload_n 1, 1) := by decide +kernel
theorem dX8_puts_66 : decode cX8_puts 66 = .ok (.baload, 1) := by decide +kernel
theorem dX8_puts_67 : decode cX8_puts 67 = .ok (.ifCond .ne 19, 3) := by decide +kernel
theorem dX8_puts_70 : decode cX8_puts 70 = .ok (.aload_n 0, 1) := by decide +kernel
theorem dX8_puts_71 : decode cX8_puts 71 = .ok (.getfield 213, 3) := by decide +kernel
theorem dX8_puts_74 : decode cX8_puts 74 = .ok (.aload_n 0, 1) := by decide +kernel
theorem dX8_puts_75 : decode cX8_puts 75 = .ok (.getfield 71, 3) := by decide +kernel
theorem dX8_puts_78 : decode cX8_puts 78 = .ok (.iload_n 1, 1) := by decide +kernel
theorem dX8_puts_79 : decode cX8_puts 79 = .ok (.iaload, 1) := by decide +kernel
theorem dX8_puts_80 : decode cX8_puts 80 = .ok (.isub, 1) := by decide +kernel
theorem dX8_puts_81 : decode cX8_puts 81 = .ok (.iload_n 2, 1) := by decide +kernel
theorem dX8_puts_82 : decode cX8_puts 82 = .ok (.if_icmp .ge 4, 3) := by decide +kernel
theorem dX8_puts_85 : decode cX8_puts 85 = .ok (.return_, 1) := by decide +kernel
theorem dX8_puts_86 : decode cX8_puts 86 = .ok (.aload_n 0, 1) := by decide +kernel
theorem dX8_puts_87 : decode cX8_puts 87 = .ok (.getfield 50, 3) := by decide +kernel
theorem dX8_puts_90 : decode cX8_puts 90 = .ok (.iload_n 1, 1) := by decide +kernel
theorem dX8_puts_91 : decode cX8_puts 91 = .ok (.iconst 0, 1) := by decide +kernel
theorem dX8_puts_92 : decode cX8_puts 92 = .ok (.bastore, 1) := by decide +kernel
theorem dX8_puts_93 : decode cX8_puts 93 = .ok (.aload_n 0, 1) := by decide +kernel
theorem dX8_puts_94 : decode cX8_puts 94 = .ok (.getfield 56, 3) := by decide +kernel
theorem dX8_puts_97 : decode cX8_puts 97 = .ok (.iload_n 1, 1) := by decide +kernel
theorem dX8_puts_98 : decode cX8_puts 98 = .ok (.dup2, 1) := by decide +kernel
theorem dX8_puts_99 : decode cX8_puts 99 = .ok (.iaload, 1) := by decide +kernel
theorem dX8_puts_100 : decode cX8_puts 100 = .ok (.iconst 1, 1) := by decide +kernel
theorem dX8_puts_101 : decode cX8_puts 101 = .ok (.iadd, 1) := by decide +kernel
theorem dX8_puts_102 : decode cX8_puts 102 = .ok (.iastore, 1) := by decide +kernel
theorem dX8_puts_103 : decode cX8_puts 103 = .ok (.aload_n 0, 1) := by decide +kernel
theorem dX8_puts_104 : decode cX8_puts 104 = .ok (.getfield 71, 3) := by decide +kernel
theorem dX8_puts_107 : decode cX8_puts 107 = .ok (.iload_n 1, 1) := by decide +kernel
theorem dX8_puts_108 : decode cX8_puts 108 = .ok (.aload_n 0, 1) := by decide +kernel
theorem dX8_puts_109 : decode cX8_puts 109 = .ok (.getfield 213, 3) := by decide +kernel
theorem dX8_puts_112 : decode cX8_puts 112 = .ok (.iastore, 1) := by decide +kernel
theorem dX8_puts_113 : decode cX8_puts 113 = .ok (.iconst 0, 1) := by decide +kernel
theorem dX8_puts_114 : decode cX8_puts 114 = .ok (.istore_n 3, 1) := by decide +kernel
theorem dX8_puts_115 : decode cX8_puts 115 = .ok (.iload_n 3, 1) := by decide +kernel
theorem dX8_puts_116 : decode cX8_puts 116 = .ok (.iconst 5, 1) := by decide +kernel
theorem dX8_puts_117 : decode cX8_puts 117 = .ok (.if_icmp .ge 25, 3) := by decide +kernel
theorem dX8_puts_120 : decode cX8_puts 120 = .ok (.aload_n 0, 1) := by decide +kernel
theorem dX8_puts_121 : decode cX8_puts 121 = .ok (.getfield 68, 3) := by decide +kernel
theorem dX8_puts_124 : decode cX8_puts 124 = .ok (.iconst 5, 1) := by decide +kernel
theorem dX8_puts_125 : decode cX8_puts 125 = .ok (.iload_n 1, 1) := by decide +kernel
theorem dX8_puts_126 : decode cX8_puts 126 = .ok (.imul, 1) := by decide +kernel
theorem dX8_puts_127 : decode cX8_puts 127 = .ok (.iload_n 3, 1) := by decide +kernel
theorem dX8_puts_128 : decode cX8_puts 128 = .ok (.iadd, 1) := by decide +kernel
theorem dX8_puts_129 : decode cX8_puts 129 = .ok (.aload_n 0, 1) := by decide +kernel
theorem dX8_puts_130 : decode cX8_puts 130 = .ok (.iload_n 1, 1) := by decide +kernel
theorem dX8_puts_131 : decode cX8_puts 131 = .ok (.iload_n 3, 1) := by decide +kernel
theorem dX8_puts_132 : decode cX8_puts 132 = .ok (.invokevirtual 216, 3) := by decide +kernel
theorem dX8_puts_135 : decode cX8_puts 135 = .ok (.iastore, 1) := by decide +kernel
theorem dX8_puts_136 : decode cX8_puts 136 = .ok (.iinc 3 1, 3) := by decide +kernel
theorem dX8_puts_139 : decode cX8_puts 139 = .ok (.goto (-24), 3) := by decide +kernel
theorem dX8_puts_142 : decode cX8_puts 142 = .ok (.iload_n 1, 1) := by decide +kernel
theorem dX8_puts_143 : decode cX8_puts 143 = .ok (.bipush 8, 2) := by decide +kernel
theorem dX8_puts_145 : decode cX8_puts 145 = .ok (.idiv, 1) := by decide +kernel
theorem dX8_puts_146 : decode cX8_puts 146 = .ok (.istore_n 3, 1) := by decide +kernel
theorem dX8_puts_147 : decode cX8_puts 147 = .ok (.aload_n 0, 1) := by decide +kernel
theorem dX8_puts_148 : decode cX8_puts 148 = .ok (.getfield 41, 3) := by decide +kernel
theorem dX8_puts_151 : decode cX8_puts 151 = .ok (.iload_n 1, 1) := by decide +kernel
theorem dX8_puts_152 : decode cX8_puts 152 = .ok (.iaload, 1) := by decide +kernel
theorem dX8_puts_153 : decode cX8_puts 153 = .ok (.istore 4, 2) := by decide +kernel
theorem dX8_puts_155 : decode cX8_puts 155 = .ok (.aload_n 0, 1) := by decide +kernel
theorem dX8_puts_156 : decode cX8_puts 156 = .ok (.getfield 86, 3) := by decide +kernel
theorem dX8_puts_159 : decode cX8_puts 159 = .ok (.iconst 2, 1) := by decide +kernel
theorem dX8_puts_160 : decode cX8_puts 160 = .ok (.iload 4, 2) := by decide +kernel
theorem dX8_puts_162 : decode cX8_puts 162 = .ok (.imul, 1) := by decide +kernel
theorem dX8_puts_163 : decode cX8_puts 163 = .ok (.iload_n 3, 1) := by decide +kernel
theorem dX8_puts_164 : decode cX8_puts 164 = .ok (.iadd, 1) := by decide +kernel
theorem dX8_puts_165 : decode cX8_puts 165 = .ok (.iaload, 1) := by decide +kernel
theorem dX8_puts_166 : decode cX8_puts 166 = .ok (.ifCond .le 24, 3) := by decide +kernel
theorem dX8_puts_169 : decode cX8_puts 169 = .ok (.aload_n 0, 1) := by decide +kernel
theorem dX8_puts_170 : decode cX8_puts 170 = .ok (.getfield 86, 3) := by decide +kernel
theorem dX8_puts_173 : decode cX8_puts 173 = .ok (.iconst 2, 1) := by decide +kernel
theorem dX8_puts_174 : decode cX8_puts 174 = .ok (.iload 4, 2) := by decide +kernel
theorem dX8_puts_176 : decode cX8_puts 176 = .ok (.imul, 1) := by decide +kernel
theorem dX8_puts_177 : decode cX8_puts 177 = .ok (.iload_n 3, 1) := by decide +kernel
theorem dX8_puts_178 : decode cX8_puts 178 = .ok (.iadd, 1) := by decide +kernel
theorem dX8_puts_179 : decode cX8_puts 179 = .ok (.dup2, 1) := by decide +kernel
theorem dX8_puts_180 : decode cX8_puts 180 = .ok (.iaload, 1) := by decide +kernel
theorem dX8_puts_181 : decode cX8_puts 181 = .ok (.iconst 1, 1) := by decide +kernel
theorem dX8_puts_182 : decode cX8_puts 182 = .ok (.isub, 1) := by decide +kernel
theorem dX8_puts_183 : decode cX8_puts 183 = .ok (.iastore, 1) := by decide +kernel
theorem dX8_puts_184 : decode cX8_puts 184 = .ok (.aload_n 0, 1) := by decide +kernel
theorem dX8_puts_185 : decode cX8_puts 185 = .ok (.iconst 1, 1) := by decide +kernel
theorem dX8_puts_186 : decode cX8_puts 186 = .ok (.putfield 250, 3) := by decide +kernel
theorem dX8_puts_189 : decode cX8_puts 189 = .ok (.return_, 1) := by decide +kernel
theorem dX8_puts_190 : decode cX8_puts 190 = .ok (.iconst 0, 1) := by decide +kernel
theorem dX8_puts_191 : decode cX8_puts 191 = .ok (.istore 5, 2) := by decide +kernel
theorem dX8_puts_193 : decode cX8_puts 193 = .ok (.iload 5, 2) := by decide +kernel
theorem dX8_puts_195 : decode cX8_puts 195 = .ok (.iconst 5, 1) := by decide +kernel
theorem dX8_puts_196 : decode cX8_puts 196 = .ok (.if_icmp .ge 59, 3) := by decide +kernel
theorem dX8_puts_199 : decode cX8_puts 199 = .ok (.aload_n 0, 1) := by decide +kernel
theorem dX8_puts_200 : decode cX8_puts 200 = .ok (.getfield 102, 3) := by decide +kernel
theorem dX8_puts_203 : decode cX8_puts 203 = .ok (.bipush 10, 2) := by decide +kernel
theorem dX8_puts_205 : decode cX8_puts 205 = .ok (.aload_n 0, 1) := by decide +kernel
theorem dX8_puts_206 : decode cX8_puts 206 = .ok (.getfield 166, 3) := by decide +kernel
theorem dX8_puts_209 : decode cX8_puts 209 = .ok (.imul, 1) := by decide +kernel
theorem dX8_puts_210 : decode cX8_puts 210 = .ok (.iload 5, 2) := by decide +kernel
theorem dX8_puts_212 : decode cX8_puts 212 = .ok (.iadd, 1) := by decide +kernel
theorem dX8_puts_213 : decode cX8_puts 213 = .ok (.aload_n 0, 1) := by decide +kernel
theorem dX8_puts_214 : decode cX8_puts 214 = .ok (.iload_n 1, 1) := by decide +kernel
theorem dX8_puts_215 : decode cX8_puts 215 = .ok (.iload 5, 2) := by decide +kernel
theorem dX8_puts_217 : decode cX8_puts 217 = .ok (.invokevirtual 216, 3) := by decide +kernel
theorem dX8_puts_220 : decode cX8_puts 220 = .ok (.iastore, 1) := by decide +kernel
theorem dX8_puts_221 : decode cX8_puts 221 = .ok (.aload_n 0, 1) := by decide +kernel
theorem dX8_puts_222 : decode cX8_puts 222 = .ok (.getfield 102, 3) := by decide +kernel
theorem dX8_puts_225 : decode cX8_puts 225 = .ok (.bipush 10, 2) := by decide +kernel
theorem dX8_puts_227 : decode cX8_puts 227 = .ok (.aload_n 0, 1) := by decide +kernel
theorem dX8_puts_228 : decode cX8_puts 228 = .ok (.getfield 166, 3) := by decide +kernel
theorem dX8_puts_231 : decode cX8_puts 231 = .ok (.imul, 1) := by decide +kernel
theorem dX8_puts_232 : decode cX8_puts 232 = .ok (.iconst 5, 1) := by decide +kernel
theorem dX8_puts_233 : decode cX8_puts 233 = .ok (.iadd, 1) := by decide +kernel
theorem dX8_puts_234 : decode cX8_puts 234 = .ok (.iload 5, 2) := by decide +kernel
theorem dX8_puts_236 : decode cX8_puts 236 = .ok (.iadd, 1) := by decide +kernel
theorem dX8_puts_237 : decode cX8_puts 237 = .ok (.aload_n 0, 1) := by decide +kernel
theorem dX8_puts_238 : decode cX8_puts 238 = .ok (.getfield 62, 3) := by decide +kernel
theorem dX8_puts_241 : decode cX8_puts 241 = .ok (.iconst 5, 1) := by decide +kernel
theorem dX8_puts_242 : decode cX8_puts 242 = .ok (.iload_n 1, 1) := by decide +kernel
theorem dX8_puts_243 : decode cX8_puts 243 = .ok (.imul, 1) := by decide +kernel
theorem dX8_puts_244 : decode cX8_puts 244 = .ok (.iload 5, 2) := by decide +kernel
theorem dX8_puts_246 : decode cX8_puts 246 = .ok (.iadd, 1) := by decide +kernel
theorem dX8_puts_247 : decode cX8_puts 247 = .ok (.iaload, 1) := by decide +kernel
theorem dX8_puts_248 : decode cX8_puts 248 = .ok (.iastore, 1) := by decide +kernel
theorem dX8_puts_249 : decode cX8_puts 249 = .ok (.iinc 5 1, 3) := by decide +kernel
theorem dX8_puts_252 : decode cX8_puts 252 = .ok (.goto (-59), 3) := by decide +kernel
theorem dX8_puts_255 : decode cX8_puts 255 = .ok (.aload_n 0, 1) := by decide +kernel
theorem dX8_puts_256 : decode cX8_puts 256 = .ok (.iload 4, 2) := by decide +kernel
theorem dX8_puts_258 : decode cX8_puts 258 = .ok (.iload_n 3, 1) := by decide +kernel
theorem dX8_puts_259 : decode cX8_puts 259 = .ok (.iconst (-1), 1) := by decide +kernel
theorem dX8_puts_260 : decode cX8_puts 260 = .ok (.invokevirtual 254, 3) := by decide +kernel
theorem dX8_puts_263 : decode cX8_puts 263 = .ok (.return_, 1) := by decide +kernel
noncomputable def bX8_puts_0 (Q : Option Value → MM → Prop) (nx : Nat → Kt) : Kt := ldA 0 (ldI 1 (cV 1 8 wX8_isLit 0 0 0 0 (ifz (fun x => x = 0) (nx 26) (ldA 0 (gR 8 5 (ldI 1 (aI 11 (ifz (fun x => x = 0) (ldA 0 (ldI 1 (cI 1 (cV 2 8 wX8_isPartner 0 0 0 0 (ifz (fun x => x = 0) (nx 26) (nx 27)))))) (nx 27)))))))))
noncomputable def bX8_puts_26 (Q : Option Value → MM → Prop) (nx : Nat → Kt) : Kt := rV Q
noncomputable def bX8_puts_27 (Q : Option Value → MM → Prop) (nx : Nat → Kt) : Kt := ldA 0 (gR 8 7 (ldI 1 (aI 10 (cI 2 (ifc (fun x y => x = y) (ldA 0 (ldI 1 (cI 2 (cV 2 8 wX8_isPartner 0 0 0 0 (ifz (fun x => x = 0) (cI 30 (nx 52)) (nx 51)))))) (nx 51))))))
noncomputable def bX8_puts_51 (Q : Option Value → MM → Prop) (nx : Nat → Kt) : Kt := cI 1 (nx 52)
noncomputable def bX8_puts_52 (Q : Option Value → MM → Prop) (nx : Nat → Kt) : Kt := stI 2 (ldA 0 (ldI 1 (cV 1 8 wX8_isTold 0 0 0 0 (ifz (fun x => x = 0) (nx 86) (ldA 0 (gR 8 14 (ldI 1 (aI 11 (ifz (fun x => x = 0) (ldA 0 (gI 8 43 (ldA 0 (gR 8 21 (ldI 1 (aI 10 (bop (fun x y => x - y) (ldI 2 (ifc (fun x y => y ≤ x) (nx 86) (rV Q)))))))))) (nx 86))))))))))
noncomputable def bX8_puts_86 (Q : Option Value → MM → Prop) (nx : Nat → Kt) : Kt := ldA 0 (gR 8 14 (ldI 1 (cI 0 (sAZ (ldA 0 (gR 8 16 (ldI 1 (du2 (aI 10 (cI 1 (bop (fun x y => x + y) (sAI (ldA 0 (gR 8 21 (ldI 1 (ldA 0 (gI 8 43 (sAI (cI 0 (stI 3 (nx 115)))))))))))))))))))))
noncomputable def bX8_puts_115 (Q : Option Value → MM → Prop) (nx : Nat → Kt) : Kt := ldI 3 (cI 5 (ifc (fun x y => y ≤ x) (nx 142) (ldA 0 (gR 8 20 (cI 5 (ldI 1 (bop (fun x y => x * y) (ldI 3 (bop (fun x y => x + y) (ldA 0 (ldI 1 (ldI 3 (cV 2 8 wX8_own 0 0 0 0 (sAI (inc 3 1 (nx 115))))))))))))))))
noncomputable def bX8_puts_142 (Q : Option Value → MM → Prop) (nx : Nat → Kt) : Kt := ldI 1 (cI 8 (bod (fun x y => x / y) (stI 3 (ldA 0 (gR 8 11 (ldI 1 (aI 10 (stI 4 (ldA 0 (gR 8 26 (cI 2 (ldI 4 (bop (fun x y => x * y) (ldI 3 (bop (fun x y => x + y) (aI 10 (ifz (fun x => x ≤ 0) (nx 190) (ldA 0 (gR 8 26 (cI 2 (ldI 4 (bop (fun x y => x * y) (ldI 3 (bop (fun x y => x + y) (du2 (aI 10 (cI 1 (bop (fun x y => x - y) (sAI (ldA 0 (cI 1 (tZ 8 50 (rV Q)))))))))))))))))))))))))))))))))
noncomputable def bX8_puts_190 (Q : Option Value → MM → Prop) (nx : Nat → Kt) : Kt := cI 0 (stI 5 (nx 193))
noncomputable def bX8_puts_193 (Q : Option Value → MM → Prop) (nx : Nat → Kt) : Kt := ldI 5 (cI 5 (ifc (fun x y => y ≤ x) (nx 255) (ldA 0 (gR 8 31 (cI 10 (ldA 0 (gI 8 32 (bop (fun x y => x * y) (ldI 5 (bop (fun x y => x + y) (ldA 0 (ldI 1 (ldI 5 (cV 2 8 wX8_own 0 0 0 0 (sAI (ldA 0 (gR 8 31 (cI 10 (ldA 0 (gI 8 32 (bop (fun x y => x * y) (cI 5 (bop (fun x y => x + y) (ldI 5 (bop (fun x y => x + y) (ldA 0 (gR 8 18 (cI 5 (ldI 1 (bop (fun x y => x * y) (ldI 5 (bop (fun x y => x + y) (aI 10 (sAI (inc 5 1 (nx 193))))))))))))))))))))))))))))))))))))
noncomputable def bX8_puts_255 (Q : Option Value → MM → Prop) (nx : Nat → Kt) : Kt := ldA 0 (ldI 4 (ldI 3 (cI (-1) (cV 3 8 wX8_comesOn 0 0 0 0 (rV Q)))))
noncomputable def kX8_puts (Q : Option Value → MM → Prop) (nx : Nat → Kt) : Nat → Kt := bse [(0, bX8_puts_0 Q nx), (26, bX8_puts_26 Q nx), (27, bX8_puts_27 Q nx), (51, bX8_puts_51 Q nx), (52, bX8_puts_52 Q nx), (86, bX8_puts_86 Q nx), (115, bX8_puts_115 Q nx), (142, bX8_puts_142 Q nx), (190, bX8_puts_190 Q nx), (193, bX8_puts_193 Q nx), (255, bX8_puts_255 Q nx)]
abbrev rX8_puts : Room := { frames := 3, cells := 0, slots := 0, locals := 66 }
noncomputable def wX8_puts : Mw := mw 6 kX8_puts
set_option maxRecDepth 20000 in
theorem oX8_puts_0 {T : Ct} {Q : Option Value → MM → Prop} (C : Cx T cX8_puts 6 RX8 0 0) (CR : CxR T 3 66) (hr : T.2.2.2.2.2.2.2.2.1.sig.returnType = none) (hnm : T.2.2.2.2.2.2.2.2.1.name = "puts") {nx : Nat → Kt} (hn : ∀ pc, Sd T 6 (QT T Q 0 0) 0 0 pc (nx pc)) : Sd T 6 (QT T Q 0 0) 0 0 0 (bX8_puts_0 Q nx) := x_al_n C dX8_puts_0 rfl (x_il_n C dX8_puts_1 rfl (x_cV C CR mX8_isLit ⟨co_X8_isLit, init_X8, md_X8_isLit, by decide, by decide⟩ (ci := 8) (TX := TX8) (N := 51) rfl (by decide) ml_X8_241 im_X8_isLit se_X8_isLit dX8_puts_2 (x_if_eq C (hn 26) dX8_puts_5 (by decide) (x_al_n C dX8_puts_8 rfl (gf_X8_22 C dX8_puts_9 (x_il_n C dX8_puts_12 rfl (x_zald C dX8_puts_13 (x_if_ne C (hn 27) dX8_puts_14 (by decide) (x_al_n C dX8_puts_17 rfl (x_il_n C dX8_puts_18 rfl (x_ic C dX8_puts_19 (by decide) (x_cV C CR mX8_isPartner ⟨co_X8_isPartner, init_X8, md_X8_isPartner, by decide, by decide⟩ (ci := 8) (TX := TX8) (N := 51) rfl (by decide) ml_X8_225 im_X8_isPartner se_X8_isPartner dX8_puts_20 (x_if_ne C (hn 27) dX8_puts_23 (by decide) (hn 26))))))))))))))
set_option maxRecDepth 20000 in
theorem oX8_puts_26 {T : Ct} {Q : Option Value → MM → Prop} (C : Cx T cX8_puts 6 RX8 0 0) (CR : CxR T 3 66) (hr : T.2.2.2.2.2.2.2.2.1.sig.returnType = none) (hnm : T.2.2.2.2.2.2.2.2.1.name = "puts") {nx : Nat → Kt} (hn : ∀ pc, Sd T 6 (QT T Q 0 0) 0 0 pc (nx pc)) : Sd T 6 (QT T Q 0 0) 0 0 26 (bX8_puts_26 Q nx) := x_rV C hr dX8_puts_26
set_option maxRecDepth 20000 in
theorem oX8_puts_27 {T : Ct} {Q : Option Value → MM → Prop} (C : Cx T cX8_puts 6 RX8 0 0) (CR : CxR T 3 66) (hr : T.2.2.2.2.2.2.2.2.1.sig.returnType = none) (hnm : T.2.2.2.2.2.2.2.2.1.name = "puts") {nx : Nat → Kt} (hn : ∀ pc, Sd T 6 (QT T Q 0 0) 0 0 pc (nx pc)) : Sd T 6 (QT T Q 0 0) 0 0 27 (bX8_puts_27 Q nx) := x_al_n C dX8_puts_27 rfl (gf_X8_29 C dX8_puts_28 (x_il_n C dX8_puts_31 rfl (x_iald C dX8_puts_32 (x_ic C dX8_puts_33 (by decide) (x_ic_ne C (hn 51) dX8_puts_34 (by decide) (x_al_n C dX8_puts_37 rfl (x_il_n C dX8_puts_38 rfl (x_ic C dX8_puts_39 (by decide) (x_cV C CR mX8_isPartner ⟨co_X8_isPartner, init_X8, md_X8_isPartner, by decide, by decide⟩ (ci := 8) (TX := TX8) (N := 51) rfl (by decide) ml_X8_225 im_X8_isPartner se_X8_isPartner dX8_puts_40 (x_if_ne C (hn 51) dX8_puts_43 (by decide) (x_bp C dX8_puts_46 (by decide) (x_goto C (hn 52) dX8_puts_48 (by decide)))))))))))))
set_option maxRecDepth 20000 in
theorem oX8_puts_51 {T : Ct} {Q : Option Value → MM → Prop} (C : Cx T cX8_puts 6 RX8 0 0) (CR : CxR T 3 66) (hr : T.2.2.2.2.2.2.2.2.1.sig.returnType = none) (hnm : T.2.2.2.2.2.2.2.2.1.name = "puts") {nx : Nat → Kt} (hn : ∀ pc, Sd T 6 (QT T Q 0 0) 0 0 pc (nx pc)) : Sd T 6 (QT T Q 0 0) 0 0 51 (bX8_puts_51 Q nx) := x_ic C dX8_puts_51 (by decide) (hn 52)
set_option maxRecDepth 20000 in
theorem oX8_puts_52 {T : Ct} {Q : Option Value → MM → Prop} (C : Cx T cX8_puts 6 RX8 0 0) (CR : CxR T 3 66) (hr : T.2.2.2.2.2.2.2.2.1.sig.returnType = none) (hnm : T.2.2.2.2.2.2.2.2.1.name = "puts") {nx : Nat → Kt} (hn : ∀ pc, Sd T 6 (QT T Q 0 0) 0 0 pc (nx pc)) : Sd T 6 (QT T Q 0 0) 0 0 52 (bX8_puts_52 Q nx) := x_is_n C dX8_puts_52 rfl (by decide) (x_al_n C dX8_puts_53 rfl (x_il_n C dX8_puts_54 rfl (x_cV C CR mX8_isTold ⟨co_X8_isTold, init_X8, md_X8_isTold, by decide, by decide⟩ (ci := 8) (TX := TX8) (N := 51) rfl (by decide) ml_X8_247 im_X8_isTold se_X8_isTold dX8_puts_55 (x_if_eq C (hn 86) dX8_puts_58 (by decide) (x_al_n C dX8_puts_61 rfl (gf_X8_50 C dX8_puts_62 (x_il_n C dX8_puts_65 rfl (x_zald C dX8_puts_66 (x_if_ne C (hn 86) dX8_puts_67 (by decide) (x_al_n C dX8_puts_70 rfl (gf_X8_213 C dX8_puts_71 (x_al_n C dX8_puts_74 rfl (gf_X8_71 C dX8_puts_75 (x_il_n C dX8_puts_78 rfl (x_iald C dX8_puts_79 (x_isub C dX8_puts_80 (x_il_n C dX8_puts_81 rfl (x_ic_ge C (hn 86) dX8_puts_82 (by decide) (x_rV C hr dX8_puts_85)))))))))))))))))))
set_option maxRecDepth 20000 in
theorem oX8_puts_86 {T : Ct} {Q : Option Value → MM → Prop} (C : Cx T cX8_puts 6 RX8 0 0) (CR : CxR T 3 66) (hr : T.2.2.2.2.2.2.2.2.1.sig.returnType = none) (hnm : T.2.2.2.2.2.2.2.2.1.name = "puts") {nx : Nat → Kt} (hn : ∀ pc, Sd T 6 (QT T Q 0 0) 0 0 pc (nx pc)) : Sd T 6 (QT T Q 0 0) 0 0 86 (bX8_puts_86 Q nx) := x_al_n C dX8_puts_86 rfl (gf_X8_50 C dX8_puts_87 (x_il_n C dX8_puts_90 rfl (x_ic C dX8_puts_91 (by decide) (x_zast C dX8_puts_92 (x_al_n C dX8_puts_93 rfl (gf_X8_56 C dX8_puts_94 (x_il_n C dX8_puts_97 rfl (x_dup2 C dX8_puts_98 (x_iald C dX8_puts_99 (x_ic C dX8_puts_100 (by decide) (x_iadd C dX8_puts_101 (x_iast C dX8_puts_102 (x_al_n C dX8_puts_103 rfl (gf_X8_71 C dX8_puts_104 (x_il_n C dX8_puts_107 rfl (x_al_n C dX8_puts_108 rfl (gf_X8_213 C dX8_puts_109 (x_iast C dX8_puts_112 (x_ic C dX8_puts_113 (by decide) (x_is_n C dX8_puts_114 rfl (by decide) (hn 115)))))))))))))))))))))
set_option maxRecDepth 20000 in
theorem oX8_puts_115 {T : Ct} {Q : Option Value → MM → Prop} (C : Cx T cX8_puts 6 RX8 0 0) (CR : CxR T 3 66) (hr : T.2.2.2.2.2.2.2.2.1.sig.returnType = none) (hnm : T.2.2.2.2.2.2.2.2.1.name = "puts") {nx : Nat → Kt} (hn : ∀ pc, Sd T 6 (QT T Q 0 0) 0 0 pc (nx pc)) : Sd T 6 (QT T Q 0 0) 0 0 115 (bX8_puts_115 Q nx) := x_il_n C dX8_puts_115 rfl (x_ic C dX8_puts_116 (by decide) (x_ic_ge C (hn 142) dX8_puts_117 (by decide) (x_al_n C dX8_puts_120 rfl (gf_X8_68 C dX8_puts_121 (x_ic C dX8_puts_124 (by decide) (x_il_n C dX8_puts_125 rfl (x_imul C dX8_puts_126 (x_il_n C dX8_puts_127 rfl (x_iadd C dX8_puts_128 (x_al_n C dX8_puts_129 rfl (x_il_n C dX8_puts_130 rfl (x_il_n C dX8_puts_131 rfl (x_cV C CR mX8_own ⟨co_X8_own, init_X8, md_X8_own, by decide, by decide⟩ (ci := 8) (TX := TX8) (N := 51) rfl (by decide) ml_X8_216 im_X8_own se_X8_own dX8_puts_132 (x_iast C dX8_puts_135 (x_inc C dX8_puts_136 (by decide) (by decide) (x_goto C (hn 115) dX8_puts_139 (by decide)))))))))))))))))
set_option maxRecDepth 20000 in
theorem oX8_puts_142 {T : Ct} {Q : Option Value → MM → Prop} (C : Cx T cX8_puts 6 RX8 0 0) (CR : CxR T 3 66) (hr : T.2.2.2.2.2.2.2.2.1.sig.returnType = none) (hnm : T.2.2.2.2.2.2.2.2.1.name = "puts") {nx : Nat → Kt} (hn : ∀ pc, Sd T 6 (QT T Q 0 0) 0 0 pc (nx pc)) : Sd T 6 (QT T Q 0 0) 0 0 142 (bX8_puts_142 Q nx) := x_il_n C dX8_puts_142 rfl (x_bp C dX8_puts_143 (by decide) (x_idiv C dX8_puts_145 (x_is_n C dX8_puts_146 rfl (by decide) (x_al_n C dX8_puts_147 rfl (gf_X8_41 C dX8_puts_148 (x_il_n C dX8_puts_151 rfl (x_iald C dX8_puts_152 (x_is C dX8_puts_153 (by decide) (x_al_n C dX8_puts_155 rfl (gf_X8_86 C dX8_puts_156 (x_ic C dX8_puts_159 (by decide) (x_il C dX8_puts_160 (x_imul C dX8_puts_162 (x_il_n C dX8_puts_163 rfl (x_iadd C dX8_puts_164 (x_iald C dX8_puts_165 (x_if_le C (hn 190) dX8_puts_166 (by decide) (x_al_n C dX8_puts_169 rfl (gf_X8_86 C dX8_puts_170 (x_ic C dX8_puts_173 (by decide) (x_il C dX8_puts_174 (x_imul C dX8_puts_176 (x_il_n C dX8_puts_177 rfl (x_iadd C dX8_puts_178 (x_dup2 C dX8_puts_179 (x_iald C dX8_puts_180 (x_ic C dX8_puts_181 (by decide) (x_isub C dX8_puts_182 (x_iast C dX8_puts_183 (x_al_n C dX8_puts_184 rfl (x_ic C dX8_puts_185 (by decide) (pf_X8_250 C dX8_puts_186 (x_rV C hr dX8_puts_189)))))))))))))))))))))))))))))))))
set_option maxRecDepth 20000 in
theorem oX8_puts_190 {T : Ct} {Q : Option Value → MM → Prop} (C : Cx T cX8_puts 6 RX8 0 0) (CR : CxR T 3 66) (hr : T.2.2.2.2.2.2.2.2.1.sig.returnType = none) (hnm : T.2.2.2.2.2.2.2.2.1.name = "puts") {nx : Nat → Kt} (hn : ∀ pc, Sd T 6 (QT T Q 0 0) 0 0 pc (nx pc)) : Sd T 6 (QT T Q 0 0) 0 0 190 (bX8_puts_190 Q nx) := x_ic C dX8_puts_190 (by decide) (x_is C dX8_puts_191 (by decide) (hn 193))
set_option maxRecDepth 20000 in
theorem oX8_puts_193 {T : Ct} {Q : Option Value → MM → Prop} (C : Cx T cX8_puts 6 RX8 0 0) (CR : CxR T 3 66) (hr : T.2.2.2.2.2.2.2.2.1.sig.returnType = none) (hnm : T.2.2.2.2.2.2.2.2.1.name = "puts") {nx : Nat → Kt} (hn : ∀ pc, Sd T 6 (QT T Q 0 0) 0 0 pc (nx pc)) : Sd T 6 (QT T Q 0 0) 0 0 193 (bX8_puts_193 Q nx) := x_il C dX8_puts_193 (x_ic C dX8_puts_195 (by decide) (x_ic_ge C (hn 255) dX8_puts_196 (by decide) (x_al_n C dX8_puts_199 rfl (gf_X8_102 C dX8_puts_200 (x_bp C dX8_puts_203 (by decide) (x_al_n C dX8_puts_205 rfl (gf_X8_166 C dX8_puts_206 (x_imul C dX8_puts_209 (x_il C dX8_puts_210 (x_iadd C dX8_puts_212 (x_al_n C dX8_puts_213 rfl (x_il_n C dX8_puts_214 rfl (x_il C dX8_puts_215 (x_cV C CR mX8_own ⟨co_X8_own, init_X8, md_X8_own, by decide, by decide⟩ (ci := 8) (TX := TX8) (N := 51) rfl (by decide) ml_X8_216 im_X8_own se_X8_own dX8_puts_217 (x_iast C dX8_puts_220 (x_al_n C dX8_puts_221 rfl (gf_X8_102 C dX8_puts_222 (x_bp C dX8_puts_225 (by decide) (x_al_n C dX8_puts_227 rfl (gf_X8_166 C dX8_puts_228 (x_imul C dX8_puts_231 (x_ic C dX8_puts_232 (by decide) (x_iadd C dX8_puts_233 (x_il C dX8_puts_234 (x_iadd C dX8_puts_236 (x_al_n C dX8_puts_237 rfl (gf_X8_62 C dX8_puts_238 (x_ic C dX8_puts_241 (by decide) (x_il_n C dX8_puts_242 rfl (x_imul C dX8_puts_243 (x_il C dX8_puts_244 (x_iadd C dX8_puts_246 (x_iald C dX8_puts_247 (x_iast C dX8_puts_248 (x_inc C dX8_puts_249 (by decide) (by decide) (x_goto C (hn 193) dX8_puts_252 (by decide)))))))))))))))))))))))))))))))))))))
set_option maxRecDepth 20000 in
theorem oX8_puts_255 {T : Ct} {Q : Option Value → MM → Prop} (C : Cx T cX8_puts 6 RX8 0 0) (CR : CxR T 3 66) (hr : T.2.2.2.2.2.2.2.2.1.sig.returnType = none) (hnm : T.2.2.2.2.2.2.2.2.1.name = "puts") {nx : Nat → Kt} (hn : ∀ pc, Sd T 6 (QT T Q 0 0) 0 0 pc (nx pc)) : Sd T 6 (QT T Q 0 0) 0 0 255 (bX8_puts_255 Q nx) := x_al_n C dX8_puts_255 rfl (x_il C dX8_puts_256 (x_il_n C dX8_puts_258 rfl (x_ic C dX8_puts_259 (by decide) (x_cV C CR mX8_comesOn ⟨co_X8_comesOn, init_X8, md_X8_comesOn, by decide, by decide⟩ (ci := 8) (TX := TX8) (N := 51) rfl (by decide) ml_X8_254 im_X8_comesOn se_X8_comesOn dX8_puts_260 (x_rV C hr dX8_puts_263)))))
set_option maxRecDepth 20000 in
theorem mX8_puts (l : Launch) (D : va_G) (cA : Nat → ClassId) (base : Nat) : Mc l D cA base yX8_puts cX8_puts 6 none rX8_puts wX8_puts := mc_of (by decide +kernel) kX8_puts (fun T Q C CR hr hnm nx hn => bse_ok _ (List.forall_mem_cons.mpr ⟨oX8_puts_0 C CR hr hnm hn, List.forall_mem_cons.mpr ⟨oX8_puts_26 C CR hr hnm hn, List.forall_mem_cons.mpr ⟨oX8_puts_27 C CR hr hnm hn, List.forall_mem_cons.mpr ⟨oX8_puts_51 C CR hr hnm hn, List.forall_mem_cons.mpr ⟨oX8_puts_52 C CR hr hnm hn, List.forall_mem_cons.mpr ⟨oX8_puts_86 C CR hr hnm hn, List.forall_mem_cons.mpr ⟨oX8_puts_115 C CR hr hnm hn, List.forall_mem_cons.mpr ⟨oX8_puts_142 C CR hr hnm hn, List.forall_mem_cons.mpr ⟨oX8_puts_190 C CR hr hnm hn, List.forall_mem_cons.mpr ⟨oX8_puts_193 C CR hr hnm hn, List.forall_mem_cons.mpr ⟨oX8_puts_255 C CR hr hnm hn, fun _ h => nomatch h⟩⟩⟩⟩⟩⟩⟩⟩⟩⟩⟩))
theorem dX8_agrees_0 : decode cX8_agrees 0 = .ok (.aload_n 0, 1) := by decide +kernel
theorem dX8_agrees_1 : decode cX8_agrees 1 = .ok (.getfield 80, 3) := by decide +kernel
theorem dX8_agrees_4 : decode cX8_agrees 4 = .ok (.iload_n 1, 1) := by decide +kernel
theorem dX8_agrees_5 : decode cX8_agrees 5 = .ok (.baload, 1) := by decide +kernel
theorem dX8_agrees_6 : decode cX8_agrees 6 = .ok (.ifCond .eq 72, 3) := by decide +kernel
theorem dX8_agrees_9 : decode cX8_agrees 9 = .ok (.aload_n 0, 1) := by decide +kernel
theorem dX8_agrees_10 : decode cX8_agrees 10 = .ok (.getfield 83, 3) := by decide +kernel
theorem dX8_agrees_13 : decode cX8_agrees 13 = .ok (.iload_n 1, 1) := by decide +kernel
theorem dX8_agrees_14 : decode cX8_agrees 14 = .ok (.baload, 1) := by decide +kernel
theorem dX8_agrees_15 : decode cX8_agrees 15 = .ok (.ifCond .eq 63, 3) := by decide +kernel
theorem dX8_agrees_18 : decode cX8_agrees 18 = .ok (.aload_n 0, 1) := by decide +kernel
theorem dX8_agrees_19 : decode cX8_agrees 19 = .ok (.getfield 16, 3) := by decide +kernel
theorem dX8_agrees_22 : decode cX8_agrees 22 = .ok (.aload_n 0, 1) := by decide +kernel
theorem dX8_agrees_23 : decode cX8_agrees 23 = .ok (.iload_n 1, 1) := by decide +kernel
theorem dX8_agrees_24 : decode cX8_agrees 24 = .ok (.iconst 0, 1) := by decide +kernel
theorem dX8_agrees_25 : decode cX8_agrees 25 = .ok (.invokevirtual 178, 3) := by decide +kernel
theorem dX8_agrees_28 : decode cX8_agrees 28 = .ok (.iaload, 1) := by decide +kernel
theorem dX8_agrees_29 : decode cX8_agrees 29 = .ok (.ifCond .le 49, 3) := by decide +kernel
theorem dX8_agrees_32 : decode cX8_agrees 32 = .ok (.aload_n 0, 1) := by decide +kernel
theorem dX8_agrees_33 : decode cX8_agrees 33 = .ok (.getfield 16, 3) := by decide +kernel
theorem dX8_agrees_36 : decode cX8_agrees 36 = .ok (.aload_n 0, 1) := by decide +kernel
theorem dX8_agrees_37 : decode cX8_agrees 37 = .ok (.iload_n 1, 1) := by decide +kernel
theorem dX8_agrees_38 : decode cX8_agrees 38 = .ok (.iconst 1, 1) := by decide +kernel
theorem dX8_agrees_39 : decode cX8_agrees 39 = .ok (.invokevirtual 178, 3) := by decide +kernel
theorem dX8_agrees_42 : decode cX8_agrees 42 = .ok (.iaload, 1) := by decide +kernel
theorem dX8_agrees_43 : decode cX8_agrees 43 = .ok (.ifCond .le 35, 3) := by decide +kernel
theorem dX8_agrees_46 : decode cX8_agrees 46 = .ok (.aload_n 0, 1) := by decide +kernel
theorem dX8_agrees_47 : decode cX8_agrees 47 = .ok (.getfield 22, 3) := by decide +kernel
theorem dX8_agrees_50 : decode cX8_agrees 50 = .ok (.aload_n 0, 1) := by decide +kernel
theorem dX8_agrees_51 : decode cX8_agrees 51 = .ok (.iload_n 1, 1) := by decide +kernel
theorem dX8_agrees_52 : decode cX8_agrees 52 = .ok (.iconst 0, 1) := by decide +kernel
theorem dX8_agrees_53 : decode cX8_agrees 53 = .ok (.invokevirtual 178, 3) := by decide +kernel
theorem dX8_agrees_56 : decode cX8_agrees 56 = .ok (.baload, 1) := by decide +kernel
theorem dX8_agrees_57 : decode cX8_agrees 57 = .ok (.ifCond .ne 17, 3) := by decide +kernel
theorem dX8_agrees_60 : decode cX8_agrees 60 = .ok (.aload_n 0, 1) := by decide +kernel
theorem dX8_agrees_61 : decode cX8_agrees 61 = .ok (.getfield 22, 3) := by decide +kernel
theorem dX8_agrees_64 : decode cX8_agrees 64 = .ok (.aload_n 0, 1) := by decide +kernel
theorem dX8_agrees_65 : decode cX8_agrees 65 = .ok (.iload_n 1, 1) := by decide +kernel
theorem dX8_agrees_66 : decode cX8_agrees 66 = .ok (.iconst 1, 1) := by decide +kernel
theorem dX8_agrees_67 : decode cX8_agrees 67 = .ok (.invokevirtual 178, 3) := by decide +kernel
theorem dX8_agrees_70 : decode cX8_agrees 70 = .ok (.baload, 1) := by decide +kernel
theorem dX8_agrees_71 : decode cX8_agrees 71 = .ok (.ifCond .eq 7, 3) := by decide +kernel
theorem dX8_agrees_74 : decode cX8_agrees 74 = .ok (.iconst 1, 1) := by decide +kernel
theorem dX8_agrees_75 : decode cX8_agrees 75 = .ok (.goto 4, 3) := by decide +kernel
theorem dX8_agrees_78 : decode cX8_agrees 78 = .ok (.iconst 0, 1) := by decide +kernel
theorem dX8_agrees_79 : decode cX8_agrees 79 = .ok (.ireturn, 1) := by decide +kernel
noncomputable def bX8_agrees_0 (Q : Option Value → MM → Prop) (nx : Nat → Kt) : Kt := ldA 0 (gR 8 24 (ldI 1 (aI 11 (ifz (fun x => x = 0) (nx 78) (ldA 0 (gR 8 25 (ldI 1 (aI 11 (ifz (fun x => x = 0) (nx 78) (ldA 0 (gR 8 3 (ldA 0 (ldI 1 (cI 0 (cV 2 8 wX8_portAt 0 0 0 0 (aI 10 (ifz (fun x => x ≤ 0) (nx 78) (ldA 0 (gR 8 3 (ldA 0 (ldI 1 (cI 1 (cV 2 8 wX8_portAt 0 0 0 0 (aI 10 (ifz (fun x => x ≤ 0) (nx 78) (ldA 0 (gR 8 5 (ldA 0 (ldI 1 (cI 0 (cV 2 8 wX8_portAt 0 0 0 0 (aI 11 (ifz (fun x => x = 0) (ldA 0 (gR 8 5 (ldA 0 (ldI 1 (cI 1 (cV 2 8 wX8_portAt 0 0 0 0 (aI 11 (ifz (fun x => x = 0) (nx 78) (nx 74))))))))) (nx 74))))))))))))))))))))))))))))))))))
noncomputable def bX8_agrees_74 (Q : Option Value → MM → Prop) (nx : Nat → Kt) : Kt := cI 1 (nx 79)
noncomputable def bX8_agrees_78 (Q : Option Value → MM → Prop) (nx : Nat → Kt) : Kt := cI 0 (nx 79)
noncomputable def bX8_agrees_79 (Q : Option Value → MM → Prop) (nx : Nat → Kt) : Kt := rZ Q
noncomputable def kX8_agrees (Q : Option Value → MM → Prop) (nx : Nat → Kt) : Nat → Kt := bse [(0, bX8_agrees_0 Q nx), (74, bX8_agrees_74 Q nx), (78, bX8_agrees_78 Q nx), (79, bX8_agrees_79 Q nx)]
abbrev rX8_agrees : Room := { frames := 1, cells := 0, slots := 0, locals := 22 }
noncomputable def wX8_agrees : Mw := mw 2 kX8_agrees
set_option maxRecDepth 20000 in
theorem oX8_agrees_0 {T : Ct} {Q : Option Value → MM → Prop} (C : Cx T cX8_agrees 2 RX8 0 0) (CR : CxR T 1 22) (hr : T.2.2.2.2.2.2.2.2.1.sig.returnType = (some .boolean)) (hnm : T.2.2.2.2.2.2.2.2.1.name = "agrees") {nx : Nat → Kt} (hn : ∀ pc, Sd T 2 (QT T Q 0 0) 0 0 pc (nx pc)) : Sd T 2 (QT T Q 0 0) 0 0 0 (bX8_agrees_0 Q nx) := x_al_n C dX8_agrees_0 rfl (gf_X8_80 C dX8_agrees_1 (x_il_n C dX8_agrees_4 rfl (x_zald C dX8_agrees_5 (x_if_eq C (hn 78) dX8_agrees_6 (by decide) (x_al_n C dX8_agrees_9 rfl (gf_X8_83 C dX8_agrees_10 (x_il_n C dX8_agrees_13 rfl (x_zald C dX8_agrees_14 (x_if_eq C (hn 78) dX8_agrees_15 (by decide) (x_al_n C dX8_agrees_18 rfl (gf_X8_16 C dX8_agrees_19 (x_al_n C dX8_agrees_22 rfl (x_il_n C dX8_agrees_23 rfl (x_ic C dX8_agrees_24 (by decide) (x_cV C CR mX8_portAt ⟨co_X8_portAt, init_X8, md_X8_portAt, by decide, by decide⟩ (ci := 8) (TX := TX8) (N := 51) rfl (by decide) ml_X8_178 im_X8_portAt se_X8_portAt dX8_agrees_25 (x_iald C dX8_agrees_28 (x_if_le C (hn 78) dX8_agrees_29 (by decide) (x_al_n C dX8_agrees_32 rfl (gf_X8_16 C dX8_agrees_33 (x_al_n C dX8_agrees_36 rfl (x_il_n C dX8_agrees_37 rfl (x_ic C dX8_agrees_38 (by decide) (x_cV C CR mX8_portAt ⟨co_X8_portAt, init_X8, md_X8_portAt, by decide, by decide⟩ (ci := 8) (TX := TX8) (N := 51) rfl (by decide) ml_X8_178 im_X8_portAt se_X8_portAt dX8_agrees_39 (x_iald C dX8_agrees_42 (x_if_le C (hn 78) dX8_agrees_43 (by decide) (x_al_n C dX8_agrees_46 rfl (gf_X8_22 C dX8_agrees_47 (x_al_n C dX8_agrees_50 rfl (x_il_n C dX8_agrees_51 rfl (x_ic C dX8_agrees_52 (by decide) (x_cV C CR mX8_portAt ⟨co_X8_portAt, init_X8, md_X8_portAt, by decide, by decide⟩ (ci := 8) (TX := TX8) (N := 51) rfl (by decide) ml_X8_178 im_X8_portAt se_X8_portAt dX8_agrees_53 (x_zald C dX8_agrees_56 (x_if_ne C (hn 74) dX8_agrees_57 (by decide) (x_al_n C dX8_agrees_60 rfl (gf_X8_22 C dX8_agrees_61 (x_al_n C dX8_agrees_64 rfl (x_il_n C dX8_agrees_65 rfl (x_ic C dX8_agrees_66 (by decide) (x_cV C CR mX8_portAt ⟨co_X8_portAt, init_X8, md_X8_portAt, by decide, by decide⟩ (ci := 8) (TX := TX8) (N := 51) rfl (by decide) ml_X8_178 im_X8_portAt se_X8_portAt dX8_agrees_67 (x_zald C dX8_agrees_70 (x_if_eq C (hn 78) dX8_agrees_71 (by decide) (hn 74))))))))))))))))))))))))))))))))))))))))))
set_option maxRecDepth 20000 in
theorem oX8_agrees_74 {T : Ct} {Q : Option Value → MM → Prop} (C : Cx T cX8_agrees 2 RX8 0 0) (CR : CxR T 1 22) (hr : T.2.2.2.2.2.2.2.2.1.sig.returnType = (some .boolean)) (hnm : T.2.2.2.2.2.2.2.2.1.name = "agrees") {nx : Nat → Kt} (hn : ∀ pc, Sd T 2 (QT T Q 0 0) 0 0 pc (nx pc)) : Sd T 2 (QT T Q 0 0) 0 0 74 (bX8_agrees_74 Q nx) := x_ic C dX8_agrees_74 (by decide) (x_goto C (hn 79) dX8_agrees_75 (by decide))
set_option maxRecDepth 20000 in
theorem oX8_agrees_78 {T : Ct} {Q : Option Value → MM → Prop} (C : Cx T cX8_agrees 2 RX8 0 0) (CR : CxR T 1 22) (hr : T.2.2.2.2.2.2.2.2.1.sig.returnType = (some .boolean)) (hnm : T.2.2.2.2.2.2.2.2.1.name = "agrees") {nx : Nat → Kt} (hn : ∀ pc, Sd T 2 (QT T Q 0 0) 0 0 pc (nx pc)) : Sd T 2 (QT T Q 0 0) 0 0 78 (bX8_agrees_78 Q nx) := x_ic C dX8_agrees_78 (by decide) (hn 79)
set_option maxRecDepth 20000 in
theorem oX8_agrees_79 {T : Ct} {Q : Option Value → MM → Prop} (C : Cx T cX8_agrees 2 RX8 0 0) (CR : CxR T 1 22) (hr : T.2.2.2.2.2.2.2.2.1.sig.returnType = (some .boolean)) (hnm : T.2.2.2.2.2.2.2.2.1.name = "agrees") {nx : Nat → Kt} (hn : ∀ pc, Sd T 2 (QT T Q 0 0) 0 0 pc (nx pc)) : Sd T 2 (QT T Q 0 0) 0 0 79 (bX8_agrees_79 Q nx) := x_rZ C hr dX8_agrees_79
set_option maxRecDepth 20000 in
theorem mX8_agrees (l : Launch) (D : va_G) (cA : Nat → ClassId) (base : Nat) : Mc l D cA base yX8_agrees cX8_agrees 2 (some .boolean) rX8_agrees wX8_agrees := mc_of (by decide +kernel) kX8_agrees (fun T Q C CR hr hnm nx hn => bse_ok _ (List.forall_mem_cons.mpr ⟨oX8_agrees_0 C CR hr hnm hn, List.forall_mem_cons.mpr ⟨oX8_agrees_74 C CR hr hnm hn, List.forall_mem_cons.mpr ⟨oX8_agrees_78 C CR hr hnm hn, List.forall_mem_cons.mpr ⟨oX8_agrees_79 C CR hr hnm hn, fun _ h => nomatch h⟩⟩⟩⟩))
theorem dX8_isMeant_0 : decode cX8_isMeant 0 = .ok (.aload_n 0, 1) := by decide +kernel
theorem dX8_isMeant_1 : decode cX8_isMeant 1 = .ok (.iload_n 1, 1) := by decide +kernel
theorem dX8_isMeant_2 : decode cX8_isMeant 2 = .ok (.invokevirtual 283, 3) := by decide +kernel
theorem dX8_isMeant_5 : decode cX8_isMeant 5 = .ok (.ifCond .ne 5, 3) := by decide +kernel
theorem dX8_isMeant_8 : decode cX8_isMeant 8 = .ok (.iconst 0, 1) := by decide +kernel
theorem dX8_isMeant_9 : decode cX8_isMeant 9 = .ok (.ireturn, 1) := by decide +kernel
theorem dX8_isMeant_10 : decode cX8_isMeant 10 = .ok (.iconst 0, 1) := by decide +kernel
theorem dX8_isMeant_11 : decode cX8_isMeant 11 = .ok (.istore_n 2, 1) := by decide +kernel
theorem dX8_isMeant_12 : decode cX8_isMeant 12 = .ok (.iconst 0, 1) := by decide +kernel
theorem dX8_isMeant_13 : decode cX8_isMeant 13 = .ok (.istore_n 3, 1) := by decide +kernel
theorem dX8_isMeant_14 : decode cX8_isMeant 14 = .ok (.iload_n 3, 1) := by decide +kernel
theorem dX8_isMeant_15 : decode cX8_isMeant 15 = .ok (.bipush 8, 2) := by decide +kernel
theorem dX8_isMeant_17 : decode cX8_isMeant 17 = .ok (.if_icmp .ge 154, 3) := by decide +kernel
theorem dX8_isMeant_20 : decode cX8_isMeant 20 = .ok (.iload_n 3, 1) := by decide +kernel
theorem dX8_isMeant_21 : decode cX8_isMeant 21 = .ok (.iload_n 1, 1) := by decide +kernel
theorem dX8_isMeant_22 : decode cX8_isMeant 22 = .ok (.if_icmp .eq 143, 3) := by decide +kernel
theorem dX8_isMeant_25 : decode cX8_isMeant 25 = .ok (.aload_n 0, 1) := by decide +kernel
theorem dX8_isMeant_26 : decode cX8_isMeant 26 = .ok (.iload_n 3, 1) := by decide +kernel
theorem dX8_isMeant_27 : decode cX8_isMeant 27 = .ok (.invokevirtual 283, 3) := by decide +kernel
theorem dX8_isMeant_30 : decode cX8_isMeant 30 = .ok (.ifCond .eq 135, 3) := by decide +kernel
theorem dX8_isMeant_33 : decode cX8_isMeant 33 = .ok (.aload_n 0, 1) := by decide +kernel
theorem dX8_isMeant_34 : decode cX8_isMeant 34 = .ok (.getfield 16, 3) := by decide +kernel
theorem dX8_isMeant_37 : decode cX8_isMeant 37 = .ok (.aload_n 0, 1) := by decide +kernel
theorem dX8_isMeant_38 : decode cX8_isMeant 38 = .ok (.iload_n 1, 1) := by decide +kernel
theorem dX8_isMeant_39 : decode cX8_isMeant 39 = .ok (.iconst 0, 1) := by decide +kernel
theorem dX8_isMeant_40 : decode cX8_isMeant 40 = .ok (.invokevirtual 178, 3) := by decide +kernel
theorem dX8_isMeant_43 : decode cX8_isMeant 43 = .ok (.iaload, 1) := by decide +kernel
theorem dX8_isMeant_44 : decode cX8_isMeant 44 = .ok (.aload_n 0, 1) := by decide +kernel
theorem dX8_isMeant_45 : decode cX8_isMeant 45 = .ok (.getfield 16, 3) := by decide +kernel
theorem dX8_isMeant_48 : decode cX8_isMeant 48 = .ok (.aload_n 0, 1) := by decide +kernel
theorem dX8_isMeant_49 : decode cX8_isMeant 49 = .ok (.iload_n 3, 1) := by decide +kernel
theorem dX8_isMeant_50 : decode cX8_isMeant 50 = .ok (.iconst 0, 1) := by decide +kernel
theorem dX8_isMeant_51 : decode cX8_isMeant 51 = .ok (.invokevirtual 178, 3) := by decide +kernel
theorem dX8_isMeant_54 : decode cX8_isMeant 54 = .ok (.iaload, 1) := by decide +kernel
theorem dX8_isMeant_55 : decode cX8_isMeant 55 = .ok (.if_icmp .ne 110, 3) := by decide +kernel
theorem dX8_isMeant_58 : decode cX8_isMeant 58 = .ok (.aload_n 0, 1) := by decide +kernel
theorem dX8_isMeant_59 : decode cX8_isMeant 59 = .ok (.getfield 16, 3) := by decide +kernel
theorem dX8_isMeant_62 : decode cX8_isMeant 62 = .ok (.aload_n 0, 1) := by decide +kernel
theorem dX8_isMeant_63 : decode cX8_isMeant 63 = .ok (.iload_n 1, 1) := by decide +kernel
theorem dX8_isMeant_64 : decode cX8_isMeant 64 = .ok (.iconst 1, 1) := by decide +kernel
theorem dX8_isMeant_65 : decode cX8_isMeant 65 = .ok (.invokevirtual 178, 3) := by decide +kernel
theorem dX8_isMeant_68 : decode cX8_isMeant 68 = .ok (.iaload, 1) := by decide +kernel
theorem dX8_isMeant_69 : decode cX8_isMeant 69 = .ok (.aload_n 0, 1) := by decide +kernel
theorem dX8_isMeant_70 : decode cX8_isMeant 70 = .ok (.getfield 16, 3) := by decide +kernel
theorem dX8_isMeant_73 : decode cX8_isMeant 73 = .ok (.aload_n 0, 1) := by decide +kernel
theorem dX8_isMeant_74 : decode cX8_isMeant 74 = .ok (.iload_n 3, 1) := by decide +kernel
theorem dX8_isMeant_75 : decode cX8_isMeant 75 = .ok (.iconst 1, 1) := by decide +kernel
theorem dX8_isMeant_76 : decode cX8_isMeant 76 = .ok (.invokevirtual 178, 3) := by decide +kernel
theorem dX8_isMeant_79 : decode cX8_isMeant 79 = .ok (.iaload, 1) := by decide +kernel
theorem dX8_isMeant_80 : decode cX8_isMeant 80 = .ok (.if_icmp .eq 6, 3) := by decide +kernel
theorem dX8_isMeant_83 : decode cX8_isMeant 83 = .ok (.goto 82, 3) := by decide +kernel
theorem dX8_isMeant_86 : decode cX8_isMeant 86 = .ok (.aload_n 0, 1) := by decide +kernel
theorem dX8_isMeant_87 : decode cX8_isMeant 87 = .ok (.iload_n 1, 1) := by decide +kernel
theorem dX8_isMeant_88 : decode cX8_isMeant 88 = .ok (.aload_n 0, 1) := by decide +kernel
theorem dX8_isMeant_89 : decode cX8_isMeant 89 = .ok (.invokevirtual 228, 3) := by decide +kernel
theorem dX8_isMeant_92 : decode cX8_isMeant 92 = .ok (.invokevirtual 178, 3) := by decide +kernel
theorem dX8_isMeant_95 : decode cX8_isMeant 95 = .ok (.istore 4, 2) := by decide +kernel
theorem dX8_isMeant_97 : decode cX8_isMeant 97 = .ok (.aload_n 0, 1) := by decide +kernel
theorem dX8_isMeant_98 : decode cX8_isMeant 98 = .ok (.iload_n 3, 1) := by decide +kernel
theorem dX8_isMeant_99 : decode cX8_isMeant 99 = .ok (.aload_n 0, 1) := by decide +kernel
theorem dX8_isMeant_100 : decode cX8_isMeant 100 = .ok (.invokevirtual 228, 3) := by decide +kernel
theorem dX8_isMeant_103 : decode cX8_isMeant 103 = .ok (.invokevirtual 178, 3) := by decide +kernel
theorem dX8_isMeant_106 : decode cX8_isMeant 106 = .ok (.istore 5, 2) := by decide +kernel
theorem dX8_isMeant_108 : decode cX8_isMeant 108 = .ok (.iload_n 2, 1) := by decide +kernel
theorem dX8_isMeant_109 : decode cX8_isMeant 109 = .ok (.aload_n 0, 1) := by decide +kernel
theorem dX8_isMeant_110 : decode cX8_isMeant 110 = .ok (.getfield 19, 3) := by decide +kernel
theorem dX8_isMeant_113 : decode cX8_isMeant 113 = .ok (.iload 5, 2) := by decide +kernel
theorem dX8_isMeant_115 : decode cX8_isMeant 115 = .ok (.iaload, 1) := by decide +kernel
theorem dX8_isMeant_116 : decode cX8_isMeant 116 = .ok (.aload_n 0, 1) := by decide +kernel
theorem dX8_isMeant_117 : decode cX8_isMeant 117 = .ok (.getfield 19, 3) := by decide +kernel
theorem dX8_isMeant_120 : decode cX8_isMeant 120 = .ok (.iload 4, 2) := by decide +kernel
theorem dX8_isMeant_122 : decode cX8_isMeant 122 = .ok (.iaload, 1) := by decide +kernel
theorem dX8_isMeant_123 : decode cX8_isMeant 123 = .ok (.if_icmp .eq 28, 3) := by decide +kernel
theorem dX8_isMeant_126 : decode cX8_isMeant 126 = .ok (.aload_n 0, 1) := by decide +kernel
theorem dX8_isMeant_127 : decode cX8_isMeant 127 = .ok (.getfield 19, 3) := by decide +kernel
theorem dX8_isMeant_130 : decode cX8_isMeant 130 = .ok (.iload 5, 2) := by decide +kernel
theorem dX8_isMeant_132 : decode cX8_isMeant 132 = .ok (.iaload, 1) := by decide +kernel
theorem dX8_isMeant_133 : decode cX8_isMeant 133 = .ok (.aload_n 0, 1) := by decide +kernel
theorem dX8_isMeant_134 : decode cX8_isMeant 134 = .ok (.getfield 19, 3) := by decide +kernel
theorem dX8_isMeant_137 : decode cX8_isMeant 137 = .ok (.iload 4, 2) := by decide +kernel
theorem dX8_isMeant_139 : decode cX8_isMeant 139 = .ok (.iaload, 1) := by decide +kernel
theorem dX8_isMeant_140 : decode cX8_isMeant 140 = .ok (.if_icmp .ge 7, 3) := by decide +kernel
theorem dX8_isMeant_143 : decode cX8_isMeant 143 = .ok (.iconst 1, 1) := by decide +kernel
theorem dX8_isMeant_144 : decode cX8_isMeant 144 = .ok (.goto 19, 3) := by decide +kernel
theorem dX8_isMeant_147 : decode cX8_isMeant 147 = .ok (.iconst 0, 1) := by decide +kernel
theorem dX8_isMeant_148 : decode cX8_isMeant 148 = .ok (.goto 15, 3) := by decide +kernel
theorem dX8_isMeant_151 : decode cX8_isMeant 151 = .ok (.iload 5, 2) := by decide +kernel
theorem dX8_isMeant_153 : decode cX8_isMeant 153 = .ok (.iload 4, 2) := by decide +kernel
theorem dX8_isMeant_155 : decode cX8_isMeant 155 = .ok (.if_icmp .ge 7, 3) := by decide +kernel
theorem dX8_isMeant_158 : decode cX8_isMeant 158 = .ok (.iconst 1, 1) := by decide +kernel
theorem dX8_isMeant_159 : decode cX8_isMeant 159 = .ok (.goto 4, 3) := by decide +kernel
theorem dX8_isMeant_162 : decode cX8_isMeant 162 = .ok (.iconst 0, 1) := by decide +kernel
theorem dX8_isMeant_163 : decode cX8_isMeant 163 = .ok (.iadd, 1) := by decide +kernel
theorem dX8_isMeant_164 : decode cX8_isMeant 164 = .ok (.istore_n 2, 1) := by decide +kernel
theorem dX8_isMeant_165 : decode cX8_isMeant 165 = .ok (.iinc 3 1, 3) := by decide +kernel
theorem dX8_isMeant_168 : decode cX8_isMeant 168 = .ok (.goto (-154), 3) := by decide +kernel
theorem dX8_isMeant_171 : decode cX8_isMeant 171 = .ok (.iload_n 2, 1) := by decide +kernel
theorem dX8_isMeant_172 : decode cX8_isMeant 172 = .ok (.aload_n 0, 1) := by decide +kernel
theorem dX8_isMeant_173 : decode cX8_isMeant 173 = .ok (.getfield 13, 3) := by decide +kernel
theorem dX8_isMeant_176 : decode cX8_isMeant 176 = .ok (.iconst 0, 1) := by decide +kernel
theorem dX8_isMeant_177 : decode cX8_isMeant 177 = .ok (.iaload, 1) := by decide +kernel
theorem dX8_isMeant_178 : decode cX8_isMeant 178 = .ok (.aload_n 0, 1) := by decide +kernel
theorem dX8_isMeant_179 : decode cX8_isMeant 179 = .ok (.getfield 13, 3) := by decide +kernel
theorem dX8_isMeant_182 : decode cX8_isMeant 182 = .ok (.iconst 1, 1) := by decide +kernel
theorem dX8_isMeant_183 : decode cX8_isMeant 183 = .ok (.iaload, 1) := by decide +kernel
theorem dX8_isMeant_184 : decode cX8_isMeant 184 = .ok (.invokestatic 286, 3) := by decide +kernel
theorem dX8_isMeant_187 : decode cX8_isMeant 187 = .ok (.if_icmp .ge 7, 3) := by decide +kernel
theorem dX8_isMeant_190 : decode cX8_isMeant 190 = .ok (.iconst 1, 1) := by decide +kernel
theorem dX8_isMeant_191 : decode cX8_isMeant 191 = .ok (.goto 4, 3) := by decide +kernel
theorem dX8_isMeant_194 : decode cX8_isMeant 194 = .ok (.iconst 0, 1) := by decide +kernel
theorem dX8_isMeant_195 : decode cX8_isMeant 195 = .ok (.ireturn, 1) := by decide +kernel
noncomputable def bX8_isMeant_0 (Q : Option Value → MM → Prop) (nx : Nat → Kt) : Kt := ldA 0 (ldI 1 (cV 1 8 wX8_agrees 0 0 0 0 (ifz (fun x => x = 0) (cI 0 (rZ Q)) (nx 10))))
noncomputable def bX8_isMeant_10 (Q : Option Value → MM → Prop) (nx : Nat → Kt) : Kt := cI 0 (stI 2 (cI 0 (stI 3 (nx 14))))
noncomputable def bX8_isMeant_14 (Q : Option Value → MM → Prop) (nx : Nat → Kt) : Kt := ldI 3 (cI 8 (ifc (fun x y => y ≤ x) (nx 171) (ldI 3 (ldI 1 (ifc (fun x y => x = y) (nx 165) (ldA 0 (ldI 3 (cV 1 8 wX8_agrees 0 0 0 0 (ifz (fun x => x = 0) (nx 165) (ldA 0 (gR 8 3 (ldA 0 (ldI 1 (cI 0 (cV 2 8 wX8_portAt 0 0 0 0 (aI 10 (ldA 0 (gR 8 3 (ldA 0 (ldI 3 (cI 0 (cV 2 8 wX8_portAt 0 0 0 0 (aI 10 (ifc (fun x y => x = y) (ldA 0 (gR 8 3 (ldA 0 (ldI 1 (cI 1 (cV 2 8 wX8_portAt 0 0 0 0 (aI 10 (ldA 0 (gR 8 3 (ldA 0 (ldI 3 (cI 1 (cV 2 8 wX8_portAt 0 0 0 0 (aI 10 (ifc (fun x y => x = y) (nx 86) (nx 165)))))))))))))))) (nx 165)))))))))))))))))))))))))
noncomputable def bX8_isMeant_86 (Q : Option Value → MM → Prop) (nx : Nat → Kt) : Kt := ldA 0 (ldI 1 (ldA 0 (cV 0 8 wX8_stronger 0 0 0 0 (cV 2 8 wX8_portAt 0 0 0 0 (stI 4 (ldA 0 (ldI 3 (ldA 0 (cV 0 8 wX8_stronger 0 0 0 0 (cV 2 8 wX8_portAt 0 0 0 0 (stI 5 (ldI 2 (ldA 0 (gR 8 4 (ldI 5 (aI 10 (ldA 0 (gR 8 4 (ldI 4 (aI 10 (ifc (fun x y => x = y) (nx 151) (ldA 0 (gR 8 4 (ldI 5 (aI 10 (ldA 0 (gR 8 4 (ldI 4 (aI 10 (ifc (fun x y => y ≤ x) (nx 147) (cI 1 (nx 163))))))))))))))))))))))))))))))))
noncomputable def bX8_isMeant_147 (Q : Option Value → MM → Prop) (nx : Nat → Kt) : Kt := cI 0 (nx 163)
noncomputable def bX8_isMeant_151 (Q : Option Value → MM → Prop) (nx : Nat → Kt) : Kt := ldI 5 (ldI 4 (ifc (fun x y => y ≤ x) (nx 162) (cI 1 (nx 163))))
noncomputable def bX8_isMeant_162 (Q : Option Value → MM → Prop) (nx : Nat → Kt) : Kt := cI 0 (nx 163)
noncomputable def bX8_isMeant_163 (Q : Option Value → MM → Prop) (nx : Nat → Kt) : Kt := bop (fun x y => x + y) (stI 2 (nx 165))
noncomputable def bX8_isMeant_165 (Q : Option Value → MM → Prop) (nx : Nat → Kt) : Kt := inc 3 1 (nx 14)
noncomputable def bX8_isMeant_171 (Q : Option Value → MM → Prop) (nx : Nat → Kt) : Kt := ldI 2 (ldA 0 (gR 8 2 (cI 0 (aI 10 (ldA 0 (gR 8 2 (cI 1 (aI 10 (mMn (ifc (fun x y => y ≤ x) (nx 194) (cI 1 (nx 195))))))))))))
noncomputable def bX8_isMeant_194 (Q : Option Value → MM → Prop) (nx : Nat → Kt) : Kt := cI 0 (nx 195)
noncomputable def bX8_isMeant_195 (Q : Option Value → MM → Prop) (nx : Nat → Kt) : Kt := rZ Q
noncomputable def kX8_isMeant (Q : Option Value → MM → Prop) (nx : Nat → Kt) : Nat → Kt := bse [(0, bX8_isMeant_0 Q nx), (10, bX8_isMeant_10 Q nx), (14, bX8_isMeant_14 Q nx), (86, bX8_isMeant_86 Q nx), (147, bX8_isMeant_147 Q nx), (151, bX8_isMeant_151 Q nx), (162, bX8_isMeant_162 Q nx), (163, bX8_isMeant_163 Q nx), (165, bX8_isMeant_165 Q nx), (171, bX8_isMeant_171 Q nx), (194, bX8_isMeant_194 Q nx), (195, bX8_isMeant_195 Q nx)]
abbrev rX8_isMeant : Room := { frames := 2, cells := 0, slots := 0, locals := 43 }
noncomputable def wX8_isMeant : Mw := mw 6 kX8_isMeant
set_option maxRecDepth 20000 in
theorem oX8_isMeant_0 {T : Ct} {Q : Option Value → MM → Prop} (C : Cx T cX8_isMeant 6 RX8 0 0) (CR : CxR T 2 43) (hr : T.2.2.2.2.2.2.2.2.1.sig.returnType = (some .boolean)) (hnm : T.2.2.2.2.2.2.2.2.1.name = "isMeant") {nx : Nat → Kt} (hn : ∀ pc, Sd T 6 (QT T Q 0 0) 0 0 pc (nx pc)) : Sd T 6 (QT T Q 0 0) 0 0 0 (bX8_isMeant_0 Q nx) := x_al_n C dX8_isMeant_0 rfl (x_il_n C dX8_isMeant_1 rfl (x_cV C CR mX8_agrees ⟨co_X8_agrees, init_X8, md_X8_agrees, by decide, by decide⟩ (ci := 8) (TX := TX8) (N := 51) rfl (by decide) ml_X8_283 im_X8_agrees se_X8_agrees dX8_isMeant_2 (x_if_ne C (hn 10) dX8_isMeant_5 (by decide) (x_ic C dX8_isMeant_8 (by decide) (x_rZ C hr dX8_isMeant_9)))))
set_option maxRecDepth 20000 in
theorem oX8_isMeant_10 {T : Ct} {Q : Option Value → MM → Prop} (C : Cx T cX8_isMeant 6 RX8 0 0) (CR : CxR T 2 43) (hr : T.2.2.2.2.2.2.2.2.1.sig.returnType = (some .boolean)) (hnm : T.2.2.2.2.2.2.2.2.1.name = "isMeant") {nx : Nat → Kt} (hn : ∀ pc, Sd T 6 (QT T Q 0 0) 0 0 pc (nx pc)) : Sd T 6 (QT T Q 0 0) 0 0 10 (bX8_isMeant_10 Q nx) := x_ic C dX8_isMeant_10 (by decide) (x_is_n C dX8_isMeant_11 rfl (by decide) (x_ic C dX8_isMeant_12 (by decide) (x_is_n C dX8_isMeant_13 rfl (by decide) (hn 14))))
set_option maxRecDepth 20000 in
theorem oX8_isMeant_14 {T : Ct} {Q : Option Value → MM → Prop} (C : Cx T cX8_isMeant 6 RX8 0 0) (CR : CxR T 2 43) (hr : T.2.2.2.2.2.2.2.2.1.sig.returnType = (some .boolean)) (hnm : T.2.2.2.2.2.2.2.2.1.name = "isMeant") {nx : Nat → Kt} (hn : ∀ pc, Sd T 6 (QT T Q 0 0) 0 0 pc (nx pc)) : Sd T 6 (QT T Q 0 0) 0 0 14 (bX8_isMeant_14 Q nx) := x_il_n C dX8_isMeant_14 rfl (x_bp C dX8_isMeant_15 (by decide) (x_ic_ge C (hn 171) dX8_isMeant_17 (by decide) (x_il_n C dX8_isMeant_20 rfl (x_il_n C dX8_isMeant_21 rfl (x_ic_eq C (hn 165) dX8_isMeant_22 (by decide) (x_al_n C dX8_isMeant_25 rfl (x_il_n C dX8_isMeant_26 rfl (x_cV C CR mX8_agrees ⟨co_X8_agrees, init_X8, md_X8_agrees, by decide, by decide⟩ (ci := 8) (TX := TX8) (N := 51) rfl (by decide) ml_X8_283 im_X8_agrees se_X8_agrees dX8_isMeant_27 (x_if_eq C (hn 165) dX8_isMeant_30 (by decide) (x_al_n C dX8_isMeant_33 rfl (gf_X8_16 C dX8_isMeant_34 (x_al_n C dX8_isMeant_37 rfl (x_il_n C dX8_isMeant_38 rfl (x_ic C dX8_isMeant_39 (by decide) (x_cV C CR mX8_portAt ⟨co_X8_portAt, init_X8, md_X8_portAt, by decide, by decide⟩ (ci := 8) (TX := TX8) (N := 51) rfl (by decide) ml_X8_178 im_X8_portAt se_X8_portAt dX8_isMeant_40 (x_iald C dX8_isMeant_43 (x_al_n C dX8_isMeant_44 rfl (gf_X8_16 C dX8_isMeant_45 (x_al_n C dX8_isMeant_48 rfl (x_il_n C dX8_isMeant_49 rfl (x_ic C dX8_isMeant_50 (by decide) (x_cV C CR mX8_portAt ⟨co_X8_portAt, init_X8, md_X8_portAt, by decide, by decide⟩ (ci := 8) (TX := TX8) (N := 51) rfl (by decide) ml_X8_178 im_X8_portAt se_X8_portAt dX8_isMeant_51 (x_iald C dX8_isMeant_54 (x_ic_ne C (hn 165) dX8_isMeant_55 (by decide) (x_al_n C dX8_isMeant_58 rfl (gf_X8_16 C dX8_isMeant_59 (x_al_n C dX8_isMeant_62 rfl (x_il_n C dX8_isMeant_63 rfl (x_ic C dX8_isMeant_64 (by decide) (x_cV C CR mX8_portAt ⟨co_X8_portAt, init_X8, md_X8_portAt, by decide, by decide⟩ (ci := 8) (TX := TX8) (N := 51) rfl (by decide) ml_X8_178 im_X8_portAt se_X8_portAt dX8_isMeant_65 (x_iald C dX8_isMeant_68 (x_al_n C dX8_isMeant_69 rfl (gf_X8_16 C dX8_isMeant_70 (x_al_n C dX8_isMeant_73 rfl (x_il_n C dX8_isMeant_74 rfl (x_ic C dX8_isMeant_75 (by decide) (x_cV C CR mX8_portAt ⟨co_X8_portAt, init_X8, md_X8_portAt, by decide, by decide⟩ (ci := 8) (TX := TX8) (N := 51) rfl (by decide) ml_X8_178 im_X8_portAt se_X8_portAt dX8_isMeant_76 (x_iald C dX8_isMeant_79 (x_ic_eq C (hn 86) dX8_isMeant_80 (by decide) (x_goto C (hn 165) dX8_isMeant_83 (by decide)))))))))))))))))))))))))))))))))))))))))
set_option maxRecDepth 20000 in
theorem oX8_isMeant_86 {T : Ct} {Q : Option Value → MM → Prop} (C : Cx T cX8_isMeant 6 RX8 0 0) (CR : CxR T 2 43) (hr : T.2.2.2.2.2.2.2.2.1.sig.returnType = (some .boolean)) (hnm : T.2.2.2.2.2.2.2.2.1.name = "isMeant") {nx : Nat → Kt} (hn : ∀ pc, Sd T 6 (QT T Q 0 0) 0 0 pc (nx pc)) : Sd T 6 (QT T Q 0 0) 0 0 86 (bX8_isMeant_86 Q nx) := x_al_n C dX8_isMeant_86 rfl (x_il_n C dX8_isMeant_87 rfl (x_al_n C dX8_isMeant_88 rfl (x_cV C CR mX8_stronger ⟨co_X8_stronger, init_X8, md_X8_stronger, by decide, by decide⟩ (ci := 8) (TX := TX8) (N := 51) rfl (by decide) ml_X8_228 im_X8_stronger se_X8_stronger dX8_isMeant_89 (x_cV C CR mX8_portAt ⟨co_X8_portAt, init_X8, md_X8_portAt, by decide, by decide⟩ (ci := 8) (TX := TX8) (N := 51) rfl (by decide) ml_X8_178 im_X8_portAt se_X8_portAt dX8_isMeant_92 (x_is C dX8_isMeant_95 (by decide) (x_al_n C dX8_isMeant_97 rfl (x_il_n C dX8_isMeant_98 rfl (x_al_n C dX8_isMeant_99 rfl (x_cV C CR mX8_stronger ⟨co_X8_stronger, init_X8, md_X8_stronger, by decide, by decide⟩ (ci := 8) (TX := TX8) (N := 51) rfl (by decide) ml_X8_228 im_X8_stronger se_X8_stronger dX8_isMeant_100 (x_cV C CR mX8_portAt ⟨co_X8_portAt, init_X8, md_X8_portAt, by decide, by decide⟩ (ci := 8) (TX := TX8) (N := 51) rfl (by decide) ml_X8_178 im_X8_portAt se_X8_portAt dX8_isMeant_103 (x_is C dX8_isMeant_106 (by decide) (x_il_n C dX8_isMeant_108 rfl (x_al_n C dX8_isMeant_109 rfl (gf_X8_19 C dX8_isMeant_110 (x_il C dX8_isMeant_113 (x_iald C dX8_isMeant_115 (x_al_n C dX8_isMeant_116 rfl (gf_X8_19 C dX8_isMeant_117 (x_il C dX8_isMeant_120 (x_iald C dX8_isMeant_122 (x_ic_eq C (hn 151) dX8_isMeant_123 (by decide) (x_al_n C dX8_isMeant_126 rfl (gf_X8_19 C dX8_isMeant_127 (x_il C dX8_isMeant_130 (x_iald C dX8_isMeant_132 (x_al_n C dX8_isMeant_133 rfl (gf_X8_19 C dX8_isMeant_134 (x_il C dX8_isMeant_137 (x_iald C dX8_isMeant_139 (x_ic_ge C (hn 147) dX8_isMeant_140 (by decide) (x_ic C dX8_isMeant_143 (by decide) (x_goto C (hn 163) dX8_isMeant_144 (by decide)))))))))))))))))))))))))))))))))
set_option maxRecDepth 20000 in
theorem oX8_isMeant_147 {T : Ct} {Q : Option Value → MM → Prop} (C : Cx T cX8_isMeant 6 RX8 0 0) (CR : CxR T 2 43) (hr : T.2.2.2.2.2.2.2.2.1.sig.returnType = (some .boolean)) (hnm : T.2.2.2.2.2.2.2.2.1.name = "isMeant") {nx : Nat → Kt} (hn : ∀ pc, Sd T 6 (QT T Q 0 0) 0 0 pc (nx pc)) : Sd T 6 (QT T Q 0 0) 0 0 147 (bX8_isMeant_147 Q nx) := x_ic C dX8_isMeant_147 (by decide) (x_goto C (hn 163) dX8_isMeant_148 (by decide))
set_option maxRecDepth 20000 in
theorem oX8_isMeant_151 {T : Ct} {Q : Option Value → MM → Prop} (C : Cx T cX8_isMeant 6 RX8 0 0) (CR : CxR T 2 43) (hr : T.2.2.2.2.2.2.2.2.1.sig.returnType = (some .boolean)) (hnm : T.2.2.2.2.2.2.2.2.1.name = "isMeant") {nx : Nat → Kt} (hn : ∀ pc, Sd T 6 (QT T Q 0 0) 0 0 pc (nx pc)) : Sd T 6 (QT T Q 0 0) 0 0 151 (bX8_isMeant_151 Q nx) := x_il C dX8_isMeant_151 (x_il C dX8_isMeant_153 (x_ic_ge C (hn 162) dX8_isMeant_155 (by decide) (x_ic C dX8_isMeant_158 (by decide) (x_goto C (hn 163) dX8_isMeant_159 (by decide)))))
set_option maxRecDepth 20000 in
theorem oX8_isMeant_162 {T : Ct} {Q : Option Value → MM → Prop} (C : Cx T cX8_isMeant 6 RX8 0 0) (CR : CxR T 2 43) (hr : T.2.2.2.2.2.2.2.2.1.sig.returnType = (some .boolean)) (hnm : T.2.2.2.2.2.2.2.2.1.name = "isMeant") {nx : Nat → Kt} (hn : ∀ pc, Sd T 6 (QT T Q 0 0) 0 0 pc (nx pc)) : Sd T 6 (QT T Q 0 0) 0 0 162 (bX8_isMeant_162 Q nx) := x_ic C dX8_isMeant_162 (by decide) (hn 163)
set_option maxRecDepth 20000 in
theorem oX8_isMeant_163 {T : Ct} {Q : Option Value → MM → Prop} (C : Cx T cX8_isMeant 6 RX8 0 0) (CR : CxR T 2 43) (hr : T.2.2.2.2.2.2.2.2.1.sig.returnType = (some .boolean)) (hnm : T.2.2.2.2.2.2.2.2.1.name = "isMeant") {nx : Nat → Kt} (hn : ∀ pc, Sd T 6 (QT T Q 0 0) 0 0 pc (nx pc)) : Sd T 6 (QT T Q 0 0) 0 0 163 (bX8_isMeant_163 Q nx) := x_iadd C dX8_isMeant_163 (x_is_n C dX8_isMeant_164 rfl (by decide) (hn 165))
set_option maxRecDepth 20000 in
theorem oX8_isMeant_165 {T : Ct} {Q : Option Value → MM → Prop} (C : Cx T cX8_isMeant 6 RX8 0 0) (CR : CxR T 2 43) (hr : T.2.2.2.2.2.2.2.2.1.sig.returnType = (some .boolean)) (hnm : T.2.2.2.2.2.2.2.2.1.name = "isMeant") {nx : Nat → Kt} (hn : ∀ pc, Sd T 6 (QT T Q 0 0) 0 0 pc (nx pc)) : Sd T 6 (QT T Q 0 0) 0 0 165 (bX8_isMeant_165 Q nx) := x_inc C dX8_isMeant_165 (by decide) (by decide) (x_goto C (hn 14) dX8_isMeant_168 (by decide))
set_option maxRecDepth 20000 in
theorem oX8_isMeant_171 {T : Ct} {Q : Option Value → MM → Prop} (C : Cx T cX8_isMeant 6 RX8 0 0) (CR : CxR T 2 43) (hr : T.2.2.2.2.2.2.2.2.1.sig.returnType = (some .boolean)) (hnm : T.2.2.2.2.2.2.2.2.1.name = "isMeant") {nx : Nat → Kt} (hn : ∀ pc, Sd T 6 (QT T Q 0 0) 0 0 pc (nx pc)) : Sd T 6 (QT T Q 0 0) 0 0 171 (bX8_isMeant_171 Q nx) := x_il_n C dX8_isMeant_171 rfl (x_al_n C dX8_isMeant_172 rfl (gf_X8_13 C dX8_isMeant_173 (x_ic C dX8_isMeant_176 (by decide) (x_iald C dX8_isMeant_177 (x_al_n C dX8_isMeant_178 rfl (gf_X8_13 C dX8_isMeant_179 (x_ic C dX8_isMeant_182 (by decide) (x_iald C dX8_isMeant_183 (x_mMn C CR (by decide) (by decide) ml_X8_286 st_min init_Math co_min dX8_isMeant_184 (x_ic_ge C (hn 194) dX8_isMeant_187 (by decide) (x_ic C dX8_isMeant_190 (by decide) (x_goto C (hn 195) dX8_isMeant_191 (by decide)))))))))))))
set_option maxRecDepth 20000 in
theorem oX8_isMeant_194 {T : Ct} {Q : Option Value → MM → Prop} (C : Cx T cX8_isMeant 6 RX8 0 0) (CR : CxR T 2 43) (hr : T.2.2.2.2.2.2.2.2.1.sig.returnType = (some .boolean)) (hnm : T.2.2.2.2.2.2.2.2.1.name = "isMeant") {nx : Nat → Kt} (hn : ∀ pc, Sd T 6 (QT T Q 0 0) 0 0 pc (nx pc)) : Sd T 6 (QT T Q 0 0) 0 0 194 (bX8_isMeant_194 Q nx) := x_ic C dX8_isMeant_194 (by decide) (hn 195)
set_option maxRecDepth 20000 in
theorem oX8_isMeant_195 {T : Ct} {Q : Option Value → MM → Prop} (C : Cx T cX8_isMeant 6 RX8 0 0) (CR : CxR T 2 43) (hr : T.2.2.2.2.2.2.2.2.1.sig.returnType = (some .boolean)) (hnm : T.2.2.2.2.2.2.2.2.1.name = "isMeant") {nx : Nat → Kt} (hn : ∀ pc, Sd T 6 (QT T Q 0 0) 0 0 pc (nx pc)) : Sd T 6 (QT T Q 0 0) 0 0 195 (bX8_isMeant_195 Q nx) := x_rZ C hr dX8_isMeant_195
set_option maxRecDepth 20000 in
theorem mX8_isMeant (l : Launch) (D : va_G) (cA : Nat → ClassId) (base : Nat) : Mc l D cA base yX8_isMeant cX8_isMeant 6 (some .boolean) rX8_isMeant wX8_isMeant := mc_of (by decide +kernel) kX8_isMeant (fun T Q C CR hr hnm nx hn => bse_ok _ (List.forall_mem_cons.mpr ⟨oX8_isMeant_0 C CR hr hnm hn, List.forall_mem_cons.mpr ⟨oX8_isMeant_10 C CR hr hnm hn, List.forall_mem_cons.mpr ⟨oX8_isMeant_14 C CR hr hnm hn, List.forall_mem_cons.mpr ⟨oX8_isMeant_86 C CR hr hnm hn, List.forall_mem_cons.mpr ⟨oX8_isMeant_147 C CR hr hnm hn, List.forall_mem_cons.mpr ⟨oX8_isMeant_151 C CR hr hnm hn, List.forall_mem_cons.mpr ⟨oX8_isMeant_162 C CR hr hnm hn, List.forall_mem_cons.mpr ⟨oX8_isMeant_163 C CR hr hnm hn, List.forall_mem_cons.mpr ⟨oX8_isMeant_165 C CR hr hnm hn, List.forall_mem_cons.mpr ⟨oX8_isMeant_171 C CR hr hnm hn, List.forall_mem_cons.mpr ⟨oX8_isMeant_194 C CR hr hnm hn, List.forall_mem_cons.mpr ⟨oX8_isMeant_195 C CR hr hnm hn, fun _ h => nomatch h⟩⟩⟩⟩⟩⟩⟩⟩⟩⟩⟩⟩))
theorem dX8_isAsMeant_0 : decode cX8_isAsMeant 0 = .ok (.iconst 0, 1) := by decide +kernel
theorem dX8_isAsMeant_1 : decode cX8_isAsMeant 1 = .ok (.istore_n 1, 1) := by decide +kernel
theorem dX8_isAsMeant_2 : decode cX8_isAsMeant 2 = .ok (.iload_n 1, 1) := by decide +kernel
theorem dX8_isAsMeant_3 : decode cX8_isAsMeant 3 = .ok (.bipush 8, 2) := by decide +kernel
theorem dX8_isAsMeant_5 : decode cX8_isAsMeant 5 = .ok (.if_icmp .ge 49, 3) := by decide +kernel
theorem dX8_isAsMeant_8 : decode cX8_isAsMeant 8 = .ok (.aload_n 0, 1) := by decide +kernel
theorem dX8_isAsMeant_9 : decode cX8_isAsMeant 9 = .ok (.iload_n 1, 1) := by decide +kernel
theorem dX8_isAsMeant_10 : decode cX8_isAsMeant 10 = .ok (.invokevirtual 291, 3) := by decide +kernel
theorem dX8_isAsMeant_13 : decode cX8_isAsMeant 13 = .ok (.ifCond .eq 35, 3) := by decide +kernel
theorem dX8_isAsMeant_16 : decode cX8_isAsMeant 16 = .ok (.aload_n 0, 1) := by decide +kernel
theorem dX8_isAsMeant_17 : decode cX8_isAsMeant 17 = .ok (.getfield 35, 3) := by decide +kernel
theorem dX8_isAsMeant_20 : decode cX8_isAsMeant 20 = .ok (.aload_n 0, 1) := by decide +kernel
theorem dX8_isAsMeant_21 : decode cX8_isAsMeant 21 = .ok (.iload_n 1, 1) := by decide +kernel
theorem dX8_isAsMeant_22 : decode cX8_isAsMeant 22 = .ok (.iconst 0, 1) := by decide +kernel
theorem dX8_isAsMeant_23 : decode cX8_isAsMeant 23 = .ok (.invokevirtual 178, 3) := by decide +kernel
theorem dX8_isAsMeant_26 : decode cX8_isAsMeant 26 = .ok (.iaload, 1) := by decide +kernel
theorem dX8_isAsMeant_27 : decode cX8_isAsMeant 27 = .ok (.iconst 4, 1) := by decide +kernel
theorem dX8_isAsMeant_28 : decode cX8_isAsMeant 28 = .ok (.if_icmp .ne 18, 3) := by decide +kernel
theorem dX8_isAsMeant_31 : decode cX8_isAsMeant 31 = .ok (.aload_n 0, 1) := by decide +kernel
theorem dX8_isAsMeant_32 : decode cX8_isAsMeant 32 = .ok (.getfield 35, 3) := by decide +kernel
theorem dX8_isAsMeant_35 : decode cX8_isAsMeant 35 = .ok (.aload_n 0, 1) := by decide +kernel
theorem dX8_isAsMeant_36 : decode cX8_isAsMeant 36 = .ok (.iload_n 1, 1) := by decide +kernel
theorem dX8_isAsMeant_37 : decode cX8_isAsMeant 37 = .ok (.iconst 1, 1) := by decide +kernel
theorem dX8_isAsMeant_38 : decode cX8_isAsMeant 38 = .ok (.invokevirtual 178, 3) := by decide +kernel
theorem dX8_isAsMeant_41 : decode cX8_isAsMeant 41 = .ok (.iaload, 1) := by decide +kernel
theorem dX8_isAsMeant_42 : decode cX8_isAsMeant 42 = .ok (.iconst 4, 1) := by decide +kernel
theorem dX8_isAsMeant_43 : decode cX8_isAsMeant 43 = .ok (.if_icmp .eq 5, 3) := by decide +kernel
theorem dX8_isAsMeant_46 : decode cX8_isAsMeant 46 = .ok (.iconst 0, 1) := by decide +kernel
theorem dX8_isAsMeant_47 : decode cX8_isAsMeant 47 = .ok (.ireturn, 1) := by decide +kernel
theorem dX8_isAsMeant_48 : decode cX8_isAsMeant 48 = .ok (.iinc 1 1, 3) := by decide +kernel
theorem dX8_isAsMeant_51 : decode cX8_isAsMeant 51 = .ok (.goto (-49), 3) := by decide +kernel
theorem dX8_isAsMeant_54 : decode cX8_isAsMeant 54 = .ok (.iconst 0, 1) := by decide +kernel
theorem dX8_isAsMeant_55 : decode cX8_isAsMeant 55 = .ok (.istore_n 1, 1) := by decide +kernel
theorem dX8_isAsMeant_56 : decode cX8_isAsMeant 56 = .ok (.iload_n 1, 1) := by decide +kernel
theorem dX8_isAsMeant_57 : decode cX8_isAsMeant 57 = .ok (.bipush 16, 2) := by decide +kernel
theorem dX8_isAsMeant_59 : decode cX8_isAsMeant 59 = .ok (.if_icmp .ge 34, 3) := by decide +kernel
theorem dX8_isAsMeant_62 : decode cX8_isAsMeant 62 = .ok (.aload_n 0, 1) := by decide +kernel
theorem dX8_isAsMeant_63 : decode cX8_isAsMeant 63 = .ok (.getfield 35, 3) := by decide +kernel
theorem dX8_isAsMeant_66 : decode cX8_isAsMeant 66 = .ok (.iload_n 1, 1) := by decide +kernel
theorem dX8_isAsMeant_67 : decode cX8_isAsMeant 67 = .ok (.iaload, 1) := by decide +kernel
theorem dX8_isAsMeant_68 : decode cX8_isAsMeant 68 = .ok (.iconst 4, 1) := by decide +kernel
theorem dX8_isAsMeant_69 : decode cX8_isAsMeant 69 = .ok (.if_icmp .ne 18, 3) := by decide +kernel
theorem dX8_isAsMeant_72 : decode cX8_isAsMeant 72 = .ok (.aload_n 0, 1) := by decide +kernel
theorem dX8_isAsMeant_73 : decode cX8_isAsMeant 73 = .ok (.aload_n 0, 1) := by decide +kernel
theorem dX8_isAsMeant_74 : decode cX8_isAsMeant 74 = .ok (.getfield 41, 3) := by decide +kernel
theorem dX8_isAsMeant_77 : decode cX8_isAsMeant 77 = .ok (.iload_n 1, 1) := by decide +kernel
theorem dX8_isAsMeant_78 : decode cX8_isAsMeant 78 = .ok (.iaload, 1) := by decide +kernel
theorem dX8_isAsMeant_79 : decode cX8_isAsMeant 79 = .ok (.invokevirtual 291, 3) := by decide +kernel
theorem dX8_isAsMeant_82 : decode cX8_isAsMeant 82 = .ok (.ifCond .ne 5, 3) := by decide +kernel
theorem dX8_isAsMeant_85 : decode cX8_isAsMeant 85 = .ok (.iconst 0, 1) := by decide +kernel
theorem dX8_isAsMeant_86 : decode cX8_isAsMeant 86 = .ok (.ireturn, 1) := by decide +kernel
theorem dX8_isAsMeant_87 : decode cX8_isAsMeant 87 = .ok (.iinc 1 1, 3) := by decide +kernel
theorem dX8_isAsMeant_90 : decode cX8_isAsMeant 90 = .ok (.goto (-34), 3) := by decide +kernel
theorem dX8_isAsMeant_93 : decode cX8_isAsMeant 93 = .ok (.iconst 1, 1) := by decide +kernel
theorem dX8_isAsMeant_94 : decode cX8_isAsMeant 94 = .ok (.ireturn, 1) := by decide +kernel
noncomputable def bX8_isAsMeant_0 (Q : Option Value → MM → Prop) (nx : Nat → Kt) : Kt := cI 0 (stI 1 (nx 2))
noncomputable def bX8_isAsMeant_2 (Q : Option Value → MM → Prop) (nx : Nat → Kt) : Kt := ldI 1 (cI 8 (ifc (fun x y => y ≤ x) (nx 54) (ldA 0 (ldI 1 (cV 1 8 wX8_isMeant 0 0 0 0 (ifz (fun x => x = 0) (nx 48) (ldA 0 (gR 8 9 (ldA 0 (ldI 1 (cI 0 (cV 2 8 wX8_portAt 0 0 0 0 (aI 10 (cI 4 (ifc (fun x y => x = y) (ldA 0 (gR 8 9 (ldA 0 (ldI 1 (cI 1 (cV 2 8 wX8_portAt 0 0 0 0 (aI 10 (cI 4 (ifc (fun x y => x = y) (nx 48) (nx 46)))))))))) (nx 46))))))))))))))))
noncomputable def bX8_isAsMeant_46 (Q : Option Value → MM → Prop) (nx : Nat → Kt) : Kt := cI 0 (rZ Q)
noncomputable def bX8_isAsMeant_48 (Q : Option Value → MM → Prop) (nx : Nat → Kt) : Kt := inc 1 1 (nx 2)
noncomputable def bX8_isAsMeant_54 (Q : Option Value → MM → Prop) (nx : Nat → Kt) : Kt := cI 0 (stI 1 (nx 56))
noncomputable def bX8_isAsMeant_56 (Q : Option Value → MM → Prop) (nx : Nat → Kt) : Kt := ldI 1 (cI 16 (ifc (fun x y => y ≤ x) (nx 93) (ldA 0 (gR 8 9 (ldI 1 (aI 10 (cI 4 (ifc (fun x y => x = y) (ldA 0 (ldA 0 (gR 8 11 (ldI 1 (aI 10 (cV 1 8 wX8_isMeant 0 0 0 0 (ifz (fun x => x = 0) (cI 0 (rZ Q)) (nx 87)))))))) (nx 87)))))))))
noncomputable def bX8_isAsMeant_87 (Q : Option Value → MM → Prop) (nx : Nat → Kt) : Kt := inc 1 1 (nx 56)
noncomputable def bX8_isAsMeant_93 (Q : Option Value → MM → Prop) (nx : Nat → Kt) : Kt := cI 1 (rZ Q)
noncomputable def kX8_isAsMeant (Q : Option Value → MM → Prop) (nx : Nat → Kt) : Nat → Kt := bse [(0, bX8_isAsMeant_0 Q nx), (2, bX8_isAsMeant_2 Q nx), (46, bX8_isAsMeant_46 Q nx), (48, bX8_isAsMeant_48 Q nx), (54, bX8_isAsMeant_54 Q nx), (56, bX8_isAsMeant_56 Q nx), (87, bX8_isAsMeant_87 Q nx), (93, bX8_isAsMeant_93 Q nx)]
abbrev rX8_isAsMeant : Room := { frames := 3, cells := 0, slots := 0, locals := 68 }
noncomputable def wX8_isAsMeant : Mw := mw 2 kX8_isAsMeant
set_option maxRecDepth 20000 in
theorem oX8_isAsMeant_0 {T : Ct} {Q : Option Value → MM → Prop} (C : Cx T cX8_isAsMeant 2 RX8 0 0) (CR : CxR T 3 68) (hr : T.2.2.2.2.2.2.2.2.1.sig.returnType = (some .boolean)) (hnm : T.2.2.2.2.2.2.2.2.1.name = "isAsMeant") {nx : Nat → Kt} (hn : ∀ pc, Sd T 2 (QT T Q 0 0) 0 0 pc (nx pc)) : Sd T 2 (QT T Q 0 0) 0 0 0 (bX8_isAsMeant_0 Q nx) := x_ic C dX8_isAsMeant_0 (by decide) (x_is_n C dX8_isAsMeant_1 rfl (by decide) (hn 2))
set_option maxRecDepth 20000 in
theorem oX8_isAsMeant_2 {T : Ct} {Q : Option Value → MM → Prop} (C : Cx T cX8_isAsMeant 2 RX8 0 0) (CR : CxR T 3 68) (hr : T.2.2.2.2.2.2.2.2.1.sig.returnType = (some .boolean)) (hnm : T.2.2.2.2.2.2.2.2.1.name = "isAsMeant") {nx : Nat → Kt} (hn : ∀ pc, Sd T 2 (QT T Q 0 0) 0 0 pc (nx pc)) : Sd T 2 (QT T Q 0 0) 0 0 2 (bX8_isAsMeant_2 Q nx) := x_il_n C dX8_isAsMeant_2 rfl (x_bp C dX8_isAsMeant_3 (by decide) (x_ic_ge C (hn 54) dX8_isAsMeant_5 (by decide) (x_al_n C dX8_isAsMeant_8 rfl (x_il_n C dX8_isAsMeant_9 rfl (x_cV C CR mX8_isMeant ⟨co_X8_isMeant, init_X8, md_X8_isMeant, by decide, by decide⟩ (ci := 8) (TX := TX8) (N := 51) rfl (by decide) ml_X8_291 im_X8_isMeant se_X8_isMeant dX8_isAsMeant_10 (x_if_eq C (hn 48) dX8_isAsMeant_13 (by decide) (x_al_n C dX8_isAsMeant_16 rfl (gf_X8_35 C dX8_isAsMeant_17 (x_al_n C dX8_isAsMeant_20 rfl (x_il_n C dX8_isAsMeant_21 rfl (x_ic C dX8_isAsMeant_22 (by decide) (x_cV C CR mX8_portAt ⟨co_X8_portAt, init_X8, md_X8_portAt, by decide, by decide⟩ (ci := 8) (TX := TX8) (N := 51) rfl (by decide) ml_X8_178 im_X8_portAt se_X8_portAt dX8_isAsMeant_23 (x_iald C dX8_isAsMeant_26 (x_ic C dX8_isAsMeant_27 (by decide) (x_ic_ne C (hn 46) dX8_isAsMeant_28 (by decide) (x_al_n C dX8_isAsMeant_31 rfl (gf_X8_35 C dX8_isAsMeant_32 (x_al_n C dX8_isAsMeant_35 rfl (x_il_n C dX8_isAsMeant_36 rfl (x_ic C dX8_isAsMeant_37 (by decide) (x_cV C CR mX8_portAt ⟨co_X8_portAt, init_X8, md_X8_portAt, by decide, by decide⟩ (ci := 8) (TX := TX8) (N := 51) rfl (by decide) ml_X8_178 im_X8_portAt se_X8_portAt dX8_isAsMeant_38 (x_iald C dX8_isAsMeant_41 (x_ic C dX8_isAsMeant_42 (by decide) (x_ic_eq C (hn 48) dX8_isAsMeant_43 (by decide) (hn 46)))))))))))))))))))))))))
set_option maxRecDepth 20000 in
theorem oX8_isAsMeant_46 {T : Ct} {Q : Option Value → MM → Prop} (C : Cx T cX8_isAsMeant 2 RX8 0 0) (CR : CxR T 3 68) (hr : T.2.2.2.2.2.2.2.2.1.sig.returnType = (some .boolean)) (hnm : T.2.2.2.2.2.2.2.2.1.name = "isAsMeant") {nx : Nat → Kt} (hn : ∀ pc, Sd T 2 (QT T Q 0 0) 0 0 pc (nx pc)) : Sd T 2 (QT T Q 0 0) 0 0 46 (bX8_isAsMeant_46 Q nx) := x_ic C dX8_isAsMeant_46 (by decide) (x_rZ C hr dX8_isAsMeant_47)
set_option maxRecDepth 20000 in
theorem oX8_isAsMeant_48 {T : Ct} {Q : Option Value → MM → Prop} (C : Cx T cX8_isAsMeant 2 RX8 0 0) (CR : CxR T 3 68) (hr : T.2.2.2.2.2.2.2.2.1.sig.returnType = (some .boolean)) (hnm : T.2.2.2.2.2.2.2.2.1.name = "isAsMeant") {nx : Nat → Kt} (hn : ∀ pc, Sd T 2 (QT T Q 0 0) 0 0 pc (nx pc)) : Sd T 2 (QT T Q 0 0) 0 0 48 (bX8_isAsMeant_48 Q nx) := x_inc C dX8_isAsMeant_48 (by decide) (by decide) (x_goto C (hn 2) dX8_isAsMeant_51 (by decide))
set_option maxRecDepth 20000 in
theorem oX8_isAsMeant_54 {T : Ct} {Q : Option Value → MM → Prop} (C : Cx T cX8_isAsMeant 2 RX8 0 0) (CR : CxR T 3 68) (hr : T.2.2.2.2.2.2.2.2.1.sig.returnType = (some .boolean)) (hnm : T.2.2.2.2.2.2.2.2.1.name = "isAsMeant") {nx : Nat → Kt} (hn : ∀ pc, Sd T 2 (QT T Q 0 0) 0 0 pc (nx pc)) : Sd T 2 (QT T Q 0 0) 0 0 54 (bX8_isAsMeant_54 Q nx) := x_ic C dX8_isAsMeant_54 (by decide) (x_is_n C dX8_isAsMeant_55 rfl (by decide) (hn 56))
set_option maxRecDepth 20000 in
theorem oX8_isAsMeant_56 {T : Ct} {Q : Option Value → MM → Prop} (C : Cx T cX8_isAsMeant 2 RX8 0 0) (CR : CxR T 3 68) (hr : T.2.2.2.2.2.2.2.2.1.sig.returnType = (some .boolean)) (hnm : T.2.2.2.2.2.2.2.2.1.name = "isAsMeant") {nx : Nat → Kt} (hn : ∀ pc, Sd T 2 (QT T Q 0 0) 0 0 pc (nx pc)) : Sd T 2 (QT T Q 0 0) 0 0 56 (bX8_isAsMeant_56 Q nx) := x_il_n C dX8_isAsMeant_56 rfl (x_bp C dX8_isAsMeant_57 (by decide) (x_ic_ge C (hn 93) dX8_isAsMeant_59 (by decide) (x_al_n C dX8_isAsMeant_62 rfl (gf_X8_35 C dX8_isAsMeant_63 (x_il_n C dX8_isAsMeant_66 rfl (x_iald C dX8_isAsMeant_67 (x_ic C dX8_isAsMeant_68 (by decide) (x_ic_ne C (hn 87) dX8_isAsMeant_69 (by decide) (x_al_n C dX8_isAsMeant_72 rfl (x_al_n C dX8_isAsMeant_73 rfl (gf_X8_41 C dX8_isAsMeant_74 (x_il_n C dX8_isAsMeant_77 rfl (x_iald C dX8_isAsMeant_78 (x_cV C CR mX8_isMeant ⟨co_X8_isMeant, init_X8, md_X8_isMeant, by decide, by decide⟩ (ci := 8) (TX := TX8) (N := 51) rfl (by decide) ml_X8_291 im_X8_isMeant se_X8_isMeant dX8_isAsMeant_79 (x_if_ne C (hn 87) dX8_isAsMeant_82 (by decide) (x_ic C dX8_isAsMeant_85 (by decide) (x_rZ C hr dX8_isAsMeant_86)))))))))))))))))
set_option maxRecDepth 20000 in
theorem oX8_isAsMeant_87 {T : Ct} {Q : Option Value → MM → Prop} (C : Cx T cX8_isAsMeant 2 RX8 0 0) (CR : CxR T 3 68) (hr : T.2.2.2.2.2.2.2.2.1.sig.returnType = (some .boolean)) (hnm : T.2.2.2.2.2.2.2.2.1.name = "isAsMeant") {nx : Nat → Kt} (hn : ∀ pc, Sd T 2 (QT T Q 0 0) 0 0 pc (nx pc)) : Sd T 2 (QT T Q 0 0) 0 0 87 (bX8_isAsMeant_87 Q nx) := x_inc C dX8_isAsMeant_87 (by decide) (by decide) (x_goto C (hn 56) dX8_isAsMeant_90 (by decide))
set_option maxRecDepth 20000 in
theorem oX8_isAsMeant_93 {T : Ct} {Q : Option Value → MM → Prop} (C : Cx T cX8_isAsMeant 2 RX8 0 0) (CR : CxR T 3 68) (hr : T.2.2.2.2.2.2.2.2.1.sig.returnType = (some .boolean)) (hnm : T.2.2.2.2.2.2.2.2.1.name = "isAsMeant") {nx : Nat → Kt} (hn : ∀ pc, Sd T 2 (QT T Q 0 0) 0 0 pc (nx pc)) : Sd T 2 (QT T Q 0 0) 0 0 93 (bX8_isAsMeant_93 Q nx) := x_ic C dX8_isAsMeant_93 (by decide) (x_rZ C hr dX8_isAsMeant_94)
set_option maxRecDepth 20000 in
theorem mX8_isAsMeant (l : Launch) (D : va_G) (cA : Nat → ClassId) (base : Nat) : Mc l D cA base yX8_isAsMeant cX8_isAsMeant 2 (some .boolean) rX8_isAsMeant wX8_isAsMeant := mc_of (by decide +kernel) kX8_isAsMeant (fun T Q C CR hr hnm nx hn => bse_ok _ (List.forall_mem_cons.mpr ⟨oX8_isAsMeant_0 C CR hr hnm hn, List.forall_mem_cons.mpr ⟨oX8_isAsMeant_2 C CR hr hnm hn, List.forall_mem_cons.mpr ⟨oX8_isAsMeant_46 C CR hr hnm hn, List.forall_mem_cons.mpr ⟨oX8_isAsMeant_48 C CR hr hnm hn, List.forall_mem_cons.mpr ⟨oX8_isAsMeant_54 C CR hr hnm hn, List.forall_mem_cons.mpr ⟨oX8_isAsMeant_56 C CR hr hnm hn, List.forall_mem_cons.mpr ⟨oX8_isAsMeant_87 C CR hr hnm hn, List.forall_mem_cons.mpr ⟨oX8_isAsMeant_93 C CR hr hnm hn, fun _ h => nomatch h⟩⟩⟩⟩⟩⟩⟩⟩))
theorem dX8_tick_0 : decode cX8_tick 0 = .ok (.aload_n 0, 1) := by decide +kernel
theorem dX8_tick_1 : decode cX8_tick 1 = .ok (.invokevirtual 258, 3) := by decide +kernel
theorem dX8_tick_4 : decode cX8_tick 4 = .ok (.istore_n 1, 1) := by decide +kernel
theorem dX8_tick_5 : decode cX8_tick 5 = .ok (.iconst 0, 1) := by decide +kernel
theorem dX8_tick_6 : decode cX8_tick 6 = .ok (.istore_n 2, 1) := by decide +kernel
theorem dX8_tick_7 : decode cX8_tick 7 = .ok (.iload_n 2, 1) := by decide +kernel
theorem dX8_tick_8 : decode cX8_tick 8 = .ok (.bipush 16, 2) := by decide +kernel
theorem dX8_tick_10 : decode cX8_tick 10 = .ok (.if_icmp .ge 14, 3) := by decide +kernel
theorem dX8_tick_13 : decode cX8_tick 13 = .ok (.aload_n 0, 1) := by decide +kernel
theorem dX8_tick_14 : decode cX8_tick 14 = .ok (.iload_n 2, 1) := by decide +kernel
theorem dX8_tick_15 : decode cX8_tick 15 = .ok (.invokevirtual 261, 3) := by decide +kernel
theorem dX8_tick_18 : decode cX8_tick 18 = .ok (.iinc 2 1, 3) := by decide +kernel
theorem dX8_tick_21 : decode cX8_tick 21 = .ok (.goto (-14), 3) := by decide +kernel
theorem dX8_tick_24 : decode cX8_tick 24 = .ok (.aload_n 0, 1) := by decide +kernel
theorem dX8_tick_25 : decode cX8_tick 25 = .ok (.iconst 0, 1) := by decide +kernel
theorem dX8_tick_26 : decode cX8_tick 26 = .ok (.invokevirtual 264, 3) := by decide +kernel
theorem dX8_tick_29 : decode cX8_tick 29 = .ok (.aload_n 0, 1) := by decide +kernel
theorem dX8_tick_30 : decode cX8_tick 30 = .ok (.iconst 1, 1) := by decide +kernel
theorem dX8_tick_31 : decode cX8_tick 31 = .ok (.invokevirtual 264, 3) := by decide +kernel
theorem dX8_tick_34 : decode cX8_tick 34 = .ok (.iconst 0, 1) := by decide +kernel
theorem dX8_tick_35 : decode cX8_tick 35 = .ok (.istore_n 2, 1) := by decide +kernel
theorem dX8_tick_36 : decode cX8_tick 36 = .ok (.iload_n 2, 1) := by decide +kernel
theorem dX8_tick_37 : decode cX8_tick 37 = .ok (.bipush 16, 2) := by decide +kernel
theorem dX8_tick_39 : decode cX8_tick 39 = .ok (.if_icmp .ge 14, 3) := by decide +kernel
theorem dX8_tick_42 : decode cX8_tick 42 = .ok (.aload_n 0, 1) := by decide +kernel
theorem dX8_tick_43 : decode cX8_tick 43 = .ok (.iload_n 2, 1) := by decide +kernel
theorem dX8_tick_44 : decode cX8_tick 44 = .ok (.invokevirtual 267, 3) := by decide +kernel
theorem dX8_tick_47 : decode cX8_tick 47 = .ok (.iinc 2 1, 3) := by decide +kernel
theorem dX8_tick_50 : decode cX8_tick 50 = .ok (.goto (-14), 3) := by decide +kernel
theorem dX8_tick_53 : decode cX8_tick 53 = .ok (.aload_n 0, 1) := by decide +kernel
theorem dX8_tick_54 : decode cX8_tick 54 = .ok (.iconst 0, 1) := by decide +kernel
theorem dX8_tick_55 : decode cX8_tick 55 = .ok (.putfield 250, 3) := by decide +kernel
theorem dX8_tick_58 : decode cX8_tick 58 = .ok (.iconst 0, 1) := by decide +kernel
theorem dX8_tick_59 : decode cX8_tick 59 = .ok (.istore_n 2, 1) := by decide +kernel
theorem dX8_tick_60 : decode cX8_tick 60 = .ok (.iload_n 2, 1) := by decide +kernel
theorem dX8_tick_61 : decode cX8_tick 61 = .ok (.bipush 16, 2) := by decide +kernel
theorem dX8_tick_63 : decode cX8_tick 63 = .ok (.if_icmp .ge 14, 3) := by decide +kernel
theorem dX8_tick_66 : decode cX8_tick 66 = .ok (.aload_n 0, 1) := by decide +kernel
theorem dX8_tick_67 : decode cX8_tick 67 = .ok (.iload_n 2, 1) := by decide +kernel
theorem dX8_tick_68 : decode cX8_tick 68 = .ok (.invokevirtual 270, 3) := by decide +kernel
theorem dX8_tick_71 : decode cX8_tick 71 = .ok (.iinc 2 1, 3) := by decide +kernel
theorem dX8_tick_74 : decode cX8_tick 74 = .ok (.goto (-14), 3) := by decide +kernel
theorem dX8_tick_77 : decode cX8_tick 77 = .ok (.aload_n 0, 1) := by decide +kernel
theorem dX8_tick_78 : decode cX8_tick 78 = .ok (.dup, 1) := by decide +kernel
theorem dX8_tick_79 : decode cX8_tick 79 = .ok (.getfield 213, 3) := by decide +kernel
theorem dX8_tick_82 : decode cX8_tick 82 = .ok (.iconst 1, 1) := by decide +kernel
theorem dX8_tick_83 : decode cX8_tick 83 = .ok (.iadd, 1) := by decide +kernel
theorem dX8_tick_84 : decode cX8_tick 84 = .ok (.putfield 213, 3) := by decide +kernel
theorem dX8_tick_87 : decode cX8_tick 87 = .ok (.aload_n 0, 1) := by decide +kernel
theorem dX8_tick_88 : decode cX8_tick 88 = .ok (.aload_n 0, 1) := by decide +kernel
theorem dX8_tick_89 : decode cX8_tick 89 = .ok (.getfield 250, 3) := by decide +kernel
theorem dX8_tick_92 : decode cX8_tick 92 = .ok (.ifCond .eq 7, 3) := by decide +kernel
theorem dX8_tick_95 : decode cX8_tick 95 = .ok (.iconst 0, 1) := by decide +kernel
theorem dX8_tick_96 : decode cX8_tick 96 = .ok (.goto 9, 3) := by decide +kernel
theorem dX8_tick_99 : decode cX8_tick 99 = .ok (.aload_n 0, 1) := by decide +kernel
theorem dX8_tick_100 : decode cX8_tick 100 = .ok (.getfield 151, 3) := by decide +kernel
theorem dX8_tick_103 : decode cX8_tick 103 = .ok (.iconst 1, 1) := by decide +kernel
theorem dX8_tick_104 : decode cX8_tick 104 = .ok (.iadd, 1) := by decide +kernel
theorem dX8_tick_105 : decode cX8_tick 105 = .ok (.putfield 151, 3) := by decide +kernel
theorem dX8_tick_108 : decode cX8_tick 108 = .ok (.aload_n 0, 1) := by decide +kernel
theorem dX8_tick_109 : decode cX8_tick 109 = .ok (.getfield 151, 3) := by decide +kernel
theorem dX8_tick_112 : decode cX8_tick 112 = .ok (.sipush 300, 3) := by decide +kernel
theorem dX8_tick_115 : decode cX8_tick 115 = .ok (.if_icmp .lt 20, 3) := by decide +kernel
theorem dX8_tick_118 : decode cX8_tick 118 = .ok (.aload_n 0, 1) := by decide +kernel
theorem dX8_tick_119 : decode cX8_tick 119 = .ok (.invokevirtual 273, 3) := by decide +kernel
theorem dX8_tick_122 : decode cX8_tick 122 = .ok (.ifCond .ne 13, 3) := by decide +kernel
theorem dX8_tick_125 : decode cX8_tick 125 = .ok (.aload_n 0, 1) := by decide +kernel
theorem dX8_tick_126 : decode cX8_tick 126 = .ok (.dup, 1) := by decide +kernel
theorem dX8_tick_127 : decode cX8_tick 127 = .ok (.getfield 277, 3) := by decide +kernel
theorem dX8_tick_130 : decode cX8_tick 130 = .ok (.iconst 1, 1) := by decide +kernel
theorem dX8_tick_131 : decode cX8_tick 131 = .ok (.iadd, 1) := by decide +kernel
theorem dX8_tick_132 : decode cX8_tick 132 = .ok (.putfield 277, 3) := by decide +kernel
theorem dX8_tick_135 : decode cX8_tick 135 = .ok (.iload_n 1, 1) := by decide +kernel
theorem dX8_tick_136 : decode cX8_tick 136 = .ok (.ireturn, 1) := by decide +kernel
noncomputable def bX8_tick_0 (Q : Option Value → MM → Prop) (nx : Nat → Kt) : Kt := ldA 0 (cV 0 8 wX8_comes 0 0 0 0 (stI 1 (cI 0 (stI 2 (nx 7)))))
noncomputable def bX8_tick_7 (Q : Option Value → MM → Prop) (nx : Nat → Kt) : Kt := ldI 2 (cI 16 (ifc (fun x y => y ≤ x) (nx 24) (ldA 0 (ldI 2 (cV 1 8 wX8_ages 0 0 0 0 (inc 2 1 (nx 7)))))))
noncomputable def bX8_tick_24 (Q : Option Value → MM → Prop) (nx : Nat → Kt) : Kt := ldA 0 (cI 0 (cV 1 8 wX8_chooses 0 0 0 0 (ldA 0 (cI 1 (cV 1 8 wX8_chooses 0 0 0 0 (cI 0 (stI 2 (nx 36))))))))
noncomputable def bX8_tick_36 (Q : Option Value → MM → Prop) (nx : Nat → Kt) : Kt := ldI 2 (cI 16 (ifc (fun x y => y ≤ x) (nx 53) (ldA 0 (ldI 2 (cV 1 8 wX8_steps 0 0 0 0 (inc 2 1 (nx 36)))))))
noncomputable def bX8_tick_53 (Q : Option Value → MM → Prop) (nx : Nat → Kt) : Kt := ldA 0 (cI 0 (tZ 8 50 (cI 0 (stI 2 (nx 60)))))
noncomputable def bX8_tick_60 (Q : Option Value → MM → Prop) (nx : Nat → Kt) : Kt := ldI 2 (cI 16 (ifc (fun x y => y ≤ x) (nx 77) (ldA 0 (ldI 2 (cV 1 8 wX8_puts 0 0 0 0 (inc 2 1 (nx 60)))))))
noncomputable def bX8_tick_77 (Q : Option Value → MM → Prop) (nx : Nat → Kt) : Kt := ldA 0 (du (gI 8 43 (cI 1 (bop (fun x y => x + y) (tI 8 43 (ldA 0 (ldA 0 (gI 8 50 (ifz (fun x => x = 0) (nx 99) (cI 0 (nx 105)))))))))))
noncomputable def bX8_tick_99 (Q : Option Value → MM → Prop) (nx : Nat → Kt) : Kt := ldA 0 (gI 8 44 (cI 1 (bop (fun x y => x + y) (nx 105))))
noncomputable def bX8_tick_105 (Q : Option Value → MM → Prop) (nx : Nat → Kt) : Kt := tI 8 44 (ldA 0 (gI 8 44 (cI 300 (ifc (fun x y => x < y) (nx 135) (ldA 0 (cV 0 8 wX8_isAsMeant 0 0 0 0 (ifz (fun x => x = 0) (ldA 0 (du (gI 8 47 (cI 1 (bop (fun x y => x + y) (tI 8 47 (nx 135))))))) (nx 135))))))))
noncomputable def bX8_tick_135 (Q : Option Value → MM → Prop) (nx : Nat → Kt) : Kt := ldI 1 (rI Q)
noncomputable def kX8_tick (Q : Option Value → MM → Prop) (nx : Nat → Kt) : Nat → Kt := bse [(0, bX8_tick_0 Q nx), (7, bX8_tick_7 Q nx), (24, bX8_tick_24 Q nx), (36, bX8_tick_36 Q nx), (53, bX8_tick_53 Q nx), (60, bX8_tick_60 Q nx), (77, bX8_tick_77 Q nx), (99, bX8_tick_99 Q nx), (105, bX8_tick_105 Q nx), (135, bX8_tick_135 Q nx)]
abbrev rX8_tick : Room := { frames := 4, cells := 0, slots := 0, locals := 94 }
noncomputable def wX8_tick : Mw := mw 3 kX8_tick
set_option maxRecDepth 20000 in
theorem oX8_tick_0 {T : Ct} {Q : Option Value → MM → Prop} (C : Cx T cX8_tick 3 RX8 0 0) (CR : CxR T 4 94) (hr : T.2.2.2.2.2.2.2.2.1.sig.returnType = (some .int)) (hnm : T.2.2.2.2.2.2.2.2.1.name = "tick") {nx : Nat → Kt} (hn : ∀ pc, Sd T 3 (QT T Q 0 0) 0 0 pc (nx pc)) : Sd T 3 (QT T Q 0 0) 0 0 0 (bX8_tick_0 Q nx) := x_al_n C dX8_tick_0 rfl (x_cV C CR mX8_comes ⟨co_X8_comes, init_X8, md_X8_comes, by decide, by decide⟩ (ci := 8) (TX := TX8) (N := 51) rfl (by decide) ml_X8_258 im_X8_comes se_X8_comes dX8_tick_1 (x_is_n C dX8_tick_4 rfl (by decide) (x_ic C dX8_tick_5 (by decide) (x_is_n C dX8_tick_6 rfl (by decide) (hn 7)))))
set_option maxRecDepth 20000 in
theorem oX8_tick_7 {T : Ct} {Q : Option Value → MM → Prop} (C : Cx T cX8_tick 3 RX8 0 0) (CR : CxR T 4 94) (hr : T.2.2.2.2.2.2.2.2.1.sig.returnType = (some .int)) (hnm : T.2.2.2.2.2.2.2.2.1.name = "tick") {nx : Nat → Kt} (hn : ∀ pc, Sd T 3 (QT T Q 0 0) 0 0 pc (nx pc)) : Sd T 3 (QT T Q 0 0) 0 0 7 (bX8_tick_7 Q nx) := x_il_n C dX8_tick_7 rfl (x_bp C dX8_tick_8 (by decide) (x_ic_ge C (hn 24) dX8_tick_10 (by decide) (x_al_n C dX8_tick_13 rfl (x_il_n C dX8_tick_14 rfl (x_cV C CR mX8_ages ⟨co_X8_ages, init_X8, md_X8_ages, by decide, by decide⟩ (ci := 8) (TX := TX8) (N := 51) rfl (by decide) ml_X8_261 im_X8_ages se_X8_ages dX8_tick_15 (x_inc C dX8_tick_18 (by decide) (by decide) (x_goto C (hn 7) dX8_tick_21 (by decide))))))))
set_option maxRecDepth 20000 in
theorem oX8_tick_24 {T : Ct} {Q : Option Value → MM → Prop} (C : Cx T cX8_tick 3 RX8 0 0) (CR : CxR T 4 94) (hr : T.2.2.2.2.2.2.2.2.1.sig.returnType = (some .int)) (hnm : T.2.2.2.2.2.2.2.2.1.name = "tick") {nx : Nat → Kt} (hn : ∀ pc, Sd T 3 (QT T Q 0 0) 0 0 pc (nx pc)) : Sd T 3 (QT T Q 0 0) 0 0 24 (bX8_tick_24 Q nx) := x_al_n C dX8_tick_24 rfl (x_ic C dX8_tick_25 (by decide) (x_cV C CR mX8_chooses ⟨co_X8_chooses, init_X8, md_X8_chooses, by decide, by decide⟩ (ci := 8) (TX := TX8) (N := 51) rfl (by decide) ml_X8_264 im_X8_chooses se_X8_chooses dX8_tick_26 (x_al_n C dX8_tick_29 rfl (x_ic C dX8_tick_30 (by decide) (x_cV C CR mX8_chooses ⟨co_X8_chooses, init_X8, md_X8_chooses, by decide, by decide⟩ (ci := 8) (TX := TX8) (N := 51) rfl (by decide) ml_X8_264 im_X8_chooses se_X8_chooses dX8_tick_31 (x_ic C dX8_tick_34 (by decide) (x_is_n C dX8_tick_35 rfl (by decide) (hn 36))))))))
set_option maxRecDepth 20000 in
theorem oX8_tick_36 {T : Ct} {Q : Option Value → MM → Prop} (C : Cx T cX8_tick 3 RX8 0 0) (CR : CxR T 4 94) (hr : T.2.2.2.2.2.2.2.2.1.sig.returnType = (some .int)) (hnm : T.2.2.2.2.2.2.2.2.1.name = "tick") {nx : Nat → Kt} (hn : ∀ pc, Sd T 3 (QT T Q 0 0) 0 0 pc (nx pc)) : Sd T 3 (QT T Q 0 0) 0 0 36 (bX8_tick_36 Q nx) := x_il_n C dX8_tick_36 rfl (x_bp C dX8_tick_37 (by decide) (x_ic_ge C (hn 53) dX8_tick_39 (by decide) (x_al_n C dX8_tick_42 rfl (x_il_n C dX8_tick_43 rfl (x_cV C CR mX8_steps ⟨co_X8_steps, init_X8, md_X8_steps, by decide, by decide⟩ (ci := 8) (TX := TX8) (N := 51) rfl (by decide) ml_X8_267 im_X8_steps se_X8_steps dX8_tick_44 (x_inc C dX8_tick_47 (by decide) (by decide) (x_goto C (hn 36) dX8_tick_50 (by decide))))))))
set_option maxRecDepth 20000 in
theorem oX8_tick_53 {T : Ct} {Q : Option Value → MM → Prop} (C : Cx T cX8_tick 3 RX8 0 0) (CR : CxR T 4 94) (hr : T.2.2.2.2.2.2.2.2.1.sig.returnType = (some .int)) (hnm : T.2.2.2.2.2.2.2.2.1.name = "tick") {nx : Nat → Kt} (hn : ∀ pc, Sd T 3 (QT T Q 0 0) 0 0 pc (nx pc)) : Sd T 3 (QT T Q 0 0) 0 0 53 (bX8_tick_53 Q nx) := x_al_n C dX8_tick_53 rfl (x_ic C dX8_tick_54 (by decide) (pf_X8_250 C dX8_tick_55 (x_ic C dX8_tick_58 (by decide) (x_is_n C dX8_tick_59 rfl (by decide) (hn 60)))))
set_option maxRecDepth 20000 in
theorem oX8_tick_60 {T : Ct} {Q : Option Value → MM → Prop} (C : Cx T cX8_tick 3 RX8 0 0) (CR : CxR T 4 94) (hr : T.2.2.2.2.2.2.2.2.1.sig.returnType = (some .int)) (hnm : T.2.2.2.2.2.2.2.2.1.name = "tick") {nx : Nat → Kt} (hn : ∀ pc, Sd T 3 (QT T Q 0 0) 0 0 pc (nx pc)) : Sd T 3 (QT T Q 0 0) 0 0 60 (bX8_tick_60 Q nx) := x_il_n C dX8_tick_60 rfl (x_bp C dX8_tick_61 (by decide) (x_ic_ge C (hn 77) dX8_tick_63 (by decide) (x_al_n C dX8_tick_66 rfl (x_il_n C dX8_tick_67 rfl (x_cV C CR mX8_puts ⟨co_X8_puts, init_X8, md_X8_puts, by decide, by decide⟩ (ci := 8) (TX := TX8) (N := 51) rfl (by decide) ml_X8_270 im_X8_puts se_X8_puts dX8_tick_68 (x_inc C dX8_tick_71 (by decide) (by decide) (x_goto C (hn 60) dX8_tick_74 (by decide))))))))
set_option maxRecDepth 20000 in
theorem oX8_tick_77 {T : Ct} {Q : Option Value → MM → Prop} (C : Cx T cX8_tick 3 RX8 0 0) (CR : CxR T 4 94) (hr : T.2.2.2.2.2.2.2.2.1.sig.returnType = (some .int)) (hnm : T.2.2.2.2.2.2.2.2.1.name = "tick") {nx : Nat → Kt} (hn : ∀ pc, Sd T 3 (QT T Q 0 0) 0 0 pc (nx pc)) : Sd T 3 (QT T Q 0 0) 0 0 77 (bX8_tick_77 Q nx) := x_al_n C dX8_tick_77 rfl (x_dup C dX8_tick_78 (gf_X8_213 C dX8_tick_79 (x_ic C dX8_tick_82 (by decide) (x_iadd C dX8_tick_83 (pf_X8_213 C dX8_tick_84 (x_al_n C dX8_tick_87 rfl (x_al_n C dX8_tick_88 rfl (gf_X8_250 C dX8_tick_89 (x_if_eq C (hn 99) dX8_tick_92 (by decide) (x_ic C dX8_tick_95 (by decide) (x_goto C (hn 105) dX8_tick_96 (by decide))))))))))))
set_option maxRecDepth 20000 in
theorem oX8_tick_99 {T : Ct} {Q : Option Value → MM → Prop} (C : Cx T cX8_tick 3 RX8 0 0) (CR : CxR T 4 94) (hr : T.2.2.2.2.2.2.2.2.1.sig.returnType = (some .int)) (hnm : T.2.2.2.2.2.2.2.2.1.name = "tick") {nx : Nat → Kt} (hn : ∀ pc, Sd T 3 (QT T Q 0 0) 0 0 pc (nx pc)) : Sd T 3 (QT T Q 0 0) 0 0 99 (bX8_tick_99 Q nx) := x_al_n C dX8_tick_99 rfl (gf_X8_151 C dX8_tick_100 (x_ic C dX8_tick_103 (by decide) (x_iadd C dX8_tick_104 (hn 105))))
set_option maxRecDepth 20000 in
theorem oX8_tick_105 {T : Ct} {Q : Option Value → MM → Prop} (C : Cx T cX8_tick 3 RX8 0 0) (CR : CxR T 4 94) (hr : T.2.2.2.2.2.2.2.2.1.sig.returnType = (some .int)) (hnm : T.2.2.2.2.2.2.2.2.1.name = "tick") {nx : Nat → Kt} (hn : ∀ pc, Sd T 3 (QT T Q 0 0) 0 0 pc (nx pc)) : Sd T 3 (QT T Q 0 0) 0 0 105 (bX8_tick_105 Q nx) := pf_X8_151 C dX8_tick_105 (x_al_n C dX8_tick_108 rfl (gf_X8_151 C dX8_tick_109 (x_sp C dX8_tick_112 (by decide) (x_ic_lt C (hn 135) dX8_tick_115 (by decide) (x_al_n C dX8_tick_118 rfl (x_cV C CR mX8_isAsMeant ⟨co_X8_isAsMeant, init_X8, md_X8_isAsMeant, by decide, by decide⟩ (ci := 8) (TX := TX8) (N := 51) rfl (by decide) ml_X8_273 im_X8_isAsMeant se_X8_isAsMeant dX8_tick_119 (x_if_ne C (hn 135) dX8_tick_122 (by decide) (x_al_n C dX8_tick_125 rfl (x_dup C dX8_tick_126 (gf_X8_277 C dX8_tick_127 (x_ic C dX8_tick_130 (by decide) (x_iadd C dX8_tick_131 (pf_X8_277 C dX8_tick_132 (hn 135))))))))))))))
set_option maxRecDepth 20000 in
theorem oX8_tick_135 {T : Ct} {Q : Option Value → MM → Prop} (C : Cx T cX8_tick 3 RX8 0 0) (CR : CxR T 4 94) (hr : T.2.2.2.2.2.2.2.2.1.sig.returnType = (some .int)) (hnm : T.2.2.2.2.2.2.2.2.1.name = "tick") {nx : Nat → Kt} (hn : ∀ pc, Sd T 3 (QT T Q 0 0) 0 0 pc (nx pc)) : Sd T 3 (QT T Q 0 0) 0 0 135 (bX8_tick_135 Q nx) := x_il_n C dX8_tick_135 rfl (x_rI C hr dX8_tick_136)
set_option maxRecDepth 20000 in
theorem mX8_tick (l : Launch) (D : va_G) (cA : Nat → ClassId) (base : Nat) : Mc l D cA base yX8_tick cX8_tick 3 (some .int) rX8_tick wX8_tick := mc_of (by decide +kernel) kX8_tick (fun T Q C CR hr hnm nx hn => bse_ok _ (List.forall_mem_cons.mpr ⟨oX8_tick_0 C CR hr hnm hn, List.forall_mem_cons.mpr ⟨oX8_tick_7 C CR hr hnm hn, List.forall_mem_cons.mpr ⟨oX8_tick_24 C CR hr hnm hn, List.forall_mem_cons.mpr ⟨oX8_tick_36 C CR hr hnm hn, List.forall_mem_cons.mpr ⟨oX8_tick_53 C CR hr hnm hn, List.forall_mem_cons.mpr ⟨oX8_tick_60 C CR hr hnm hn, List.forall_mem_cons.mpr ⟨oX8_tick_77 C CR hr hnm hn, List.forall_mem_cons.mpr ⟨oX8_tick_99 C CR hr hnm hn, List.forall_mem_cons.mpr ⟨oX8_tick_105 C CR hr hnm hn, List.forall_mem_cons.mpr ⟨oX8_tick_135 C CR hr hnm hn, fun _ h => nomatch h⟩⟩⟩⟩⟩⟩⟩⟩⟩⟩))
theorem dX8_tick__0 : decode cX8_tick_ 0 = .ok (.aload_n 0, 1) := by decide +kernel
theorem dX8_tick__1 : decode cX8_tick_ 1 = .ok (.iload_n 1, 1) := by decide +kernel
theorem dX8_tick__2 : decode cX8_tick_ 2 = .ok (.iconst 1, 1) := by decide +kernel
theorem dX8_tick__3 : decode cX8_tick_ 3 = .ok (.if_icmp .lt 10, 3) := by decide +kernel
theorem dX8_tick__6 : decode cX8_tick_ 6 = .ok (.iload_n 1, 1) := by decide +kernel
theorem dX8_tick__7 : decode cX8_tick_ 7 = .ok (.sipush 1000, 3) := by decide +kernel
theorem dX8_tick__10 : decode cX8_tick_ 10 = .ok (.if_icmp .le 7, 3) := by decide +kernel
theorem dX8_tick__13 : decode cX8_tick_ 13 = .ok (.iconst 1, 1) := by decide +kernel
theorem dX8_tick__14 : decode cX8_tick_ 14 = .ok (.goto 4, 3) := by decide +kernel
theorem dX8_tick__17 : decode cX8_tick_ 17 = .ok (.iconst 0, 1) := by decide +kernel
theorem dX8_tick__18 : decode cX8_tick_ 18 = .ok (.putfield 132, 3) := by decide +kernel
theorem dX8_tick__21 : decode cX8_tick_ 21 = .ok (.iconst 0, 1) := by decide +kernel
theorem dX8_tick__22 : decode cX8_tick_ 22 = .ok (.istore_n 2, 1) := by decide +kernel
theorem dX8_tick__23 : decode cX8_tick_ 23 = .ok (.iconst 0, 1) := by decide +kernel
theorem dX8_tick__24 : decode cX8_tick_ 24 = .ok (.istore_n 3, 1) := by decide +kernel
theorem dX8_tick__25 : decode cX8_tick_ 25 = .ok (.iload_n 3, 1) := by decide +kernel
theorem dX8_tick__26 : decode cX8_tick_ 26 = .ok (.iload_n 1, 1) := by decide +kernel
theorem dX8_tick__27 : decode cX8_tick_ 27 = .ok (.if_icmp .ge 23, 3) := by decide +kernel
theorem dX8_tick__30 : decode cX8_tick_ 30 = .ok (.aload_n 0, 1) := by decide +kernel
theorem dX8_tick__31 : decode cX8_tick_ 31 = .ok (.getfield 132, 3) := by decide +kernel
theorem dX8_tick__34 : decode cX8_tick_ 34 = .ok (.ifCond .ne 16, 3) := by decide +kernel
theorem dX8_tick__37 : decode cX8_tick_ 37 = .ok (.iload_n 2, 1) := by decide +kernel
theorem dX8_tick__38 : decode cX8_tick_ 38 = .ok (.aload_n 0, 1) := by decide +kernel
theorem dX8_tick__39 : decode cX8_tick_ 39 = .ok (.invokevirtual 280, 3) := by decide +kernel
theorem dX8_tick__42 : decode cX8_tick_ 42 = .ok (.iadd, 1) := by decide +kernel
theorem dX8_tick__43 : decode cX8_tick_ 43 = .ok (.istore_n 2, 1) := by decide +kernel
theorem dX8_tick__44 : decode cX8_tick_ 44 = .ok (.iinc 3 1, 3) := by decide +kernel
theorem dX8_tick__47 : decode cX8_tick_ 47 = .ok (.goto (-22), 3) := by decide +kernel
theorem dX8_tick__50 : decode cX8_tick_ 50 = .ok (.iload_n 2, 1) := by decide +kernel
theorem dX8_tick__51 : decode cX8_tick_ 51 = .ok (.ireturn, 1) := by decide +kernel
noncomputable def bX8_tick__0 (Q : Option Value → MM → Prop) (nx : Nat → Kt) : Kt := ldA 0 (ldI 1 (cI 1 (ifc (fun x y => x < y) (nx 13) (ldI 1 (cI 1000 (ifc (fun x y => x ≤ y) (nx 17) (nx 13)))))))
noncomputable def bX8_tick__13 (Q : Option Value → MM → Prop) (nx : Nat → Kt) : Kt := cI 1 (nx 18)
noncomputable def bX8_tick__17 (Q : Option Value → MM → Prop) (nx : Nat → Kt) : Kt := cI 0 (nx 18)
noncomputable def bX8_tick__18 (Q : Option Value → MM → Prop) (nx : Nat → Kt) : Kt := tI 8 0 (cI 0 (stI 2 (cI 0 (stI 3 (nx 25)))))
noncomputable def bX8_tick__25 (Q : Option Value → MM → Prop) (nx : Nat → Kt) : Kt := ldI 3 (ldI 1 (ifc (fun x y => y ≤ x) (nx 50) (ldA 0 (gI 8 0 (ifz (fun x => x = 0) (ldI 2 (ldA 0 (cV 0 8 wX8_tick 0 0 0 0 (bop (fun x y => x + y) (stI 2 (inc 3 1 (nx 25))))))) (nx 50))))))
noncomputable def bX8_tick__50 (Q : Option Value → MM → Prop) (nx : Nat → Kt) : Kt := ldI 2 (rI Q)
noncomputable def kX8_tick_ (Q : Option Value → MM → Prop) (nx : Nat → Kt) : Nat → Kt := bse [(0, bX8_tick__0 Q nx), (13, bX8_tick__13 Q nx), (17, bX8_tick__17 Q nx), (18, bX8_tick__18 Q nx), (25, bX8_tick__25 Q nx), (50, bX8_tick__50 Q nx)]
abbrev rX8_tick_ : Room := { frames := 5, cells := 0, slots := 0, locals := 116 }
noncomputable def wX8_tick_ : Mw := mw 4 kX8_tick_
set_option maxRecDepth 20000 in
theorem oX8_tick__0 {T : Ct} {Q : Option Value → MM → Prop} (C : Cx T cX8_tick_ 4 RX8 0 0) (CR : CxR T 5 116) (hr : T.2.2.2.2.2.2.2.2.1.sig.returnType = (some .int)) (hnm : T.2.2.2.2.2.2.2.2.1.name = "tick") {nx : Nat → Kt} (hn : ∀ pc, Sd T 4 (QT T Q 0 0) 0 0 pc (nx pc)) : Sd T 4 (QT T Q 0 0) 0 0 0 (bX8_tick__0 Q nx) := x_al_n C dX8_tick__0 rfl (x_il_n C dX8_tick__1 rfl (x_ic C dX8_tick__2 (by decide) (x_ic_lt C (hn 13) dX8_tick__3 (by decide) (x_il_n C dX8_tick__6 rfl (x_sp C dX8_tick__7 (by decide) (x_ic_le C (hn 17) dX8_tick__10 (by decide) (hn 13)))))))
set_option maxRecDepth 20000 in
theorem oX8_tick__13 {T : Ct} {Q : Option Value → MM → Prop} (C : Cx T cX8_tick_ 4 RX8 0 0) (CR : CxR T 5 116) (hr : T.2.2.2.2.2.2.2.2.1.sig.returnType = (some .int)) (hnm : T.2.2.2.2.2.2.2.2.1.name = "tick") {nx : Nat → Kt} (hn : ∀ pc, Sd T 4 (QT T Q 0 0) 0 0 pc (nx pc)) : Sd T 4 (QT T Q 0 0) 0 0 13 (bX8_tick__13 Q nx) := x_ic C dX8_tick__13 (by decide) (x_goto C (hn 18) dX8_tick__14 (by decide))
set_option maxRecDepth 20000 in
theorem oX8_tick__17 {T : Ct} {Q : Option Value → MM → Prop} (C : Cx T cX8_tick_ 4 RX8 0 0) (CR : CxR T 5 116) (hr : T.2.2.2.2.2.2.2.2.1.sig.returnType = (some .int)) (hnm : T.2.2.2.2.2.2.2.2.1.name = "tick") {nx : Nat → Kt} (hn : ∀ pc, Sd T 4 (QT T Q 0 0) 0 0 pc (nx pc)) : Sd T 4 (QT T Q 0 0) 0 0 17 (bX8_tick__17 Q nx) := x_ic C dX8_tick__17 (by decide) (hn 18)
set_option maxRecDepth 20000 in
theorem oX8_tick__18 {T : Ct} {Q : Option Value → MM → Prop} (C : Cx T cX8_tick_ 4 RX8 0 0) (CR : CxR T 5 116) (hr : T.2.2.2.2.2.2.2.2.1.sig.returnType = (some .int)) (hnm : T.2.2.2.2.2.2.2.2.1.name = "tick") {nx : Nat → Kt} (hn : ∀ pc, Sd T 4 (QT T Q 0 0) 0 0 pc (nx pc)) : Sd T 4 (QT T Q 0 0) 0 0 18 (bX8_tick__18 Q nx) := pf_X8_132 C dX8_tick__18 (x_ic C dX8_tick__21 (by decide) (x_is_n C dX8_tick__22 rfl (by decide) (x_ic C dX8_tick__23 (by decide) (x_is_n C dX8_tick__24 rfl (by decide) (hn 25)))))
set_option maxRecDepth 20000 in
theorem oX8_tick__25 {T : Ct} {Q : Option Value → MM → Prop} (C : Cx T cX8_tick_ 4 RX8 0 0) (CR : CxR T 5 116) (hr : T.2.2.2.2.2.2.2.2.1.sig.returnType = (some .int)) (hnm : T.2.2.2.2.2.2.2.2.1.name = "tick") {nx : Nat → Kt} (hn : ∀ pc, Sd T 4 (QT T Q 0 0) 0 0 pc (nx pc)) : Sd T 4 (QT T Q 0 0) 0 0 25 (bX8_tick__25 Q nx) := x_il_n C dX8_tick__25 rfl (x_il_n C dX8_tick__26 rfl (x_ic_ge C (hn 50) dX8_tick__27 (by decide) (x_al_n C dX8_tick__30 rfl (gf_X8_132 C dX8_tick__31 (x_if_ne C (hn 50) dX8_tick__34 (by decide) (x_il_n C dX8_tick__37 rfl (x_al_n C dX8_tick__38 rfl (x_cV C CR mX8_tick ⟨co_X8_tick, init_X8, md_X8_tick, by decide, by decide⟩ (ci := 8) (TX := TX8) (N := 51) rfl (by decide) ml_X8_280 im_X8_tick se_X8_tick dX8_tick__39 (x_iadd C dX8_tick__42 (x_is_n C dX8_tick__43 rfl (by decide) (x_inc C dX8_tick__44 (by decide) (by decide) (x_goto C (hn 25) dX8_tick__47 (by decide)))))))))))))
set_option maxRecDepth 20000 in
theorem oX8_tick__50 {T : Ct} {Q : Option Value → MM → Prop} (C : Cx T cX8_tick_ 4 RX8 0 0) (CR : CxR T 5 116) (hr : T.2.2.2.2.2.2.2.2.1.sig.returnType = (some .int)) (hnm : T.2.2.2.2.2.2.2.2.1.name = "tick") {nx : Nat → Kt} (hn : ∀ pc, Sd T 4 (QT T Q 0 0) 0 0 pc (nx pc)) : Sd T 4 (QT T Q 0 0) 0 0 50 (bX8_tick__50 Q nx) := x_il_n C dX8_tick__50 rfl (x_rI C hr dX8_tick__51)
set_option maxRecDepth 20000 in
theorem mX8_tick_ (l : Launch) (D : va_G) (cA : Nat → ClassId) (base : Nat) : Mc l D cA base yX8_tick_ cX8_tick_ 4 (some .int) rX8_tick_ wX8_tick_ := mc_of (by decide +kernel) kX8_tick_ (fun T Q C CR hr hnm nx hn => bse_ok _ (List.forall_mem_cons.mpr ⟨oX8_tick__0 C CR hr hnm hn, List.forall_mem_cons.mpr ⟨oX8_tick__13 C CR hr hnm hn, List.forall_mem_cons.mpr ⟨oX8_tick__17 C CR hr hnm hn, List.forall_mem_cons.mpr ⟨oX8_tick__18 C CR hr hnm hn, List.forall_mem_cons.mpr ⟨oX8_tick__25 C CR hr hnm hn, List.forall_mem_cons.mpr ⟨oX8_tick__50 C CR hr hnm hn, fun _ h => nomatch h⟩⟩⟩⟩⟩⟩))
theorem dX8_on_0 : decode cX8_on 0 = .ok (.iconst 0, 1) := by decide +kernel
theorem dX8_on_1 : decode cX8_on 1 = .ok (.istore 4, 2) := by decide +kernel
theorem dX8_on_3 : decode cX8_on 3 = .ok (.iconst 0, 1) := by decide +kernel
theorem dX8_on_4 : decode cX8_on 4 = .ok (.istore 5, 2) := by decide +kernel
theorem dX8_on_6 : decode cX8_on 6 = .ok (.iload 5, 2) := by decide +kernel
theorem dX8_on_8 : decode cX8_on 8 = .ok (.aload_n 0, 1) := by decide +kernel
theorem dX8_on_9 : decode cX8_on 9 = .ok (.getfield 166, 3) := by decide +kernel
theorem dX8_on_12 : decode cX8_on 12 = .ok (.if_icmp .ge 61, 3) := by decide +kernel
theorem dX8_on_15 : decode cX8_on 15 = .ok (.iload 4, 2) := by decide +kernel
theorem dX8_on_17 : decode cX8_on 17 = .ok (.aload_n 0, 1) := by decide +kernel
theorem dX8_on_18 : decode cX8_on 18 = .ok (.getfield 89, 3) := by decide +kernel
theorem dX8_on_21 : decode cX8_on 21 = .ok (.iload 5, 2) := by decide +kernel
theorem dX8_on_23 : decode cX8_on 23 = .ok (.iaload, 1) := by decide +kernel
theorem dX8_on_24 : decode cX8_on 24 = .ok (.iload_n 1, 1) := by decide +kernel
theorem dX8_on_25 : decode cX8_on 25 = .ok (.if_icmp .ne 38, 3) := by decide +kernel
theorem dX8_on_28 : decode cX8_on 28 = .ok (.aload_n 0, 1) := by decide +kernel
theorem dX8_on_29 : decode cX8_on 29 = .ok (.getfield 92, 3) := by decide +kernel
theorem dX8_on_32 : decode cX8_on 32 = .ok (.iload 5, 2) := by decide +kernel
theorem dX8_on_34 : decode cX8_on 34 = .ok (.iaload, 1) := by decide +kernel
theorem dX8_on_35 : decode cX8_on 35 = .ok (.iload_n 2, 1) := by decide +kernel
theorem dX8_on_36 : decode cX8_on 36 = .ok (.if_icmp .ne 27, 3) := by decide +kernel
theorem dX8_on_39 : decode cX8_on 39 = .ok (.aload_n 0, 1) := by decide +kernel
theorem dX8_on_40 : decode cX8_on 40 = .ok (.getfield 98, 3) := by decide +kernel
theorem dX8_on_43 : decode cX8_on 43 = .ok (.iload 5, 2) := by decide +kernel
theorem dX8_on_45 : decode cX8_on 45 = .ok (.iaload, 1) := by decide +kernel
theorem dX8_on_46 : decode cX8_on 46 = .ok (.iconst (-1), 1) := by decide +kernel
theorem dX8_on_47 : decode cX8_on 47 = .ok (.if_icmp .ne 7, 3) := by decide +kernel
theorem dX8_on_50 : decode cX8_on 50 = .ok (.iconst 1, 1) := by decide +kernel
theorem dX8_on_51 : decode cX8_on 51 = .ok (.goto 4, 3) := by decide +kernel
theorem dX8_on_54 : decode cX8_on 54 = .ok (.iconst 0, 1) := by decide +kernel
theorem dX8_on_55 : decode cX8_on 55 = .ok (.iload_n 3, 1) := by decide +kernel
theorem dX8_on_56 : decode cX8_on 56 = .ok (.if_icmp .ne 7, 3) := by decide +kernel
theorem dX8_on_59 : decode cX8_on 59 = .ok (.iconst 1, 1) := by decide +kernel
theorem dX8_on_60 : decode cX8_on 60 = .ok (.goto 4, 3) := by decide +kernel
theorem dX8_on_63 : decode cX8_on 63 = .ok (.iconst 0, 1) := by decide +kernel
theorem dX8_on_64 : decode cX8_on 64 = .ok (.iadd, 1) := by decide +kernel
theorem dX8_on_65 : decode cX8_on 65 = .ok (.istore 4, 2) := by decide +kernel
theorem dX8_on_67 : decode cX8_on 67 = .ok (.iinc 5 1, 3) := by decide +kernel
theorem dX8_on_70 : decode cX8_on 70 = .ok (.goto (-64), 3) := by decide +kernel
theorem dX8_on_73 : decode cX8_on 73 = .ok (.iload 4, 2) := by decide +kernel
theorem dX8_on_75 : decode cX8_on 75 = .ok (.ireturn, 1) := by decide +kernel
noncomputable def bX8_on_0 (Q : Option Value → MM → Prop) (nx : Nat → Kt) : Kt := cI 0 (stI 4 (cI 0 (stI 5 (nx 6))))
noncomputable def bX8_on_6 (Q : Option Value → MM → Prop) (nx : Nat → Kt) : Kt := ldI 5 (ldA 0 (gI 8 32 (ifc (fun x y => y ≤ x) (nx 73) (ldI 4 (ldA 0 (gR 8 27 (ldI 5 (aI 10 (ldI 1 (ifc (fun x y => x = y) (ldA 0 (gR 8 28 (ldI 5 (aI 10 (ldI 2 (ifc (fun x y => x = y) (ldA 0 (gR 8 30 (ldI 5 (aI 10 (cI (-1) (ifc (fun x y => x = y) (cI 1 (nx 55)) (nx 54))))))) (nx 63))))))) (nx 63)))))))))))
noncomputable def bX8_on_54 (Q : Option Value → MM → Prop) (nx : Nat → Kt) : Kt := cI 0 (nx 55)
noncomputable def bX8_on_55 (Q : Option Value → MM → Prop) (nx : Nat → Kt) : Kt := ldI 3 (ifc (fun x y => x = y) (cI 1 (nx 64)) (nx 63))
noncomputable def bX8_on_63 (Q : Option Value → MM → Prop) (nx : Nat → Kt) : Kt := cI 0 (nx 64)
noncomputable def bX8_on_64 (Q : Option Value → MM → Prop) (nx : Nat → Kt) : Kt := bop (fun x y => x + y) (stI 4 (inc 5 1 (nx 6)))
noncomputable def bX8_on_73 (Q : Option Value → MM → Prop) (nx : Nat → Kt) : Kt := ldI 4 (rI Q)
noncomputable def kX8_on (Q : Option Value → MM → Prop) (nx : Nat → Kt) : Nat → Kt := bse [(0, bX8_on_0 Q nx), (6, bX8_on_6 Q nx), (54, bX8_on_54 Q nx), (55, bX8_on_55 Q nx), (63, bX8_on_63 Q nx), (64, bX8_on_64 Q nx), (73, bX8_on_73 Q nx)]
abbrev rX8_on : Room := { frames := 0, cells := 0, slots := 0, locals := 0 }
noncomputable def wX8_on : Mw := mw 6 kX8_on
set_option maxRecDepth 20000 in
theorem oX8_on_0 {T : Ct} {Q : Option Value → MM → Prop} (C : Cx T cX8_on 6 RX8 0 0) (CR : CxR T 0 0) (hr : T.2.2.2.2.2.2.2.2.1.sig.returnType = (some .int)) (hnm : T.2.2.2.2.2.2.2.2.1.name = "on") {nx : Nat → Kt} (hn : ∀ pc, Sd T 6 (QT T Q 0 0) 0 0 pc (nx pc)) : Sd T 6 (QT T Q 0 0) 0 0 0 (bX8_on_0 Q nx) := x_ic C dX8_on_0 (by decide) (x_is C dX8_on_1 (by decide) (x_ic C dX8_on_3 (by decide) (x_is C dX8_on_4 (by decide) (hn 6))))
set_option maxRecDepth 20000 in
theorem oX8_on_6 {T : Ct} {Q : Option Value → MM → Prop} (C : Cx T cX8_on 6 RX8 0 0) (CR : CxR T 0 0) (hr : T.2.2.2.2.2.2.2.2.1.sig.returnType = (some .int)) (hnm : T.2.2.2.2.2.2.2.2.1.name = "on") {nx : Nat → Kt} (hn : ∀ pc, Sd T 6 (QT T Q 0 0) 0 0 pc (nx pc)) : Sd T 6 (QT T Q 0 0) 0 0 6 (bX8_on_6 Q nx) := x_il C dX8_on_6 (x_al_n C dX8_on_8 rfl (gf_X8_166 C dX8_on_9 (x_ic_ge C (hn 73) dX8_on_12 (by decide) (x_il C dX8_on_15 (x_al_n C dX8_on_17 rfl (gf_X8_89 C dX8_on_18 (x_il C dX8_on_21 (x_iald C dX8_on_23 (x_il_n C dX8_on_24 rfl (x_ic_ne C (hn 63) dX8_on_25 (by decide) (x_al_n C dX8_on_28 rfl (gf_X8_92 C dX8_on_29 (x_il C dX8_on_32 (x_iald C dX8_on_34 (x_il_n C dX8_on_35 rfl (x_ic_ne C (hn 63) dX8_on_36 (by decide) (x_al_n C dX8_on_39 rfl (gf_X8_98 C dX8_on_40 (x_il C dX8_on_43 (x_iald C dX8_on_45 (x_ic C dX8_on_46 (by decide) (x_ic_ne C (hn 54) dX8_on_47 (by decide) (x_ic C dX8_on_50 (by decide) (x_goto C (hn 55) dX8_on_51 (by decide)))))))))))))))))))))))))
set_option maxRecDepth 20000 in
theorem oX8_on_54 {T : Ct} {Q : Option Value → MM → Prop} (C : Cx T cX8_on 6 RX8 0 0) (CR : CxR T 0 0) (hr : T.2.2.2.2.2.2.2.2.1.sig.returnType = (some .int)) (hnm : T.2.2.2.2.2.2.2.2.1.name = "on") {nx : Nat → Kt} (hn : ∀ pc, Sd T 6 (QT T Q 0 0) 0 0 pc (nx pc)) : Sd T 6 (QT T Q 0 0) 0 0 54 (bX8_on_54 Q nx) := x_ic C dX8_on_54 (by decide) (hn 55)
set_option maxRecDepth 20000 in
theorem oX8_on_55 {T : Ct} {Q : Option Value → MM → Prop} (C : Cx T cX8_on 6 RX8 0 0) (CR : CxR T 0 0) (hr : T.2.2.2.2.2.2.2.2.1.sig.returnType = (some .int)) (hnm : T.2.2.2.2.2.2.2.2.1.name = "on") {nx : Nat → Kt} (hn : ∀ pc, Sd T 6 (QT T Q 0 0) 0 0 pc (nx pc)) : Sd T 6 (QT T Q 0 0) 0 0 55 (bX8_on_55 Q nx) := x_il_n C dX8_on_55 rfl (x_ic_ne C (hn 63) dX8_on_56 (by decide) (x_ic C dX8_on_59 (by decide) (x_goto C (hn 64) dX8_on_60 (by decide))))
set_option maxRecDepth 20000 in
theorem oX8_on_63 {T : Ct} {Q : Option Value → MM → Prop} (C : Cx T cX8_on 6 RX8 0 0) (CR : CxR T 0 0) (hr : T.2.2.2.2.2.2.2.2.1.sig.returnType = (some .int)) (hnm : T.2.2.2.2.2.2.2.2.1.name = "on") {nx : Nat → Kt} (hn : ∀ pc, Sd T 6 (QT T Q 0 0) 0 0 pc (nx pc)) : Sd T 6 (QT T Q 0 0) 0 0 63 (bX8_on_63 Q nx) := x_ic C dX8_on_63 (by decide) (hn 64)
set_option maxRecDepth 20000 in
theorem oX8_on_64 {T : Ct} {Q : Option Value → MM → Prop} (C : Cx T cX8_on 6 RX8 0 0) (CR : CxR T 0 0) (hr : T.2.2.2.2.2.2.2.2.1.sig.returnType = (some .int)) (hnm : T.2.2.2.2.2.2.2.2.1.name = "on") {nx : Nat → Kt} (hn : ∀ pc, Sd T 6 (QT T Q 0 0) 0 0 pc (nx pc)) : Sd T 6 (QT T Q 0 0) 0 0 64 (bX8_on_64 Q nx) := x_iadd C dX8_on_64 (x_is C dX8_on_65 (by decide) (x_inc C dX8_on_67 (by decide) (by decide) (x_goto C (hn 6) dX8_on_70 (by decide))))
set_option maxRecDepth 20000 in
theorem oX8_on_73 {T : Ct} {Q : Option Value → MM → Prop} (C : Cx T cX8_on 6 RX8 0 0) (CR : CxR T 0 0) (hr : T.2.2.2.2.2.2.2.2.1.sig.returnType = (some .int)) (hnm : T.2.2.2.2.2.2.2.2.1.name = "on") {nx : Nat → Kt} (hn : ∀ pc, Sd T 6 (QT T Q 0 0) 0 0 pc (nx pc)) : Sd T 6 (QT T Q 0 0) 0 0 73 (bX8_on_73 Q nx) := x_il C dX8_on_73 (x_rI C hr dX8_on_75)
set_option maxRecDepth 20000 in
theorem mX8_on (l : Launch) (D : va_G) (cA : Nat → ClassId) (base : Nat) : Mc l D cA base yX8_on cX8_on 6 (some .int) rX8_on wX8_on := mc_of (by decide +kernel) kX8_on (fun T Q C CR hr hnm nx hn => bse_ok _ (List.forall_mem_cons.mpr ⟨oX8_on_0 C CR hr hnm hn, List.forall_mem_cons.mpr ⟨oX8_on_6 C CR hr hnm hn, List.forall_mem_cons.mpr ⟨oX8_on_54 C CR hr hnm hn, List.forall_mem_cons.mpr ⟨oX8_on_55 C CR hr hnm hn, List.forall_mem_cons.mpr ⟨oX8_on_63 C CR hr hnm hn, List.forall_mem_cons.mpr ⟨oX8_on_64 C CR hr hnm hn, List.forall_mem_cons.mpr ⟨oX8_on_73 C CR hr hnm hn, fun _ h => nomatch h⟩⟩⟩⟩⟩⟩⟩))
theorem dX8_give_0 : decode cX8_give 0 = .ok (.aload_n 0, 1) := by decide +kernel
theorem dX8_give_1 : decode cX8_give 1 = .ok (.iload_n 1, 1) := by decide +kernel
theorem dX8_give_2 : decode cX8_give 2 = .ok (.invokestatic 154, 3) := by decide +kernel
theorem dX8_give_5 : decode cX8_give 5 = .ok (.ifCond .eq 14, 3) := by decide +kernel
theorem dX8_give_8 : decode cX8_give 8 = .ok (.iload_n 3, 1) := by decide +kernel
theorem dX8_give_9 : decode cX8_give 9 = .ok (.ifCond .lt 10, 3) := by decide +kernel
theorem dX8_give_12 : decode cX8_give 12 = .ok (.iload_n 3, 1) := by decide +kernel
theorem dX8_give_13 : decode cX8_give 13 = .ok (.sipush 255, 3) := by decide +kernel
theorem dX8_give_16 : decode cX8_give 16 = .ok (.if_icmp .le 7, 3) := by decide +kernel
theorem dX8_give_19 : decode cX8_give 19 = .ok (.iconst 1, 1) := by decide +kernel
theorem dX8_give_20 : decode cX8_give 20 = .ok (.goto 4, 3) := by decide +kernel
theorem dX8_give_23 : decode cX8_give 23 = .ok (.iconst 0, 1) := by decide +kernel
theorem dX8_give_24 : decode cX8_give 24 = .ok (.putfield 132, 3) := by decide +kernel
theorem dX8_give_27 : decode cX8_give 27 = .ok (.aload_n 0, 1) := by decide +kernel
theorem dX8_give_28 : decode cX8_give 28 = .ok (.getfield 132, 3) := by decide +kernel
theorem dX8_give_31 : decode cX8_give 31 = .ok (.ifCond .le 5, 3) := by decide +kernel
theorem dX8_give_34 : decode cX8_give 34 = .ok (.iconst 0, 1) := by decide +kernel
theorem dX8_give_35 : decode cX8_give 35 = .ok (.ireturn, 1) := by decide +kernel
theorem dX8_give_36 : decode cX8_give 36 = .ok (.iconst 0, 1) := by decide +kernel
theorem dX8_give_37 : decode cX8_give 37 = .ok (.istore 5, 2) := by decide +kernel
theorem dX8_give_39 : decode cX8_give 39 = .ok (.bipush 8, 2) := by decide +kernel
theorem dX8_give_41 : decode cX8_give 41 = .ok (.iload_n 1, 1) := by decide +kernel
theorem dX8_give_42 : decode cX8_give 42 = .ok (.imul, 1) := by decide +kernel
theorem dX8_give_43 : decode cX8_give 43 = .ok (.istore 6, 2) := by decide +kernel
theorem dX8_give_45 : decode cX8_give 45 = .ok (.iload 6, 2) := by decide +kernel
theorem dX8_give_47 : decode cX8_give 47 = .ok (.bipush 8, 2) := by decide +kernel
theorem dX8_give_49 : decode cX8_give 49 = .ok (.iload_n 1, 1) := by decide +kernel
theorem dX8_give_50 : decode cX8_give 50 = .ok (.imul, 1) := by decide +kernel
theorem dX8_give_51 : decode cX8_give 51 = .ok (.bipush 8, 2) := by decide +kernel
theorem dX8_give_53 : decode cX8_give 53 = .ok (.iadd, 1) := by decide +kernel
theorem dX8_give_54 : decode cX8_give 54 = .ok (.if_icmp .ge 45, 3) := by decide +kernel
theorem dX8_give_57 : decode cX8_give 57 = .ok (.iload 5, 2) := by decide +kernel
theorem dX8_give_59 : decode cX8_give 59 = .ok (.iload_n 2, 1) := by decide +kernel
theorem dX8_give_60 : decode cX8_give 60 = .ok (.ifCond .lt 29, 3) := by decide +kernel
theorem dX8_give_63 : decode cX8_give 63 = .ok (.aload_n 0, 1) := by decide +kernel
theorem dX8_give_64 : decode cX8_give 64 = .ok (.getfield 44, 3) := by decide +kernel
theorem dX8_give_67 : decode cX8_give 67 = .ok (.iload 6, 2) := by decide +kernel
theorem dX8_give_69 : decode cX8_give 69 = .ok (.iaload, 1) := by decide +kernel
theorem dX8_give_70 : decode cX8_give 70 = .ok (.iload_n 2, 1) := by decide +kernel
theorem dX8_give_71 : decode cX8_give 71 = .ok (.if_icmp .ne 18, 3) := by decide +kernel
theorem dX8_give_74 : decode cX8_give 74 = .ok (.aload_n 0, 1) := by decide +kernel
theorem dX8_give_75 : decode cX8_give 75 = .ok (.getfield 35, 3) := by decide +kernel
theorem dX8_give_78 : decode cX8_give 78 = .ok (.iload 6, 2) := by decide +kernel
theorem dX8_give_80 : decode cX8_give 80 = .ok (.iaload, 1) := by decide +kernel
theorem dX8_give_81 : decode cX8_give 81 = .ok (.iconst 4, 1) := by decide +kernel
theorem dX8_give_82 : decode cX8_give 82 = .ok (.if_icmp .ne 7, 3) := by decide +kernel
theorem dX8_give_85 : decode cX8_give 85 = .ok (.iconst 1, 1) := by decide +kernel
theorem dX8_give_86 : decode cX8_give 86 = .ok (.goto 4, 3) := by decide +kernel
theorem dX8_give_89 : decode cX8_give 89 = .ok (.iconst 0, 1) := by decide +kernel
theorem dX8_give_90 : decode cX8_give 90 = .ok (.iadd, 1) := by decide +kernel
theorem dX8_give_91 : decode cX8_give 91 = .ok (.istore 5, 2) := by decide +kernel
theorem dX8_give_93 : decode cX8_give 93 = .ok (.iinc 6 1, 3) := by decide +kernel
theorem dX8_give_96 : decode cX8_give 96 = .ok (.goto (-51), 3) := by decide +kernel
theorem dX8_give_99 : decode cX8_give 99 = .ok (.iload 5, 2) := by decide +kernel
theorem dX8_give_101 : decode cX8_give 101 = .ok (.ifCond .ne 5, 3) := by decide +kernel
theorem dX8_give_104 : decode cX8_give 104 = .ok (.iconst (-1), 1) := by decide +kernel
theorem dX8_give_105 : decode cX8_give 105 = .ok (.ireturn, 1) := by decide +kernel
theorem dX8_give_106 : decode cX8_give 106 = .ok (.iload_n 3, 1) := by decide +kernel
theorem dX8_give_107 : decode cX8_give 107 = .ok (.iload 5, 2) := by decide +kernel
theorem dX8_give_109 : decode cX8_give 109 = .ok (.irem, 1) := by decide +kernel
theorem dX8_give_110 : decode cX8_give 110 = .ok (.istore 6, 2) := by decide +kernel
theorem dX8_give_112 : decode cX8_give 112 = .ok (.bipush 8, 2) := by decide +kernel
theorem dX8_give_114 : decode cX8_give 114 = .ok (.iload_n 1, 1) := by decide +kernel
theorem dX8_give_115 : decode cX8_give 115 = .ok (.imul, 1) := by decide +kernel
theorem dX8_give_116 : decode cX8_give 116 = .ok (.istore 7, 2) := by decide +kernel
theorem dX8_give_118 : decode cX8_give 118 = .ok (.aload_n 0, 1) := by decide +kernel
theorem dX8_give_119 : decode cX8_give 119 = .ok (.getfield 44, 3) := by decide +kernel
theorem dX8_give_122 : decode cX8_give 122 = .ok (.iload 7, 2) := by decide +kernel
theorem dX8_give_124 : decode cX8_give 124 = .ok (.iaload, 1) := by decide +kernel
theorem dX8_give_125 : decode cX8_give 125 = .ok (.iload_n 2, 1) := by decide +kernel
theorem dX8_give_126 : decode cX8_give 126 = .ok (.if_icmp .ne 19, 3) := by decide +kernel
theorem dX8_give_129 : decode cX8_give 129 = .ok (.aload_n 0, 1) := by decide +kernel
theorem dX8_give_130 : decode cX8_give 130 = .ok (.getfield 35, 3) := by decide +kernel
theorem dX8_give_133 : decode cX8_give 133 = .ok (.iload 7, 2) := by decide +kernel
theorem dX8_give_135 : decode cX8_give 135 = .ok (.iaload, 1) := by decide +kernel
theorem dX8_give_136 : decode cX8_give 136 = .ok (.iconst 4, 1) := by decide +kernel
theorem dX8_give_137 : decode cX8_give 137 = .ok (.if_icmp .ne 8, 3) := by decide +kernel
theorem dX8_give_140 : decode cX8_give 140 = .ok (.iload 6, 2) := by decide +kernel
theorem dX8_give_142 : decode cX8_give 142 = .ok (.ifCond .le 41, 3) := by decide +kernel
theorem dX8_give_145 : decode cX8_give 145 = .ok (.iload 6, 2) := by decide +kernel
theorem dX8_give_147 : decode cX8_give 147 = .ok (.aload_n 0, 1) := by decide +kernel
theorem dX8_give_148 : decode cX8_give 148 = .ok (.getfield 44, 3) := by decide +kernel
theorem dX8_give_151 : decode cX8_give 151 = .ok (.iload 7, 2) := by decide +kernel
theorem dX8_give_153 : decode cX8_give 153 = .ok (.iaload, 1) := by decide +kernel
theorem dX8_give_154 : decode cX8_give 154 = .ok (.iload_n 2, 1) := by decide +kernel
theorem dX8_give_155 : decode cX8_give 155 = .ok (.if_icmp .ne 18, 3) := by decide +kernel
theorem dX8_give_158 : decode cX8_give 158 = .ok (.aload_n 0, 1) := by decide +kernel
theorem dX8_give_159 : decode cX8_give 159 = .ok (.getfield 35, 3) := by decide +kernel
theorem dX8_give_162 : decode cX8_give 162 = .ok (.iload 7, 2) := by decide +kernel
theorem dX8_give_164 : decode cX8_give 164 = .ok (.iaload, 1) := by decide +kernel
theorem dX8_give_165 : decode cX8_give 165 = .ok (.iconst 4, 1) := by decide +kernel
theorem dX8_give_166 : decode cX8_give 166 = .ok (.if_icmp .ne 7, 3) := by decide +kernel
theorem dX8_give_169 : decode cX8_give 169 = .ok (.iconst 1, 1) := by decide +kernel
theorem dX8_give_170 : decode cX8_give 170 = .ok (.goto 4, 3) := by decide +kernel
theorem dX8_give_173 : decode cX8_give 173 = .ok (.iconst 0, 1) := by decide +kernel
theorem dX8_give_174 : decode cX8_give 174 = .ok (.isub, 1) := by decide +kernel
theorem dX8_give_175 : decode cX8_give 175 = .ok (.istore 6, 2) := by decide +kernel
theorem dX8_give_177 : decode cX8_give 177 = .ok (.iinc 7 1, 3) := by decide +kernel
theorem dX8_give_180 : decode cX8_give 180 = .ok (.goto (-62), 3) := by decide +kernel
theorem dX8_give_183 : decode cX8_give 183 = .ok (.aload_n 0, 1) := by decide +kernel
theorem dX8_give_184 : decode cX8_give 184 = .ok (.getfield 41, 3) := by decide +kernel
theorem dX8_give_187 : decode cX8_give 187 = .ok (.iload 7, 2) := by decide +kernel
theorem dX8_give_189 : decode cX8_give 189 = .ok (.iaload, 1) := by decide +kernel
theorem dX8_give_190 : decode cX8_give 190 = .ok (.istore 8, 2) := by decide +kernel
theorem dX8_give_192 : decode cX8_give 192 = .ok (.aload_n 0, 1) := by decide +kernel
theorem dX8_give_193 : decode cX8_give 193 = .ok (.iload 8, 2) := by decide +kernel
theorem dX8_give_195 : decode cX8_give 195 = .ok (.iload_n 1, 1) := by decide +kernel
theorem dX8_give_196 : decode cX8_give 196 = .ok (.iconst 0, 1) := by decide +kernel
theorem dX8_give_197 : decode cX8_give 197 = .ok (.invokevirtual 294, 3) := by decide +kernel
theorem dX8_give_200 : decode cX8_give 200 = .ok (.sipush 200, 3) := by decide +kernel
theorem dX8_give_203 : decode cX8_give 203 = .ok (.if_icmp .lt 5, 3) := by decide +kernel
theorem dX8_give_206 : decode cX8_give 206 = .ok (.iconst (-1), 1) := by decide +kernel
theorem dX8_give_207 : decode cX8_give 207 = .ok (.ireturn, 1) := by decide +kernel
theorem dX8_give_208 : decode cX8_give 208 = .ok (.aload_n 0, 1) := by decide +kernel
theorem dX8_give_209 : decode cX8_give 209 = .ok (.dup, 1) := by decide +kernel
theorem dX8_give_210 : decode cX8_give 210 = .ok (.getfield 298, 3) := by decide +kernel
theorem dX8_give_213 : decode cX8_give 213 = .ok (.aload_n 0, 1) := by decide +kernel
theorem dX8_give_214 : decode cX8_give 214 = .ok (.iload 7, 2) := by decide +kernel
theorem dX8_give_216 : decode cX8_give 216 = .ok (.bipush 16, 2) := by decide +kernel
theorem dX8_give_218 : decode cX8_give 218 = .ok (.invokevirtual 225, 3) := by decide +kernel
theorem dX8_give_221 : decode cX8_give 221 = .ok (.ifCond .eq 7, 3) := by decide +kernel
theorem dX8_give_224 : decode cX8_give 224 = .ok (.iconst 0, 1) := by decide +kernel
theorem dX8_give_225 : decode cX8_give 225 = .ok (.goto 4, 3) := by decide +kernel
theorem dX8_give_228 : decode cX8_give 228 = .ok (.iconst 1, 1) := by decide +kernel
theorem dX8_give_229 : decode cX8_give 229 = .ok (.iadd, 1) := by decide +kernel
theorem dX8_give_230 : decode cX8_give 230 = .ok (.putfield 298, 3) := by decide +kernel
theorem dX8_give_233 : decode cX8_give 233 = .ok (.aload_n 0, 1) := by decide +kernel
theorem dX8_give_234 : decode cX8_give 234 = .ok (.getfield 105, 3) := by decide +kernel
theorem dX8_give_237 : decode cX8_give 237 = .ok (.aload_n 0, 1) := by decide +kernel
theorem dX8_give_238 : decode cX8_give 238 = .ok (.getfield 207, 3) := by decide +kernel
theorem dX8_give_241 : decode cX8_give 241 = .ok (.iload_n 1, 1) := by decide +kernel
theorem dX8_give_242 : decode cX8_give 242 = .ok (.iastore, 1) := by decide +kernel
theorem dX8_give_243 : decode cX8_give 243 = .ok (.aload_n 0, 1) := by decide +kernel
theorem dX8_give_244 : decode cX8_give 244 = .ok (.getfield 108, 3) := by decide +kernel
theorem dX8_give_247 : decode cX8_give 247 = .ok (.aload_n 0, 1) := by decide +kernel
theorem dX8_give_248 : decode cX8_give 248 = .ok (.getfield 207, 3) := by decide +kernel
theorem dX8_give_251 : decode cX8_give 251 = .ok (.iload_n 2, 1) := by decide +kernel
theorem dX8_give_252 : decode cX8_give 252 = .ok (.iastore, 1) := by decide +kernel
theorem dX8_give_253 : decode cX8_give 253 = .ok (.aload_n 0, 1) := by decide +kernel
theorem dX8_give_254 : decode cX8_give 254 = .ok (.getfield 111, 3) := by decide +kernel
theorem dX8_give_257 : decode cX8_give 257 = .ok (.aload_n 0, 1) := by decide +kernel
theorem dX8_give_258 : decode cX8_give 258 = .ok (.getfield 207, 3) := by decide +kernel
theorem dX8_give_261 : decode cX8_give 261 = .ok (.iload_n 3, 1) := by decide +kernel
theorem dX8_give_262 : decode cX8_give 262 = .ok (.iastore, 1) := by decide +kernel
theorem dX8_give_263 : decode cX8_give 263 = .ok (.aload_n 0, 1) := by decide +kernel
theorem dX8_give_264 : decode cX8_give 264 = .ok (.getfield 114, 3) := by decide +kernel
theorem dX8_give_267 : decode cX8_give 267 = .ok (.aload_n 0, 1) := by decide +kernel
theorem dX8_give_268 : decode cX8_give 268 = .ok (.getfield 207, 3) := by decide +kernel
theorem dX8_give_271 : decode cX8_give 271 = .ok (.iload 4, 2) := by decide +kernel
theorem dX8_give_273 : decode cX8_give 273 = .ok (.iastore, 1) := by decide +kernel
theorem dX8_give_274 : decode cX8_give 274 = .ok (.aload_n 0, 1) := by decide +kernel
theorem dX8_give_275 : decode cX8_give 275 = .ok (.getfield 117, 3) := by decide +kernel
theorem dX8_give_278 : decode cX8_give 278 = .ok (.aload_n 0, 1) := by decide +kernel
theorem dX8_give_279 : decode cX8_give 279 = .ok (.getfield 207, 3) := by decide +kernel
theorem dX8_give_282 : decode cX8_give 282 = .ok (.aload_n 0, 1) := by decide +kernel
theorem dX8_give_283 : decode cX8_give 283 = .ok (.getfield 123, 3) := by decide +kernel
theorem dX8_give_286 : decode cX8_give 286 = .ok (.iload_n 1, 1) := by decide +kernel
theorem dX8_give_287 : decode cX8_give 287 = .ok (.iaload, 1) := by decide +kernel
theorem dX8_give_288 : decode cX8_give 288 = .ok (.iastore, 1) := by decide +kernel
theorem dX8_give_289 : decode cX8_give 289 = .ok (.aload_n 0, 1) := by decide +kernel
theorem dX8_give_290 : decode cX8_give 290 = .ok (.getfield 120, 3) := by decide +kernel
theorem dX8_give_293 : decode cX8_give 293 = .ok (.aload_n 0, 1) := by decide +kernel
theorem dX8_give_294 : decode cX8_give 294 = .ok (.getfield 207, 3) := by decide +kernel
theorem dX8_give_297 : decode cX8_give 297 = .ok (.iconst 0, 1) := by decide +kernel
theorem dX8_give_298 : decode cX8_give 298 = .ok (.bastore, 1) := by decide +kernel
theorem dX8_give_299 : decode cX8_give 299 = .ok (.aload_n 0, 1) := by decide +kernel
theorem dX8_give_300 : decode cX8_give 300 = .ok (.iload 8, 2) := by decide +kernel
theorem dX8_give_302 : decode cX8_give 302 = .ok (.iload_n 1, 1) := by decide +kernel
theorem dX8_give_303 : decode cX8_give 303 = .ok (.aload_n 0, 1) := by decide +kernel
theorem dX8_give_304 : decode cX8_give 304 = .ok (.getfield 207, 3) := by decide +kernel
theorem dX8_give_307 : decode cX8_give 307 = .ok (.invokevirtual 254, 3) := by decide +kernel
theorem dX8_give_310 : decode cX8_give 310 = .ok (.aload_n 0, 1) := by decide +kernel
theorem dX8_give_311 : decode cX8_give 311 = .ok (.dup, 1) := by decide +kernel
theorem dX8_give_312 : decode cX8_give 312 = .ok (.getfield 207, 3) := by decide +kernel
theorem dX8_give_315 : decode cX8_give 315 = .ok (.iconst 1, 1) := by decide +kernel
theorem dX8_give_316 : decode cX8_give 316 = .ok (.iadd, 1) := by decide +kernel
theorem dX8_give_317 : decode cX8_give 317 = .ok (.putfield 207, 3) := by decide +kernel
theorem dX8_give_320 : decode cX8_give 320 = .ok (.iload 7, 2) := by decide +kernel
theorem dX8_give_322 : decode cX8_give 322 = .ok (.bipush 8, 2) := by decide +kernel
theorem dX8_give_324 : decode cX8_give 324 = .ok (.irem, 1) := by decide +kernel
theorem dX8_give_325 : decode cX8_give 325 = .ok (.ireturn, 1) := by decide +kernel
noncomputable def bX8_give_0 (Q : Option Value → MM → Prop) (nx : Nat → Kt) : Kt := ldA 0 (ldI 1 (cS 1 wX8_isEnd 0 0 0 0 (ifz (fun x => x = 0) (nx 19) (ldI 3 (ifz (fun x => x < 0) (nx 19) (ldI 3 (cI 255 (ifc (fun x y => x ≤ y) (nx 23) (nx 19)))))))))
noncomputable def bX8_give_19 (Q : Option Value → MM → Prop) (nx : Nat → Kt) : Kt := cI 1 (nx 24)
noncomputable def bX8_give_23 (Q : Option Value → MM → Prop) (nx : Nat → Kt) : Kt := cI 0 (nx 24)
noncomputable def bX8_give_24 (Q : Option Value → MM → Prop) (nx : Nat → Kt) : Kt := tI 8 0 (ldA 0 (gI 8 0 (ifz (fun x => x ≤ 0) (nx 36) (cI 0 (rI Q)))))
noncomputable def bX8_give_36 (Q : Option Value → MM → Prop) (nx : Nat → Kt) : Kt := cI 0 (stI 5 (cI 8 (ldI 1 (bop (fun x y => x * y) (stI 6 (nx 45))))))
noncomputable def bX8_give_45 (Q : Option Value → MM → Prop) (nx : Nat → Kt) : Kt := ldI 6 (cI 8 (ldI 1 (bop (fun x y => x * y) (cI 8 (bop (fun x y => x + y) (ifc (fun x y => y ≤ x) (nx 99) (ldI 5 (ldI 2 (ifz (fun x => x < 0) (nx 89) (ldA 0 (gR 8 12 (ldI 6 (aI 10 (ldI 2 (ifc (fun x y => x = y) (ldA 0 (gR 8 9 (ldI 6 (aI 10 (cI 4 (ifc (fun x y => x = y) (cI 1 (nx 90)) (nx 89))))))) (nx 89))))))))))))))))
noncomputable def bX8_give_89 (Q : Option Value → MM → Prop) (nx : Nat → Kt) : Kt := cI 0 (nx 90)
noncomputable def bX8_give_90 (Q : Option Value → MM → Prop) (nx : Nat → Kt) : Kt := bop (fun x y => x + y) (stI 5 (inc 6 1 (nx 45)))
noncomputable def bX8_give_99 (Q : Option Value → MM → Prop) (nx : Nat → Kt) : Kt := ldI 5 (ifz (fun x => x = 0) (cI (-1) (rI Q)) (nx 106))
noncomputable def bX8_give_106 (Q : Option Value → MM → Prop) (nx : Nat → Kt) : Kt := ldI 3 (ldI 5 (bod (fun x y => x - x / y * y) (stI 6 (cI 8 (ldI 1 (bop (fun x y => x * y) (stI 7 (nx 118))))))))
noncomputable def bX8_give_118 (Q : Option Value → MM → Prop) (nx : Nat → Kt) : Kt := ldA 0 (gR 8 12 (ldI 7 (aI 10 (ldI 2 (ifc (fun x y => x = y) (ldA 0 (gR 8 9 (ldI 7 (aI 10 (cI 4 (ifc (fun x y => x = y) (ldI 6 (ifz (fun x => x ≤ 0) (nx 183) (nx 145))) (nx 145))))))) (nx 145))))))
noncomputable def bX8_give_145 (Q : Option Value → MM → Prop) (nx : Nat → Kt) : Kt := ldI 6 (ldA 0 (gR 8 12 (ldI 7 (aI 10 (ldI 2 (ifc (fun x y => x = y) (ldA 0 (gR 8 9 (ldI 7 (aI 10 (cI 4 (ifc (fun x y => x = y) (cI 1 (nx 174)) (nx 173))))))) (nx 173)))))))
noncomputable def bX8_give_173 (Q : Option Value → MM → Prop) (nx : Nat → Kt) : Kt := cI 0 (nx 174)
noncomputable def bX8_give_174 (Q : Option Value → MM → Prop) (nx : Nat → Kt) : Kt := bop (fun x y => x - y) (stI 6 (inc 7 1 (nx 118)))
noncomputable def bX8_give_183 (Q : Option Value → MM → Prop) (nx : Nat → Kt) : Kt := ldA 0 (gR 8 11 (ldI 7 (aI 10 (stI 8 (ldA 0 (ldI 8 (ldI 1 (cI 0 (cV 3 8 wX8_on 0 0 0 0 (cI 200 (ifc (fun x y => x < y) (nx 208) (cI (-1) (rI Q)))))))))))))
noncomputable def bX8_give_208 (Q : Option Value → MM → Prop) (nx : Nat → Kt) : Kt := ldA 0 (du (gI 8 48 (ldA 0 (ldI 7 (cI 16 (cV 2 8 wX8_isPartner 0 0 0 0 (ifz (fun x => x = 0) (nx 228) (cI 0 (nx 229)))))))))
noncomputable def bX8_give_228 (Q : Option Value → MM → Prop) (nx : Nat → Kt) : Kt := cI 1 (nx 229)
noncomputable def bX8_give_229 (Q : Option Value → MM → Prop) (nx : Nat → Kt) : Kt := bop (fun x y => x + y) (tI 8 48 (ldA 0 (gR 8 33 (ldA 0 (gI 8 39 (ldI 1 (sAI (ldA 0 (gR 8 34 (ldA 0 (gI 8 39 (ldI 2 (sAI (ldA 0 (gR 8 35 (ldA 0 (gI 8 39 (ldI 3 (sAI (ldA 0 (gR 8 36 (ldA 0 (gI 8 39 (ldI 4 (sAI (ldA 0 (gR 8 37 (ldA 0 (gI 8 39 (ldA 0 (gR 8 40 (ldI 1 (aI 10 (sAI (ldA 0 (gR 8 38 (ldA 0 (gI 8 39 (cI 0 (sAZ (ldA 0 (ldI 8 (ldI 1 (ldA 0 (nx 304)))))))))))))))))))))))))))))))))))))))))))))
noncomputable def bX8_give_304 (Q : Option Value → MM → Prop) (nx : Nat → Kt) : Kt := gI 8 39 (cV 3 8 wX8_comesOn 0 0 0 0 (ldA 0 (du (gI 8 39 (cI 1 (bop (fun x y => x + y) (tI 8 39 (ldI 7 (cI 8 (bod (fun x y => x - x / y * y) (rI Q)))))))))))
noncomputable def kX8_give (Q : Option Value → MM → Prop) (nx : Nat → Kt) : Nat → Kt := bse [(0, bX8_give_0 Q nx), (19, bX8_give_19 Q nx), (23, bX8_give_23 Q nx), (24, bX8_give_24 Q nx), (36, bX8_give_36 Q nx), (45, bX8_give_45 Q nx), (89, bX8_give_89 Q nx), (90, bX8_give_90 Q nx), (99, bX8_give_99 Q nx), (106, bX8_give_106 Q nx), (118, bX8_give_118 Q nx), (145, bX8_give_145 Q nx), (173, bX8_give_173 Q nx), (174, bX8_give_174 Q nx), (183, bX8_give_183 Q nx), (208, bX8_give_208 Q nx), (228, bX8_give_228 Q nx), (229, bX8_give_229 Q nx), (304, bX8_give_304 Q nx)]
abbrev rX8_give : Room := { frames := 1, cells := 0, slots := 0, locals := 25 }
noncomputable def wX8_give : Mw := mw 9 kX8_give
set_option maxRecDepth 20000 in
theorem oX8_give_0 {T : Ct} {Q : Option Value → MM → Prop} (C : Cx T cX8_give 9 RX8 0 0) (CR : CxR T 1 25) (hr : T.2.2.2.2.2.2.2.2.1.sig.returnType = (some .int)) (hnm : T.2.2.2.2.2.2.2.2.1.name = "give") {nx : Nat → Kt} (hn : ∀ pc, Sd T 9 (QT T Q 0 0) 0 0 pc (nx pc)) : Sd T 9 (QT T Q 0 0) 0 0 0 (bX8_give_0 Q nx) := x_al_n C dX8_give_0 rfl (x_il_n C dX8_give_1 rfl (x_cS C CR mX8_isEnd ⟨co_X8_isEnd, init_X8, md_X8_isEnd, by decide, by decide⟩ ml_X8_154 sm_X8_isEnd dX8_give_2 (x_if_eq C (hn 19) dX8_give_5 (by decide) (x_il_n C dX8_give_8 rfl (x_if_lt C (hn 19) dX8_give_9 (by decide) (x_il_n C dX8_give_12 rfl (x_sp C dX8_give_13 (by decide) (x_ic_le C (hn 23) dX8_give_16 (by decide) (hn 19)))))))))
set_option maxRecDepth 20000 in
theorem oX8_give_19 {T : Ct} {Q : Option Value → MM → Prop} (C : Cx T cX8_give 9 RX8 0 0) (CR : CxR T 1 25) (hr : T.2.2.2.2.2.2.2.2.1.sig.returnType = (some .int)) (hnm : T.2.2.2.2.2.2.2.2.1.name = "give") {nx : Nat → Kt} (hn : ∀ pc, Sd T 9 (QT T Q 0 0) 0 0 pc (nx pc)) : Sd T 9 (QT T Q 0 0) 0 0 19 (bX8_give_19 Q nx) := x_ic C dX8_give_19 (by decide) (x_goto C (hn 24) dX8_give_20 (by decide))
set_option maxRecDepth 20000 in
theorem oX8_give_23 {T : Ct} {Q : Option Value → MM → Prop} (C : Cx T cX8_give 9 RX8 0 0) (CR : CxR T 1 25) (hr : T.2.2.2.2.2.2.2.2.1.sig.returnType = (some .int)) (hnm : T.2.2.2.2.2.2.2.2.1.name = "give") {nx : Nat → Kt} (hn : ∀ pc, Sd T 9 (QT T Q 0 0) 0 0 pc (nx pc)) : Sd T 9 (QT T Q 0 0) 0 0 23 (bX8_give_23 Q nx) := x_ic C dX8_give_23 (by decide) (hn 24)
set_option maxRecDepth 20000 in
theorem oX8_give_24 {T : Ct} {Q : Option Value → MM → Prop} (C : Cx T cX8_give 9 RX8 0 0) (CR : CxR T 1 25) (hr : T.2.2.2.2.2.2.2.2.1.sig.returnType = (some .int)) (hnm : T.2.2.2.2.2.2.2.2.1.name = "give") {nx : Nat → Kt} (hn : ∀ pc, Sd T 9 (QT T Q 0 0) 0 0 pc (nx pc)) : Sd T 9 (QT T Q 0 0) 0 0 24 (bX8_give_24 Q nx) := pf_X8_132 C dX8_give_24 (x_al_n C dX8_give_27 rfl (gf_X8_132 C dX8_give_28 (x_if_le C (hn 36) dX8_give_31 (by decide) (x_ic C dX8_give_34 (by decide) (x_rI C hr dX8_give_35)))))
set_option maxRecDepth 20000 in
theorem oX8_give_36 {T : Ct} {Q : Option Value → MM → Prop} (C : Cx T cX8_give 9 RX8 0 0) (CR : CxR T 1 25) (hr : T.2.2.2.2.2.2.2.2.1.sig.returnType = (some .int)) (hnm : T.2.2.2.2.2.2.2.2.1.name = "give") {nx : Nat → Kt} (hn : ∀ pc, Sd T 9 (QT T Q 0 0) 0 0 pc (nx pc)) : Sd T 9 (QT T Q 0 0) 0 0 36 (bX8_give_36 Q nx) := x_ic C dX8_give_36 (by decide) (x_is C dX8_give_37 (by decide) (x_bp C dX8_give_39 (by decide) (x_il_n C dX8_give_41 rfl (x_imul C dX8_give_42 (x_is C dX8_give_43 (by decide) (hn 45))))))
set_option maxRecDepth 20000 in
theorem oX8_give_45 {T : Ct} {Q : Option Value → MM → Prop} (C : Cx T cX8_give 9 RX8 0 0) (CR : CxR T 1 25) (hr : T.2.2.2.2.2.2.2.2.1.sig.returnType = (some .int)) (hnm : T.2.2.2.2.2.2.2.2.1.name = "give") {nx : Nat → Kt} (hn : ∀ pc, Sd T 9 (QT T Q 0 0) 0 0 pc (nx pc)) : Sd T 9 (QT T Q 0 0) 0 0 45 (bX8_give_45 Q nx) := x_il C dX8_give_45 (x_bp C dX8_give_47 (by decide) (x_il_n C dX8_give_49 rfl (x_imul C dX8_give_50 (x_bp C dX8_give_51 (by decide) (x_iadd C dX8_give_53 (x_ic_ge C (hn 99) dX8_give_54 (by decide) (x_il C dX8_give_57 (x_il_n C dX8_give_59 rfl (x_if_lt C (hn 89) dX8_give_60 (by decide) (x_al_n C dX8_give_63 rfl (gf_X8_44 C dX8_give_64 (x_il C dX8_give_67 (x_iald C dX8_give_69 (x_il_n C dX8_give_70 rfl (x_ic_ne C (hn 89) dX8_give_71 (by decide) (x_al_n C dX8_give_74 rfl (gf_X8_35 C dX8_give_75 (x_il C dX8_give_78 (x_iald C dX8_give_80 (x_ic C dX8_give_81 (by decide) (x_ic_ne C (hn 89) dX8_give_82 (by decide) (x_ic C dX8_give_85 (by decide) (x_goto C (hn 90) dX8_give_86 (by decide))))))))))))))))))))))))
set_option maxRecDepth 20000 in
theorem oX8_give_89 {T : Ct} {Q : Option Value → MM → Prop} (C : Cx T cX8_give 9 RX8 0 0) (CR : CxR T 1 25) (hr : T.2.2.2.2.2.2.2.2.1.sig.returnType = (some .int)) (hnm : T.2.2.2.2.2.2.2.2.1.name = "give") {nx : Nat → Kt} (hn : ∀ pc, Sd T 9 (QT T Q 0 0) 0 0 pc (nx pc)) : Sd T 9 (QT T Q 0 0) 0 0 89 (bX8_give_89 Q nx) := x_ic C dX8_give_89 (by decide) (hn 90)
set_option maxRecDepth 20000 in
theorem oX8_give_90 {T : Ct} {Q : Option Value → MM → Prop} (C : Cx T cX8_give 9 RX8 0 0) (CR : CxR T 1 25) (hr : T.2.2.2.2.2.2.2.2.1.sig.returnType = (some .int)) (hnm : T.2.2.2.2.2.2.2.2.1.name = "give") {nx : Nat → Kt} (hn : ∀ pc, Sd T 9 (QT T Q 0 0) 0 0 pc (nx pc)) : Sd T 9 (QT T Q 0 0) 0 0 90 (bX8_give_90 Q nx) := x_iadd C dX8_give_90 (x_is C dX8_give_91 (by decide) (x_inc C dX8_give_93 (by decide) (by decide) (x_goto C (hn 45) dX8_give_96 (by decide))))
set_option maxRecDepth 20000 in
theorem oX8_give_99 {T : Ct} {Q : Option Value → MM → Prop} (C : Cx T cX8_give 9 RX8 0 0) (CR : CxR T 1 25) (hr : T.2.2.2.2.2.2.2.2.1.sig.returnType = (some .int)) (hnm : T.2.2.2.2.2.2.2.2.1.name = "give") {nx : Nat → Kt} (hn : ∀ pc, Sd T 9 (QT T Q 0 0) 0 0 pc (nx pc)) : Sd T 9 (QT T Q 0 0) 0 0 99 (bX8_give_99 Q nx) := x_il C dX8_give_99 (x_if_ne C (hn 106) dX8_give_101 (by decide) (x_ic C dX8_give_104 (by decide) (x_rI C hr dX8_give_105)))
set_option maxRecDepth 20000 in
theorem oX8_give_106 {T : Ct} {Q : Option Value → MM → Prop} (C : Cx T cX8_give 9 RX8 0 0) (CR : CxR T 1 25) (hr : T.2.2.2.2.2.2.2.2.1.sig.returnType = (some .int)) (hnm : T.2.2.2.2.2.2.2.2.1.name = "give") {nx : Nat → Kt} (hn : ∀ pc, Sd T 9 (QT T Q 0 0) 0 0 pc (nx pc)) : Sd T 9 (QT T Q 0 0) 0 0 106 (bX8_give_106 Q nx) := x_il_n C dX8_give_106 rfl (x_il C dX8_give_107 (x_irem C dX8_give_109 (x_is C dX8_give_110 (by decide) (x_bp C dX8_give_112 (by decide) (x_il_n C dX8_give_114 rfl (x_imul C dX8_give_115 (x_is C dX8_give_116 (by decide) (hn 118))))))))
set_option maxRecDepth 20000 in
theorem oX8_give_118 {T : Ct} {Q : Option Value → MM → Prop} (C : Cx T cX8_give 9 RX8 0 0) (CR : CxR T 1 25) (hr : T.2.2.2.2.2.2.2.2.1.sig.returnType = (some .int)) (hnm : T.2.2.2.2.2.2.2.2.1.name = "give") {nx : Nat → Kt} (hn : ∀ pc, Sd T 9 (QT T Q 0 0) 0 0 pc (nx pc)) : Sd T 9 (QT T Q 0 0) 0 0 118 (bX8_give_118 Q nx) := x_al_n C dX8_give_118 rfl (gf_X8_44 C dX8_give_119 (x_il C dX8_give_122 (x_iald C dX8_give_124 (x_il_n C dX8_give_125 rfl (x_ic_ne C (hn 145) dX8_give_126 (by decide) (x_al_n C dX8_give_129 rfl (gf_X8_35 C dX8_give_130 (x_il C dX8_give_133 (x_iald C dX8_give_135 (x_ic C dX8_give_136 (by decide) (x_ic_ne C (hn 145) dX8_give_137 (by decide) (x_il C dX8_give_140 (x_if_le C (hn 183) dX8_give_142 (by decide) (hn 145))))))))))))))
set_option maxRecDepth 20000 in
theorem oX8_give_145 {T : Ct} {Q : Option Value → MM → Prop} (C : Cx T cX8_give 9 RX8 0 0) (CR : CxR T 1 25) (hr : T.2.2.2.2.2.2.2.2.1.sig.returnType = (some .int)) (hnm : T.2.2.2.2.2.2.2.2.1.name = "give") {nx : Nat → Kt} (hn : ∀ pc, Sd T 9 (QT T Q 0 0) 0 0 pc (nx pc)) : Sd T 9 (QT T Q 0 0) 0 0 145 (bX8_give_145 Q nx) := x_il C dX8_give_145 (x_al_n C dX8_give_147 rfl (gf_X8_44 C dX8_give_148 (x_il C dX8_give_151 (x_iald C dX8_give_153 (x_il_n C dX8_give_154 rfl (x_ic_ne C (hn 173) dX8_give_155 (by decide) (x_al_n C dX8_give_158 rfl (gf_X8_35 C dX8_give_159 (x_il C dX8_give_162 (x_iald C dX8_give_164 (x_ic C dX8_give_165 (by decide) (x_ic_ne C (hn 173) dX8_give_166 (by decide) (x_ic C dX8_give_169 (by decide) (x_goto C (hn 174) dX8_give_170 (by decide)))))))))))))))
set_option maxRecDepth 20000 in
theorem oX8_give_173 {T : Ct} {Q : Option Value → MM → Prop} (C : Cx T cX8_give 9 RX8 0 0) (CR : CxR T 1 25) (hr : T.2.2.2.2.2.2.2.2.1.sig.returnType = (some .int)) (hnm : T.2.2.2.2.2.2.2.2.1.name = "give") {nx : Nat → Kt} (hn : ∀ pc, Sd T 9 (QT T Q 0 0) 0 0 pc (nx pc)) : Sd T 9 (QT T Q 0 0) 0 0 173 (bX8_give_173 Q nx) := x_ic C dX8_give_173 (by decide) (hn 174)
set_option maxRecDepth 20000 in
theorem oX8_give_174 {T : Ct} {Q : Option Value → MM → Prop} (C : Cx T cX8_give 9 RX8 0 0) (CR : CxR T 1 25) (hr : T.2.2.2.2.2.2.2.2.1.sig.returnType = (some .int)) (hnm : T.2.2.2.2.2.2.2.2.1.name = "give") {nx : Nat → Kt} (hn : ∀ pc, Sd T 9 (QT T Q 0 0) 0 0 pc (nx pc)) : Sd T 9 (QT T Q 0 0) 0 0 174 (bX8_give_174 Q nx) := x_isub C dX8_give_174 (x_is C dX8_give_175 (by decide) (x_inc C dX8_give_177 (by decide) (by decide) (x_goto C (hn 118) dX8_give_180 (by decide))))
set_option maxRecDepth 20000 in
theorem oX8_give_183 {T : Ct} {Q : Option Value → MM → Prop} (C : Cx T cX8_give 9 RX8 0 0) (CR : CxR T 1 25) (hr : T.2.2.2.2.2.2.2.2.1.sig.returnType = (some .int)) (hnm : T.2.2.2.2.2.2.2.2.1.name = "give") {nx : Nat → Kt} (hn : ∀ pc, Sd T 9 (QT T Q 0 0) 0 0 pc (nx pc)) : Sd T 9 (QT T Q 0 0) 0 0 183 (bX8_give_183 Q nx) := x_al_n C dX8_give_183 rfl (gf_X8_41 C dX8_give_184 (x_il C dX8_give_187 (x_iald C dX8_give_189 (x_is C dX8_give_190 (by decide) (x_al_n C dX8_give_192 rfl (x_il C dX8_give_193 (x_il_n C dX8_give_195 rfl (x_ic C dX8_give_196 (by decide) (x_cV C CR mX8_on ⟨co_X8_on, init_X8, md_X8_on, by decide, by decide⟩ (ci := 8) (TX := TX8) (N := 51) rfl (by decide) ml_X8_294 im_X8_on se_X8_on dX8_give_197 (x_sp C dX8_give_200 (by decide) (x_ic_lt C (hn 208) dX8_give_203 (by decide) (x_ic C dX8_give_206 (by decide) (x_rI C hr dX8_give_207)))))))))))))
set_option maxRecDepth 20000 in
theorem oX8_give_208 {T : Ct} {Q : Option Value → MM → Prop} (C : Cx T cX8_give 9 RX8 0 0) (CR : CxR T 1 25) (hr : T.2.2.2.2.2.2.2.2.1.sig.returnType = (some .int)) (hnm : T.2.2.2.2.2.2.2.2.1.name = "give") {nx : Nat → Kt} (hn : ∀ pc, Sd T 9 (QT T Q 0 0) 0 0 pc (nx pc)) : Sd T 9 (QT T Q 0 0) 0 0 208 (bX8_give_208 Q nx) := x_al_n C dX8_give_208 rfl (x_dup C dX8_give_209 (gf_X8_298 C dX8_give_210 (x_al_n C dX8_give_213 rfl (x_il C dX8_give_214 (x_bp C dX8_give_216 (by decide) (x_cV C CR mX8_isPartner ⟨co_X8_isPartner, init_X8, md_X8_isPartner, by decide, by decide⟩ (ci := 8) (TX := TX8) (N := 51) rfl (by decide) ml_X8_225 im_X8_isPartner se_X8_isPartner dX8_give_218 (x_if_eq C (hn 228) dX8_give_221 (by decide) (x_ic C dX8_give_224 (by decide) (x_goto C (hn 229) dX8_give_225 (by decide))))))))))
set_option maxRecDepth 20000 in
theorem oX8_give_228 {T : Ct} {Q : Option Value → MM → Prop} (C : Cx T cX8_give 9 RX8 0 0) (CR : CxR T 1 25) (hr : T.2.2.2.2.2.2.2.2.1.sig.returnType = (some .int)) (hnm : T.2.2.2.2.2.2.2.2.1.name = "give") {nx : Nat → Kt} (hn : ∀ pc, Sd T 9 (QT T Q 0 0) 0 0 pc (nx pc)) : Sd T 9 (QT T Q 0 0) 0 0 228 (bX8_give_228 Q nx) := x_ic C dX8_give_228 (by decide) (hn 229)
set_option maxRecDepth 20000 in
theorem oX8_give_229 {T : Ct} {Q : Option Value → MM → Prop} (C : Cx T cX8_give 9 RX8 0 0) (CR : CxR T 1 25) (hr : T.2.2.2.2.2.2.2.2.1.sig.returnType = (some .int)) (hnm : T.2.2.2.2.2.2.2.2.1.name = "give") {nx : Nat → Kt} (hn : ∀ pc, Sd T 9 (QT T Q 0 0) 0 0 pc (nx pc)) : Sd T 9 (QT T Q 0 0) 0 0 229 (bX8_give_229 Q nx) := x_iadd C dX8_give_229 (pf_X8_298 C dX8_give_230 (x_al_n C dX8_give_233 rfl (gf_X8_105 C dX8_give_234 (x_al_n C dX8_give_237 rfl (gf_X8_207 C dX8_give_238 (x_il_n C dX8_give_241 rfl (x_iast C dX8_give_242 (x_al_n C dX8_give_243 rfl (gf_X8_108 C dX8_give_244 (x_al_n C dX8_give_247 rfl (gf_X8_207 C dX8_give_248 (x_il_n C dX8_give_251 rfl (x_iast C dX8_give_252 (x_al_n C dX8_give_253 rfl (gf_X8_111 C dX8_give_254 (x_al_n C dX8_give_257 rfl (gf_X8_207 C dX8_give_258 (x_il_n C dX8_give_261 rfl (x_iast C dX8_give_262 (x_al_n C dX8_give_263 rfl (gf_X8_114 C dX8_give_264 (x_al_n C dX8_give_267 rfl (gf_X8_207 C dX8_give_268 (x_il C dX8_give_271 (x_iast C dX8_give_273 (x_al_n C dX8_give_274 rfl (gf_X8_117 C dX8_give_275 (x_al_n C dX8_give_278 rfl (gf_X8_207 C dX8_give_279 (x_al_n C dX8_give_282 rfl (gf_X8_123 C dX8_give_283 (x_il_n C dX8_give_286 rfl (x_iald C dX8_give_287 (x_iast C dX8_give_288 (x_al_n C dX8_give_289 rfl (gf_X8_120 C dX8_give_290 (x_al_n C dX8_give_293 rfl (gf_X8_207 C dX8_give_294 (x_ic C dX8_give_297 (by decide) (x_zast C dX8_give_298 (x_al_n C dX8_give_299 rfl (x_il C dX8_give_300 (x_il_n C dX8_give_302 rfl (x_al_n C dX8_give_303 rfl (hn 304)))))))))))))))))))))))))))))))))))))))))))))
set_option maxRecDepth 20000 in
theorem oX8_give_304 {T : Ct} {Q : Option Value → MM → Prop} (C : Cx T cX8_give 9 RX8 0 0) (CR : CxR T 1 25) (hr : T.2.2.2.2.2.2.2.2.1.sig.returnType = (some .int)) (hnm : T.2.2.2.2.2.2.2.2.1.name = "give") {nx : Nat → Kt} (hn : ∀ pc, Sd T 9 (QT T Q 0 0) 0 0 pc (nx pc)) : Sd T 9 (QT T Q 0 0) 0 0 304 (bX8_give_304 Q nx) := gf_X8_207 C dX8_give_304 (x_cV C CR mX8_comesOn ⟨co_X8_comesOn, init_X8, md_X8_comesOn, by decide, by decide⟩ (ci := 8) (TX := TX8) (N := 51) rfl (by decide) ml_X8_254 im_X8_comesOn se_X8_comesOn dX8_give_307 (x_al_n C dX8_give_310 rfl (x_dup C dX8_give_311 (gf_X8_207 C dX8_give_312 (x_ic C dX8_give_315 (by decide) (x_iadd C dX8_give_316 (pf_X8_207 C dX8_give_317 (x_il C dX8_give_320 (x_bp C dX8_give_322 (by decide) (x_irem C dX8_give_324 (x_rI C hr dX8_give_325)))))))))))
set_option maxRecDepth 20000 in
theorem mX8_give (l : Launch) (D : va_G) (cA : Nat → ClassId) (base : Nat) : Mc l D cA base yX8_give cX8_give 9 (some .int) rX8_give wX8_give := mc_of (by decide +kernel) kX8_give (fun T Q C CR hr hnm nx hn => bse_ok _ (List.forall_mem_cons.mpr ⟨oX8_give_0 C CR hr hnm hn, List.forall_mem_cons.mpr ⟨oX8_give_19 C CR hr hnm hn, List.forall_mem_cons.mpr ⟨oX8_give_23 C CR hr hnm hn, List.forall_mem_cons.mpr ⟨oX8_give_24 C CR hr hnm hn, List.forall_mem_cons.mpr ⟨oX8_give_36 C CR hr hnm hn, List.forall_mem_cons.mpr ⟨oX8_give_45 C CR hr hnm hn, List.forall_mem_cons.mpr ⟨oX8_give_89 C CR hr hnm hn, List.forall_mem_cons.mpr ⟨oX8_give_90 C CR hr hnm hn, List.forall_mem_cons.mpr ⟨oX8_give_99 C CR hr hnm hn, List.forall_mem_cons.mpr ⟨oX8_give_106 C CR hr hnm hn, List.forall_mem_cons.mpr ⟨oX8_give_118 C CR hr hnm hn, List.forall_mem_cons.mpr ⟨oX8_give_145 C CR hr hnm hn, List.forall_mem_cons.mpr ⟨oX8_give_173 C CR hr hnm hn, List.forall_mem_cons.mpr ⟨oX8_give_174 C CR hr hnm hn, List.forall_mem_cons.mpr ⟨oX8_give_183 C CR hr hnm hn, List.forall_mem_cons.mpr ⟨oX8_give_208 C CR hr hnm hn, List.forall_mem_cons.mpr ⟨oX8_give_228 C CR hr hnm hn, List.forall_mem_cons.mpr ⟨oX8_give_229 C CR hr hnm hn, List.forall_mem_cons.mpr ⟨oX8_give_304 C CR hr hnm hn, fun _ h => nomatch h⟩⟩⟩⟩⟩⟩⟩⟩⟩⟩⟩⟩⟩⟩⟩⟩⟩⟩⟩))
theorem dX8_came_0 : decode cX8_came 0 = .ok (.aload_n 0, 1) := by decide +kernel
theorem dX8_came_1 : decode cX8_came 1 = .ok (.iload_n 1, 1) := by decide +kernel
theorem dX8_came_2 : decode cX8_came 2 = .ok (.invokestatic 154, 3) := by decide +kernel
theorem dX8_came_5 : decode cX8_came 5 = .ok (.ifCond .eq 22, 3) := by decide +kernel
theorem dX8_came_8 : decode cX8_came 8 = .ok (.iload_n 2, 1) := by decide +kernel
theorem dX8_came_9 : decode cX8_came 9 = .ok (.ifCond .lt 18, 3) := by decide +kernel
theorem dX8_came_12 : decode cX8_came 12 = .ok (.iload_n 2, 1) := by decide +kernel
theorem dX8_came_13 : decode cX8_came 13 = .ok (.aload_n 0, 1) := by decide +kernel
theorem dX8_came_14 : decode cX8_came 14 = .ok (.getfield 129, 3) := by decide +kernel
theorem dX8_came_17 : decode cX8_came 17 = .ok (.iload_n 1, 1) := by decide +kernel
theorem dX8_came_18 : decode cX8_came 18 = .ok (.iaload, 1) := by decide +kernel
theorem dX8_came_19 : decode cX8_came 19 = .ok (.bipush 50, 2) := by decide +kernel
theorem dX8_came_21 : decode cX8_came 21 = .ok (.invokestatic 286, 3) := by decide +kernel
theorem dX8_came_24 : decode cX8_came 24 = .ok (.if_icmp .lt 7, 3) := by decide +kernel
theorem dX8_came_27 : decode cX8_came 27 = .ok (.iconst 1, 1) := by decide +kernel
theorem dX8_came_28 : decode cX8_came 28 = .ok (.goto 4, 3) := by decide +kernel
theorem dX8_came_31 : decode cX8_came 31 = .ok (.iconst 0, 1) := by decide +kernel
theorem dX8_came_32 : decode cX8_came 32 = .ok (.putfield 132, 3) := by decide +kernel
theorem dX8_came_35 : decode cX8_came 35 = .ok (.aload_n 0, 1) := by decide +kernel
theorem dX8_came_36 : decode cX8_came 36 = .ok (.getfield 132, 3) := by decide +kernel
theorem dX8_came_39 : decode cX8_came 39 = .ok (.ifCond .le 5, 3) := by decide +kernel
theorem dX8_came_42 : decode cX8_came 42 = .ok (.iconst 0, 1) := by decide +kernel
theorem dX8_came_43 : decode cX8_came 43 = .ok (.ireturn, 1) := by decide +kernel
theorem dX8_came_44 : decode cX8_came 44 = .ok (.iload_n 3, 1) := by decide +kernel
theorem dX8_came_45 : decode cX8_came 45 = .ok (.ifCond .lt 8, 3) := by decide +kernel
theorem dX8_came_48 : decode cX8_came 48 = .ok (.iload_n 3, 1) := by decide +kernel
theorem dX8_came_49 : decode cX8_came 49 = .ok (.iconst 3, 1) := by decide +kernel
theorem dX8_came_50 : decode cX8_came 50 = .ok (.if_icmp .le 7, 3) := by decide +kernel
theorem dX8_came_53 : decode cX8_came 53 = .ok (.iconst (-1), 1) := by decide +kernel
theorem dX8_came_54 : decode cX8_came 54 = .ok (.goto 30, 3) := by decide +kernel
theorem dX8_came_57 : decode cX8_came 57 = .ok (.aload_n 0, 1) := by decide +kernel
theorem dX8_came_58 : decode cX8_came 58 = .ok (.getfield 126, 3) := by decide +kernel
theorem dX8_came_61 : decode cX8_came 61 = .ok (.iconst 4, 1) := by decide +kernel
theorem dX8_came_62 : decode cX8_came 62 = .ok (.bipush 50, 2) := by decide +kernel
theorem dX8_came_64 : decode cX8_came 64 = .ok (.iload_n 1, 1) := by decide +kernel
theorem dX8_came_65 : decode cX8_came 65 = .ok (.imul, 1) := by decide +kernel
theorem dX8_came_66 : decode cX8_came 66 = .ok (.aload_n 0, 1) := by decide +kernel
theorem dX8_came_67 : decode cX8_came 67 = .ok (.getfield 129, 3) := by decide +kernel
theorem dX8_came_70 : decode cX8_came 70 = .ok (.iload_n 1, 1) := by decide +kernel
theorem dX8_came_71 : decode cX8_came 71 = .ok (.iaload, 1) := by decide +kernel
theorem dX8_came_72 : decode cX8_came 72 = .ok (.iconst 1, 1) := by decide +kernel
theorem dX8_came_73 : decode cX8_came 73 = .ok (.isub, 1) := by decide +kernel
theorem dX8_came_74 : decode cX8_came 74 = .ok (.iload_n 2, 1) := by decide +kernel
theorem dX8_came_75 : decode cX8_came 75 = .ok (.isub, 1) := by decide +kernel
theorem dX8_came_76 : decode cX8_came 76 = .ok (.bipush 50, 2) := by decide +kernel
theorem dX8_came_78 : decode cX8_came 78 = .ok (.irem, 1) := by decide +kernel
theorem dX8_came_79 : decode cX8_came 79 = .ok (.iadd, 1) := by decide +kernel
theorem dX8_came_80 : decode cX8_came 80 = .ok (.imul, 1) := by decide +kernel
theorem dX8_came_81 : decode cX8_came 81 = .ok (.iload_n 3, 1) := by decide +kernel
theorem dX8_came_82 : decode cX8_came 82 = .ok (.iadd, 1) := by decide +kernel
theorem dX8_came_83 : decode cX8_came 83 = .ok (.iaload, 1) := by decide +kernel
theorem dX8_came_84 : decode cX8_came 84 = .ok (.ireturn, 1) := by decide +kernel
noncomputable def bX8_came_0 (Q : Option Value → MM → Prop) (nx : Nat → Kt) : Kt := ldA 0 (ldI 1 (cS 1 wX8_isEnd 0 0 0 0 (ifz (fun x => x = 0) (nx 27) (ldI 2 (ifz (fun x => x < 0) (nx 27) (ldI 2 (ldA 0 (gR 8 42 (ldI 1 (aI 10 (cI 50 (mMn (ifc (fun x y => x < y) (nx 31) (nx 27))))))))))))))
noncomputable def bX8_came_27 (Q : Option Value → MM → Prop) (nx : Nat → Kt) : Kt := cI 1 (nx 32)
noncomputable def bX8_came_31 (Q : Option Value → MM → Prop) (nx : Nat → Kt) : Kt := cI 0 (nx 32)
noncomputable def bX8_came_32 (Q : Option Value → MM → Prop) (nx : Nat → Kt) : Kt := tI 8 0 (ldA 0 (gI 8 0 (ifz (fun x => x ≤ 0) (nx 44) (cI 0 (rI Q)))))
noncomputable def bX8_came_44 (Q : Option Value → MM → Prop) (nx : Nat → Kt) : Kt := ldI 3 (ifz (fun x => x < 0) (nx 53) (ldI 3 (cI 3 (ifc (fun x y => x ≤ y) (nx 57) (nx 53)))))
noncomputable def bX8_came_53 (Q : Option Value → MM → Prop) (nx : Nat → Kt) : Kt := cI (-1) (nx 84)
noncomputable def bX8_came_57 (Q : Option Value → MM → Prop) (nx : Nat → Kt) : Kt := ldA 0 (gR 8 41 (cI 4 (cI 50 (ldI 1 (bop (fun x y => x * y) (ldA 0 (gR 8 42 (ldI 1 (aI 10 (cI 1 (bop (fun x y => x - y) (ldI 2 (bop (fun x y => x - y) (cI 50 (bod (fun x y => x - x / y * y) (bop (fun x y => x + y) (bop (fun x y => x * y) (ldI 3 (bop (fun x y => x + y) (aI 10 (nx 84)))))))))))))))))))))
noncomputable def bX8_came_84 (Q : Option Value → MM → Prop) (nx : Nat → Kt) : Kt := rI Q
noncomputable def kX8_came (Q : Option Value → MM → Prop) (nx : Nat → Kt) : Nat → Kt := bse [(0, bX8_came_0 Q nx), (27, bX8_came_27 Q nx), (31, bX8_came_31 Q nx), (32, bX8_came_32 Q nx), (44, bX8_came_44 Q nx), (53, bX8_came_53 Q nx), (57, bX8_came_57 Q nx), (84, bX8_came_84 Q nx)]
abbrev rX8_came : Room := { frames := 1, cells := 0, slots := 0, locals := 21 }
noncomputable def wX8_came : Mw := mw 4 kX8_came
set_option maxRecDepth 20000 in
theorem oX8_came_0 {T : Ct} {Q : Option Value → MM → Prop} (C : Cx T cX8_came 4 RX8 0 0) (CR : CxR T 1 21) (hr : T.2.2.2.2.2.2.2.2.1.sig.returnType = (some .int)) (hnm : T.2.2.2.2.2.2.2.2.1.name = "came") {nx : Nat → Kt} (hn : ∀ pc, Sd T 4 (QT T Q 0 0) 0 0 pc (nx pc)) : Sd T 4 (QT T Q 0 0) 0 0 0 (bX8_came_0 Q nx) := x_al_n C dX8_came_0 rfl (x_il_n C dX8_came_1 rfl (x_cS C CR mX8_isEnd ⟨co_X8_isEnd, init_X8, md_X8_isEnd, by decide, by decide⟩ ml_X8_154 sm_X8_isEnd dX8_came_2 (x_if_eq C (hn 27) dX8_came_5 (by decide) (x_il_n C dX8_came_8 rfl (x_if_lt C (hn 27) dX8_came_9 (by decide) (x_il_n C dX8_came_12 rfl (x_al_n C dX8_came_13 rfl (gf_X8_129 C dX8_came_14 (x_il_n C dX8_came_17 rfl (x_iald C dX8_came_18 (x_bp C dX8_came_19 (by decide) (x_mMn C CR (by decide) (by decide) ml_X8_286 st_min init_Math co_min dX8_came_21 (x_ic_lt C (hn 31) dX8_came_24 (by decide) (hn 27))))))))))))))
set_option maxRecDepth 20000 in
theorem oX8_came_27 {T : Ct} {Q : Option Value → MM → Prop} (C : Cx T cX8_came 4 RX8 0 0) (CR : CxR T 1 21) (hr : T.2.2.2.2.2.2.2.2.1.sig.returnType = (some .int)) (hnm : T.2.2.2.2.2.2.2.2.1.name = "came") {nx : Nat → Kt} (hn : ∀ pc, Sd T 4 (QT T Q 0 0) 0 0 pc (nx pc)) : Sd T 4 (QT T Q 0 0) 0 0 27 (bX8_came_27 Q nx) := x_ic C dX8_came_27 (by decide) (x_goto C (hn 32) dX8_came_28 (by decide))
set_option maxRecDepth 20000 in
theorem oX8_came_31 {T : Ct} {Q : Option Value → MM → Prop} (C : Cx T cX8_came 4 RX8 0 0) (CR : CxR T 1 21) (hr : T.2.2.2.2.2.2.2.2.1.sig.returnType = (some .int)) (hnm : T.2.2.2.2.2.2.2.2.1.name = "came") {nx : Nat → Kt} (hn : ∀ pc, Sd T 4 (QT T Q 0 0) 0 0 pc (nx pc)) : Sd T 4 (QT T Q 0 0) 0 0 31 (bX8_came_31 Q nx) := x_ic C dX8_came_31 (by decide) (hn 32)
set_option maxRecDepth 20000 in
theorem oX8_came_32 {T : Ct} {Q : Option Value → MM → Prop} (C : Cx T cX8_came 4 RX8 0 0) (CR : CxR T 1 21) (hr : T.2.2.2.2.2.2.2.2.1.sig.returnType = (some .int)) (hnm : T.2.2.2.2.2.2.2.2.1.name = "came") {nx : Nat → Kt} (hn : ∀ pc, Sd T 4 (QT T Q 0 0) 0 0 pc (nx pc)) : Sd T 4 (QT T Q 0 0) 0 0 32 (bX8_came_32 Q nx) := pf_X8_132 C dX8_came_32 (x_al_n C dX8_came_35 rfl (gf_X8_132 C dX8_came_36 (x_if_le C (hn 44) dX8_came_39 (by decide) (x_ic C dX8_came_42 (by decide) (x_rI C hr dX8_came_43)))))
set_option maxRecDepth 20000 in
theorem oX8_came_44 {T : Ct} {Q : Option Value → MM → Prop} (C : Cx T cX8_came 4 RX8 0 0) (CR : CxR T 1 21) (hr : T.2.2.2.2.2.2.2.2.1.sig.returnType = (some .int)) (hnm : T.2.2.2.2.2.2.2.2.1.name = "came") {nx : Nat → Kt} (hn : ∀ pc, Sd T 4 (QT T Q 0 0) 0 0 pc (nx pc)) : Sd T 4 (QT T Q 0 0) 0 0 44 (bX8_came_44 Q nx) := x_il_n C dX8_came_44 rfl (x_if_lt C (hn 53) dX8_came_45 (by decide) (x_il_n C dX8_came_48 rfl (x_ic C dX8_came_49 (by decide) (x_ic_le C (hn 57) dX8_came_50 (by decide) (hn 53)))))
set_option maxRecDepth 20000 in
theorem oX8_came_53 {T : Ct} {Q : Option Value → MM → Prop} (C : Cx T cX8_came 4 RX8 0 0) (CR : CxR T 1 21) (hr : T.2.2.2.2.2.2.2.2.1.sig.returnType = (some .int)) (hnm : T.2.2.2.2.2.2.2.2.1.name = "came") {nx : Nat → Kt} (hn : ∀ pc, Sd T 4 (QT T Q 0 0) 0 0 pc (nx pc)) : Sd T 4 (QT T Q 0 0) 0 0 53 (bX8_came_53 Q nx) := x_ic C dX8_came_53 (by decide) (x_goto C (hn 84) dX8_came_54 (by decide))
set_option maxRecDepth 20000 in
theorem oX8_came_57 {T : Ct} {Q : Option Value → MM → Prop} (C : Cx T cX8_came 4 RX8 0 0) (CR : CxR T 1 21) (hr : T.2.2.2.2.2.2.2.2.1.sig.returnType = (some .int)) (hnm : T.2.2.2.2.2.2.2.2.1.name = "came") {nx : Nat → Kt} (hn : ∀ pc, Sd T 4 (QT T Q 0 0) 0 0 pc (nx pc)) : Sd T 4 (QT T Q 0 0) 0 0 57 (bX8_came_57 Q nx) := x_al_n C dX8_came_57 rfl (gf_X8_126 C dX8_came_58 (x_ic C dX8_came_61 (by decide) (x_bp C dX8_came_62 (by decide) (x_il_n C dX8_came_64 rfl (x_imul C dX8_came_65 (x_al_n C dX8_came_66 rfl (gf_X8_129 C dX8_came_67 (x_il_n C dX8_came_70 rfl (x_iald C dX8_came_71 (x_ic C dX8_came_72 (by decide) (x_isub C dX8_came_73 (x_il_n C dX8_came_74 rfl (x_isub C dX8_came_75 (x_bp C dX8_came_76 (by decide) (x_irem C dX8_came_78 (x_iadd C dX8_came_79 (x_imul C dX8_came_80 (x_il_n C dX8_came_81 rfl (x_iadd C dX8_came_82 (x_iald C dX8_came_83 (hn 84)))))))))))))))))))))
set_option maxRecDepth 20000 in
theorem oX8_came_84 {T : Ct} {Q : Option Value → MM → Prop} (C : Cx T cX8_came 4 RX8 0 0) (CR : CxR T 1 21) (hr : T.2.2.2.2.2.2.2.2.1.sig.returnType = (some .int)) (hnm : T.2.2.2.2.2.2.2.2.1.name = "came") {nx : Nat → Kt} (hn : ∀ pc, Sd T 4 (QT T Q 0 0) 0 0 pc (nx pc)) : Sd T 4 (QT T Q 0 0) 0 0 84 (bX8_came_84 Q nx) := x_rI C hr dX8_came_84
set_option maxRecDepth 20000 in
theorem mX8_came (l : Launch) (D : va_G) (cA : Nat → ClassId) (base : Nat) : Mc l D cA base yX8_came cX8_came 4 (some .int) rX8_came wX8_came := mc_of (by decide +kernel) kX8_came (fun T Q C CR hr hnm nx hn => bse_ok _ (List.forall_mem_cons.mpr ⟨oX8_came_0 C CR hr hnm hn, List.forall_mem_cons.mpr ⟨oX8_came_27 C CR hr hnm hn, List.forall_mem_cons.mpr ⟨oX8_came_31 C CR hr hnm hn, List.forall_mem_cons.mpr ⟨oX8_came_32 C CR hr hnm hn, List.forall_mem_cons.mpr ⟨oX8_came_44 C CR hr hnm hn, List.forall_mem_cons.mpr ⟨oX8_came_53 C CR hr hnm hn, List.forall_mem_cons.mpr ⟨oX8_came_57 C CR hr hnm hn, List.forall_mem_cons.mpr ⟨oX8_came_84 C CR hr hnm hn, fun _ h => nomatch h⟩⟩⟩⟩⟩⟩⟩⟩))
theorem dX8_look_0 : decode cX8_look 0 = .ok (.aload_n 0, 1) := by decide +kernel
theorem dX8_look_1 : decode cX8_look 1 = .ok (.iload_n 1, 1) := by decide +kernel
theorem dX8_look_2 : decode cX8_look 2 = .ok (.invokestatic 154, 3) := by decide +kernel
theorem dX8_look_5 : decode cX8_look 5 = .ok (.ifCond .eq 10, 3) := by decide +kernel
theorem dX8_look_8 : decode cX8_look 8 = .ok (.iload_n 2, 1) := by decide +kernel
theorem dX8_look_9 : decode cX8_look 9 = .ok (.invokestatic 162, 3) := by decide +kernel
theorem dX8_look_12 : decode cX8_look 12 = .ok (.ifCond .ne 7, 3) := by decide +kernel
theorem dX8_look_15 : decode cX8_look 15 = .ok (.iconst 1, 1) := by decide +kernel
theorem dX8_look_16 : decode cX8_look 16 = .ok (.goto 4, 3) := by decide +kernel
theorem dX8_look_19 : decode cX8_look 19 = .ok (.iconst 0, 1) := by decide +kernel
theorem dX8_look_20 : decode cX8_look 20 = .ok (.putfield 132, 3) := by decide +kernel
theorem dX8_look_23 : decode cX8_look 23 = .ok (.aload_n 0, 1) := by decide +kernel
theorem dX8_look_24 : decode cX8_look 24 = .ok (.getfield 132, 3) := by decide +kernel
theorem dX8_look_27 : decode cX8_look 27 = .ok (.ifCond .le 5, 3) := by decide +kernel
theorem dX8_look_30 : decode cX8_look 30 = .ok (.iconst 0, 1) := by decide +kernel
theorem dX8_look_31 : decode cX8_look 31 = .ok (.ireturn, 1) := by decide +kernel
theorem dX8_look_32 : decode cX8_look 32 = .ok (.bipush 8, 2) := by decide +kernel
theorem dX8_look_34 : decode cX8_look 34 = .ok (.iload_n 1, 1) := by decide +kernel
theorem dX8_look_35 : decode cX8_look 35 = .ok (.imul, 1) := by decide +kernel
theorem dX8_look_36 : decode cX8_look 36 = .ok (.iload_n 2, 1) := by decide +kernel
theorem dX8_look_37 : decode cX8_look 37 = .ok (.iadd, 1) := by decide +kernel
theorem dX8_look_38 : decode cX8_look 38 = .ok (.istore 4, 2) := by decide +kernel
theorem dX8_look_40 : decode cX8_look 40 = .ok (.iload_n 3, 1) := by decide +kernel
theorem dX8_look_41 : decode cX8_look 41 = .ok (.tableswitch 189 0 15 #[79, 87, 95, 102, 110, 118, 126, 134, 150, 158, 158, 158, 158, 158, 173, 181], 79) := by decide +kernel
theorem dX8_look_120 : decode cX8_look 120 = .ok (.aload_n 0, 1) := by decide +kernel
theorem dX8_look_121 : decode cX8_look 121 = .ok (.getfield 16, 3) := by decide +kernel
theorem dX8_look_124 : decode cX8_look 124 = .ok (.iload 4, 2) := by decide +kernel
theorem dX8_look_126 : decode cX8_look 126 = .ok (.iaload, 1) := by decide +kernel
theorem dX8_look_127 : decode cX8_look 127 = .ok (.ireturn, 1) := by decide +kernel
theorem dX8_look_128 : decode cX8_look 128 = .ok (.aload_n 0, 1) := by decide +kernel
theorem dX8_look_129 : decode cX8_look 129 = .ok (.getfield 19, 3) := by decide +kernel
theorem dX8_look_132 : decode cX8_look 132 = .ok (.iload 4, 2) := by decide +kernel
theorem dX8_look_134 : decode cX8_look 134 = .ok (.iaload, 1) := by decide +kernel
theorem dX8_look_135 : decode cX8_look 135 = .ok (.ireturn, 1) := by decide +kernel
theorem dX8_look_136 : decode cX8_look 136 = .ok (.aload_n 0, 1) := by decide +kernel
theorem dX8_look_137 : decode cX8_look 137 = .ok (.iload 4, 2) := by decide +kernel
theorem dX8_look_139 : decode cX8_look 139 = .ok (.invokevirtual 136, 3) := by decide +kernel
theorem dX8_look_142 : decode cX8_look 142 = .ok (.ireturn, 1) := by decide +kernel
theorem dX8_look_143 : decode cX8_look 143 = .ok (.aload_n 0, 1) := by decide +kernel
theorem dX8_look_144 : decode cX8_look 144 = .ok (.getfield 29, 3) := by decide +kernel
theorem dX8_look_147 : decode cX8_look 147 = .ok (.iload 4, 2) := by decide +kernel
theorem dX8_look_149 : decode cX8_look 149 = .ok (.iaload, 1) := by decide +kernel
theorem dX8_look_150 : decode cX8_look 150 = .ok (.ireturn, 1) := by decide +kernel
theorem dX8_look_151 : decode cX8_look 151 = .ok (.aload_n 0, 1) := by decide +kernel
theorem dX8_look_152 : decode cX8_look 152 = .ok (.getfield 32, 3) := by decide +kernel
theorem dX8_look_155 : decode cX8_look 155 = .ok (.iload 4, 2) := by decide +kernel
theorem dX8_look_157 : decode cX8_look 157 = .ok (.iaload, 1) := by decide +kernel
theorem dX8_look_158 : decode cX8_look 158 = .ok (.ireturn, 1) := by decide +kernel
theorem dX8_look_159 : decode cX8_look 159 = .ok (.aload_n 0, 1) := by decide +kernel
theorem dX8_look_160 : decode cX8_look 160 = .ok (.getfield 35, 3) := by decide +kernel
theorem dX8_look_163 : decode cX8_look 163 = .ok (.iload 4, 2) := by decide +kernel
theorem dX8_look_165 : decode cX8_look 165 = .ok (.iaload, 1) := by decide +kernel
theorem dX8_look_166 : decode cX8_look 166 = .ok (.ireturn, 1) := by decide +kernel
theorem dX8_look_167 : decode cX8_look 167 = .ok (.aload_n 0, 1) := by decide +kernel
theorem dX8_look_168 : decode cX8_look 168 = .ok (.getfield 44, 3) := by decide +kernel
theorem dX8_look_171 : decode cX8_look 171 = .ok (.iload 4, 2) := by decide +kernel
theorem dX8_look_173 : decode cX8_look 173 = .ok (.iaload, 1) := by decide +kernel
theorem dX8_look_174 : decode cX8_look 174 = .ok (.ireturn, 1) := by decide +kernel
theorem dX8_look_175 : decode cX8_look 175 = .ok (.aload_n 0, 1) := by decide +kernel
theorem dX8_look_176 : decode cX8_look 176 = .ok (.getfield 47, 3) := by decide +kernel
theorem dX8_look_179 : decode cX8_look 179 = .ok (.iload 4, 2) := by decide +kernel
theorem dX8_look_181 : decode cX8_look 181 = .ok (.baload, 1) := by decide +kernel
theorem dX8_look_182 : decode cX8_look 182 = .ok (.ifCond .eq 7, 3) := by decide +kernel
theorem dX8_look_185 : decode cX8_look 185 = .ok (.iconst 1, 1) := by decide +kernel
theorem dX8_look_186 : decode cX8_look 186 = .ok (.goto 4, 3) := by decide +kernel
theorem dX8_look_189 : decode cX8_look 189 = .ok (.iconst 0, 1) := by decide +kernel
theorem dX8_look_190 : decode cX8_look 190 = .ok (.ireturn, 1) := by decide +kernel
theorem dX8_look_191 : decode cX8_look 191 = .ok (.aload_n 0, 1) := by decide +kernel
theorem dX8_look_192 : decode cX8_look 192 = .ok (.getfield 41, 3) := by decide +kernel
theorem dX8_look_195 : decode cX8_look 195 = .ok (.iload 4, 2) := by decide +kernel
theorem dX8_look_197 : decode cX8_look 197 = .ok (.iaload, 1) := by decide +kernel
theorem dX8_look_198 : decode cX8_look 198 = .ok (.ireturn, 1) := by decide +kernel
theorem dX8_look_199 : decode cX8_look 199 = .ok (.aload_n 0, 1) := by decide +kernel
theorem dX8_look_200 : decode cX8_look 200 = .ok (.getfield 62, 3) := by decide +kernel
theorem dX8_look_203 : decode cX8_look 203 = .ok (.iconst 5, 1) := by decide +kernel
theorem dX8_look_204 : decode cX8_look 204 = .ok (.iload 4, 2) := by decide +kernel
theorem dX8_look_206 : decode cX8_look 206 = .ok (.imul, 1) := by decide +kernel
theorem dX8_look_207 : decode cX8_look 207 = .ok (.iload_n 3, 1) := by decide +kernel
theorem dX8_look_208 : decode cX8_look 208 = .ok (.iadd, 1) := by decide +kernel
theorem dX8_look_209 : decode cX8_look 209 = .ok (.bipush 9, 2) := by decide +kernel
theorem dX8_look_211 : decode cX8_look 211 = .ok (.isub, 1) := by decide +kernel
theorem dX8_look_212 : decode cX8_look 212 = .ok (.iaload, 1) := by decide +kernel
theorem dX8_look_213 : decode cX8_look 213 = .ok (.ireturn, 1) := by decide +kernel
theorem dX8_look_214 : decode cX8_look 214 = .ok (.aload_n 0, 1) := by decide +kernel
theorem dX8_look_215 : decode cX8_look 215 = .ok (.getfield 56, 3) := by decide +kernel
theorem dX8_look_218 : decode cX8_look 218 = .ok (.iload 4, 2) := by decide +kernel
theorem dX8_look_220 : decode cX8_look 220 = .ok (.iaload, 1) := by decide +kernel
theorem dX8_look_221 : decode cX8_look 221 = .ok (.ireturn, 1) := by decide +kernel
theorem dX8_look_222 : decode cX8_look 222 = .ok (.aload_n 0, 1) := by decide +kernel
theorem dX8_look_223 : decode cX8_look 223 = .ok (.getfield 59, 3) := by decide +kernel
theorem dX8_look_226 : decode cX8_look 226 = .ok (.iload 4, 2) := by decide +kernel
theorem dX8_look_228 : decode cX8_look 228 = .ok (.iaload, 1) := by decide +kernel
theorem dX8_look_229 : decode cX8_look 229 = .ok (.ireturn, 1) := by decide +kernel
theorem dX8_look_230 : decode cX8_look 230 = .ok (.iconst (-1), 1) := by decide +kernel
theorem dX8_look_231 : decode cX8_look 231 = .ok (.ireturn, 1) := by decide +kernel
noncomputable def bX8_look_0 (Q : Option Value → MM → Prop) (nx : Nat → Kt) : Kt := ldA 0 (ldI 1 (cS 1 wX8_isEnd 0 0 0 0 (ifz (fun x => x = 0) (nx 15) (ldI 2 (cS 1 wX8_isPort 0 0 0 0 (ifz (fun x => x = 0) (nx 15) (nx 19)))))))
noncomputable def bX8_look_15 (Q : Option Value → MM → Prop) (nx : Nat → Kt) : Kt := cI 1 (nx 20)
noncomputable def bX8_look_19 (Q : Option Value → MM → Prop) (nx : Nat → Kt) : Kt := cI 0 (nx 20)
noncomputable def bX8_look_20 (Q : Option Value → MM → Prop) (nx : Nat → Kt) : Kt := tI 8 0 (ldA 0 (gI 8 0 (ifz (fun x => x ≤ 0) (nx 32) (cI 0 (rI Q)))))
noncomputable def bX8_look_32 (Q : Option Value → MM → Prop) (nx : Nat → Kt) : Kt := cI 8 (ldI 1 (bop (fun x y => x * y) (ldI 2 (bop (fun x y => x + y) (stI 4 (ldI 3 (swt 0 15 (fun j => nx (([120, 128, 136, 143, 151, 159, 167, 175, 191, 199, 199, 199, 199, 199, 214, 222] : List Nat).getD j 0)) (nx 230))))))))
noncomputable def bX8_look_120 (Q : Option Value → MM → Prop) (nx : Nat → Kt) : Kt := ldA 0 (gR 8 3 (ldI 4 (aI 10 (rI Q))))
noncomputable def bX8_look_128 (Q : Option Value → MM → Prop) (nx : Nat → Kt) : Kt := ldA 0 (gR 8 4 (ldI 4 (aI 10 (rI Q))))
noncomputable def bX8_look_136 (Q : Option Value → MM → Prop) (nx : Nat → Kt) : Kt := ldA 0 (ldI 4 (cV 1 8 wX8_bits 0 0 0 0 (rI Q)))
noncomputable def bX8_look_143 (Q : Option Value → MM → Prop) (nx : Nat → Kt) : Kt := ldA 0 (gR 8 7 (ldI 4 (aI 10 (rI Q))))
noncomputable def bX8_look_151 (Q : Option Value → MM → Prop) (nx : Nat → Kt) : Kt := ldA 0 (gR 8 8 (ldI 4 (aI 10 (rI Q))))
noncomputable def bX8_look_159 (Q : Option Value → MM → Prop) (nx : Nat → Kt) : Kt := ldA 0 (gR 8 9 (ldI 4 (aI 10 (rI Q))))
noncomputable def bX8_look_167 (Q : Option Value → MM → Prop) (nx : Nat → Kt) : Kt := ldA 0 (gR 8 12 (ldI 4 (aI 10 (rI Q))))
noncomputable def bX8_look_175 (Q : Option Value → MM → Prop) (nx : Nat → Kt) : Kt := ldA 0 (gR 8 13 (ldI 4 (aI 11 (ifz (fun x => x = 0) (nx 189) (cI 1 (nx 190))))))
noncomputable def bX8_look_189 (Q : Option Value → MM → Prop) (nx : Nat → Kt) : Kt := cI 0 (nx 190)
noncomputable def bX8_look_190 (Q : Option Value → MM → Prop) (nx : Nat → Kt) : Kt := rI Q
noncomputable def bX8_look_191 (Q : Option Value → MM → Prop) (nx : Nat → Kt) : Kt := ldA 0 (gR 8 11 (ldI 4 (aI 10 (rI Q))))
noncomputable def bX8_look_199 (Q : Option Value → MM → Prop) (nx : Nat → Kt) : Kt := ldA 0 (gR 8 18 (cI 5 (ldI 4 (bop (fun x y => x * y) (ldI 3 (bop (fun x y => x + y) (cI 9 (bop (fun x y => x - y) (aI 10 (rI Q))))))))))
noncomputable def bX8_look_214 (Q : Option Value → MM → Prop) (nx : Nat → Kt) : Kt := ldA 0 (gR 8 16 (ldI 4 (aI 10 (rI Q))))
noncomputable def bX8_look_222 (Q : Option Value → MM → Prop) (nx : Nat → Kt) : Kt := ldA 0 (gR 8 17 (ldI 4 (aI 10 (rI Q))))
noncomputable def bX8_look_230 (Q : Option Value → MM → Prop) (nx : Nat → Kt) : Kt := cI (-1) (rI Q)
noncomputable def kX8_look (Q : Option Value → MM → Prop) (nx : Nat → Kt) : Nat → Kt := bse [(0, bX8_look_0 Q nx), (15, bX8_look_15 Q nx), (19, bX8_look_19 Q nx), (20, bX8_look_20 Q nx), (32, bX8_look_32 Q nx), (120, bX8_look_120 Q nx), (128, bX8_look_128 Q nx), (136, bX8_look_136 Q nx), (143, bX8_look_143 Q nx), (151, bX8_look_151 Q nx), (159, bX8_look_159 Q nx), (167, bX8_look_167 Q nx), (175, bX8_look_175 Q nx), (189, bX8_look_189 Q nx), (190, bX8_look_190 Q nx), (191, bX8_look_191 Q nx), (199, bX8_look_199 Q nx), (214, bX8_look_214 Q nx), (222, bX8_look_222 Q nx), (230, bX8_look_230 Q nx)]
abbrev rX8_look : Room := { frames := 1, cells := 0, slots := 0, locals := 22 }
noncomputable def wX8_look : Mw := mw 5 kX8_look
set_option maxRecDepth 20000 in
theorem oX8_look_0 {T : Ct} {Q : Option Value → MM → Prop} (C : Cx T cX8_look 5 RX8 0 0) (CR : CxR T 1 22) (hr : T.2.2.2.2.2.2.2.2.1.sig.returnType = (some .int)) (hnm : T.2.2.2.2.2.2.2.2.1.name = "look") {nx : Nat → Kt} (hn : ∀ pc, Sd T 5 (QT T Q 0 0) 0 0 pc (nx pc)) : Sd T 5 (QT T Q 0 0) 0 0 0 (bX8_look_0 Q nx) := x_al_n C dX8_look_0 rfl (x_il_n C dX8_look_1 rfl (x_cS C CR mX8_isEnd ⟨co_X8_isEnd, init_X8, md_X8_isEnd, by decide, by decide⟩ ml_X8_154 sm_X8_isEnd dX8_look_2 (x_if_eq C (hn 15) dX8_look_5 (by decide) (x_il_n C dX8_look_8 rfl (x_cS C CR mX8_isPort ⟨co_X8_isPort, init_X8, md_X8_isPort, by decide, by decide⟩ ml_X8_162 sm_X8_isPort dX8_look_9 (x_if_ne C (hn 19) dX8_look_12 (by decide) (hn 15)))))))
set_option maxRecDepth 20000 in
theorem oX8_look_15 {T : Ct} {Q : Option Value → MM → Prop} (C : Cx T cX8_look 5 RX8 0 0) (CR : CxR T 1 22) (hr : T.2.2.2.2.2.2.2.2.1.sig.returnType = (some .int)) (hnm : T.2.2.2.2.2.2.2.2.1.name = "look") {nx : Nat → Kt} (hn : ∀ pc, Sd T 5 (QT T Q 0 0) 0 0 pc (nx pc)) : Sd T 5 (QT T Q 0 0) 0 0 15 (bX8_look_15 Q nx) := x_ic C dX8_look_15 (by decide) (x_goto C (hn 20) dX8_look_16 (by decide))
set_option maxRecDepth 20000 in
theorem oX8_look_19 {T : Ct} {Q : Option Value → MM → Prop} (C : Cx T cX8_look 5 RX8 0 0) (CR : CxR T 1 22) (hr : T.2.2.2.2.2.2.2.2.1.sig.returnType = (some .int)) (hnm : T.2.2.2.2.2.2.2.2.1.name = "look") {nx : Nat → Kt} (hn : ∀ pc, Sd T 5 (QT T Q 0 0) 0 0 pc (nx pc)) : Sd T 5 (QT T Q 0 0) 0 0 19 (bX8_look_19 Q nx) := x_ic C dX8_look_19 (by decide) (hn 20)
set_option maxRecDepth 20000 in
theorem oX8_look_20 {T : Ct} {Q : Option Value → MM → Prop} (C : Cx T cX8_look 5 RX8 0 0) (CR : CxR T 1 22) (hr : T.2.2.2.2.2.2.2.2.1.sig.returnType = (some .int)) (hnm : T.2.2.2.2.2.2.2.2.1.name = "look") {nx : Nat → Kt} (hn : ∀ pc, Sd T 5 (QT T Q 0 0) 0 0 pc (nx pc)) : Sd T 5 (QT T Q 0 0) 0 0 20 (bX8_look_20 Q nx) := pf_X8_132 C dX8_look_20 (x_al_n C dX8_look_23 rfl (gf_X8_132 C dX8_look_24 (x_if_le C (hn 32) dX8_look_27 (by decide) (x_ic C dX8_look_30 (by decide) (x_rI C hr dX8_look_31)))))
set_option maxRecDepth 20000 in
theorem oX8_look_32 {T : Ct} {Q : Option Value → MM → Prop} (C : Cx T cX8_look 5 RX8 0 0) (CR : CxR T 1 22) (hr : T.2.2.2.2.2.2.2.2.1.sig.returnType = (some .int)) (hnm : T.2.2.2.2.2.2.2.2.1.name = "look") {nx : Nat → Kt} (hn : ∀ pc, Sd T 5 (QT T Q 0 0) 0 0 pc (nx pc)) : Sd T 5 (QT T Q 0 0) 0 0 32 (bX8_look_32 Q nx) := x_bp C dX8_look_32 (by decide) (x_il_n C dX8_look_34 rfl (x_imul C dX8_look_35 (x_il_n C dX8_look_36 rfl (x_iadd C dX8_look_37 (x_is C dX8_look_38 (by decide) (x_il_n C dX8_look_40 rfl (x_sw C (tl := [120, 128, 136, 143, 151, 159, 167, 175, 191, 199, 199, 199, 199, 199, 214, 222]) hn dX8_look_41 (by decide) (by decide) (by decide))))))))
set_option maxRecDepth 20000 in
theorem oX8_look_120 {T : Ct} {Q : Option Value → MM → Prop} (C : Cx T cX8_look 5 RX8 0 0) (CR : CxR T 1 22) (hr : T.2.2.2.2.2.2.2.2.1.sig.returnType = (some .int)) (hnm : T.2.2.2.2.2.2.2.2.1.name = "look") {nx : Nat → Kt} (hn : ∀ pc, Sd T 5 (QT T Q 0 0) 0 0 pc (nx pc)) : Sd T 5 (QT T Q 0 0) 0 0 120 (bX8_look_120 Q nx) := x_al_n C dX8_look_120 rfl (gf_X8_16 C dX8_look_121 (x_il C dX8_look_124 (x_iald C dX8_look_126 (x_rI C hr dX8_look_127))))
set_option maxRecDepth 20000 in
theorem oX8_look_128 {T : Ct} {Q : Option Value → MM → Prop} (C : Cx T cX8_look 5 RX8 0 0) (CR : CxR T 1 22) (hr : T.2.2.2.2.2.2.2.2.1.sig.returnType = (some .int)) (hnm : T.2.2.2.2.2.2.2.2.1.name = "look") {nx : Nat → Kt} (hn : ∀ pc, Sd T 5 (QT T Q 0 0) 0 0 pc (nx pc)) : Sd T 5 (QT T Q 0 0) 0 0 128 (bX8_look_128 Q nx) := x_al_n C dX8_look_128 rfl (gf_X8_19 C dX8_look_129 (x_il C dX8_look_132 (x_iald C dX8_look_134 (x_rI C hr dX8_look_135))))
set_option maxRecDepth 20000 in
theorem oX8_look_136 {T : Ct} {Q : Option Value → MM → Prop} (C : Cx T cX8_look 5 RX8 0 0) (CR : CxR T 1 22) (hr : T.2.2.2.2.2.2.2.2.1.sig.returnType = (some .int)) (hnm : T.2.2.2.2.2.2.2.2.1.name = "look") {nx : Nat → Kt} (hn : ∀ pc, Sd T 5 (QT T Q 0 0) 0 0 pc (nx pc)) : Sd T 5 (QT T Q 0 0) 0 0 136 (bX8_look_136 Q nx) := x_al_n C dX8_look_136 rfl (x_il C dX8_look_137 (x_cV C CR mX8_bits ⟨co_X8_bits, init_X8, md_X8_bits, by decide, by decide⟩ (ci := 8) (TX := TX8) (N := 51) rfl (by decide) ml_X8_136 im_X8_bits se_X8_bits dX8_look_139 (x_rI C hr dX8_look_142)))
set_option maxRecDepth 20000 in
theorem oX8_look_143 {T : Ct} {Q : Option Value → MM → Prop} (C : Cx T cX8_look 5 RX8 0 0) (CR : CxR T 1 22) (hr : T.2.2.2.2.2.2.2.2.1.sig.returnType = (some .int)) (hnm : T.2.2.2.2.2.2.2.2.1.name = "look") {nx : Nat → Kt} (hn : ∀ pc, Sd T 5 (QT T Q 0 0) 0 0 pc (nx pc)) : Sd T 5 (QT T Q 0 0) 0 0 143 (bX8_look_143 Q nx) := x_al_n C dX8_look_143 rfl (gf_X8_29 C dX8_look_144 (x_il C dX8_look_147 (x_iald C dX8_look_149 (x_rI C hr dX8_look_150))))
set_option maxRecDepth 20000 in
theorem oX8_look_151 {T : Ct} {Q : Option Value → MM → Prop} (C : Cx T cX8_look 5 RX8 0 0) (CR : CxR T 1 22) (hr : T.2.2.2.2.2.2.2.2.1.sig.returnType = (some .int)) (hnm : T.2.2.2.2.2.2.2.2.1.name = "look") {nx : Nat → Kt} (hn : ∀ pc, Sd T 5 (QT T Q 0 0) 0 0 pc (nx pc)) : Sd T 5 (QT T Q 0 0) 0 0 151 (bX8_look_151 Q nx) := x_al_n C dX8_look_151 rfl (gf_X8_32 C dX8_look_152 (x_il C dX8_look_155 (x_iald C dX8_look_157 (x_rI C hr dX8_look_158))))
set_option maxRecDepth 20000 in
theorem oX8_look_159 {T : Ct} {Q : Option Value → MM → Prop} (C : Cx T cX8_look 5 RX8 0 0) (CR : CxR T 1 22) (hr : T.2.2.2.2.2.2.2.2.1.sig.returnType = (some .int)) (hnm : T.2.2.2.2.2.2.2.2.1.name = "look") {nx : Nat → Kt} (hn : ∀ pc, Sd T 5 (QT T Q 0 0) 0 0 pc (nx pc)) : Sd T 5 (QT T Q 0 0) 0 0 159 (bX8_look_159 Q nx) := x_al_n C dX8_look_159 rfl (gf_X8_35 C dX8_look_160 (x_il C dX8_look_163 (x_iald C dX8_look_165 (x_rI C hr dX8_look_166))))
set_option maxRecDepth 20000 in
theorem oX8_look_167 {T : Ct} {Q : Option Value → MM → Prop} (C : Cx T cX8_look 5 RX8 0 0) (CR : CxR T 1 22) (hr : T.2.2.2.2.2.2.2.2.1.sig.returnType = (some .int)) (hnm : T.2.2.2.2.2.2.2.2.1.name = "look") {nx : Nat → Kt} (hn : ∀ pc, Sd T 5 (QT T Q 0 0) 0 0 pc (nx pc)) : Sd T 5 (QT T Q 0 0) 0 0 167 (bX8_look_167 Q nx) := x_al_n C dX8_look_167 rfl (gf_X8_44 C dX8_look_168 (x_il C dX8_look_171 (x_iald C dX8_look_173 (x_rI C hr dX8_look_174))))
set_option maxRecDepth 20000 in
theorem oX8_look_175 {T : Ct} {Q : Option Value → MM → Prop} (C : Cx T cX8_look 5 RX8 0 0) (CR : CxR T 1 22) (hr : T.2.2.2.2.2.2.2.2.1.sig.returnType = (some .int)) (hnm : T.2.2.2.2.2.2.2.2.1.name = "look") {nx : Nat → Kt} (hn : ∀ pc, Sd T 5 (QT T Q 0 0) 0 0 pc (nx pc)) : Sd T 5 (QT T Q 0 0) 0 0 175 (bX8_look_175 Q nx) := x_al_n C dX8_look_175 rfl (gf_X8_47 C dX8_look_176 (x_il C dX8_look_179 (x_zald C dX8_look_181 (x_if_eq C (hn 189) dX8_look_182 (by decide) (x_ic C dX8_look_185 (by decide) (x_goto C (hn 190) dX8_look_186 (by decide)))))))
set_option maxRecDepth 20000 in
theorem oX8_look_189 {T : Ct} {Q : Option Value → MM → Prop} (C : Cx T cX8_look 5 RX8 0 0) (CR : CxR T 1 22) (hr : T.2.2.2.2.2.2.2.2.1.sig.returnType = (some .int)) (hnm : T.2.2.2.2.2.2.2.2.1.name = "look") {nx : Nat → Kt} (hn : ∀ pc, Sd T 5 (QT T Q 0 0) 0 0 pc (nx pc)) : Sd T 5 (QT T Q 0 0) 0 0 189 (bX8_look_189 Q nx) := x_ic C dX8_look_189 (by decide) (hn 190)
set_option maxRecDepth 20000 in
theorem oX8_look_190 {T : Ct} {Q : Option Value → MM → Prop} (C : Cx T cX8_look 5 RX8 0 0) (CR : CxR T 1 22) (hr : T.2.2.2.2.2.2.2.2.1.sig.returnType = (some .int)) (hnm : T.2.2.2.2.2.2.2.2.1.name = "look") {nx : Nat → Kt} (hn : ∀ pc, Sd T 5 (QT T Q 0 0) 0 0 pc (nx pc)) : Sd T 5 (QT T Q 0 0) 0 0 190 (bX8_look_190 Q nx) := x_rI C hr dX8_look_190
set_option maxRecDepth 20000 in
theorem oX8_look_191 {T : Ct} {Q : Option Value → MM → Prop} (C : Cx T cX8_look 5 RX8 0 0) (CR : CxR T 1 22) (hr : T.2.2.2.2.2.2.2.2.1.sig.returnType = (some .int)) (hnm : T.2.2.2.2.2.2.2.2.1.name = "look") {nx : Nat → Kt} (hn : ∀ pc, Sd T 5 (QT T Q 0 0) 0 0 pc (nx pc)) : Sd T 5 (QT T Q 0 0) 0 0 191 (bX8_look_191 Q nx) := x_al_n C dX8_look_191 rfl (gf_X8_41 C dX8_look_192 (x_il C dX8_look_195 (x_iald C dX8_look_197 (x_rI C hr dX8_look_198))))
set_option maxRecDepth 20000 in
theorem oX8_look_199 {T : Ct} {Q : Option Value → MM → Prop} (C : Cx T cX8_look 5 RX8 0 0) (CR : CxR T 1 22) (hr : T.2.2.2.2.2.2.2.2.1.sig.returnType = (some .int)) (hnm : T.2.2.2.2.2.2.2.2.1.name = "look") {nx : Nat → Kt} (hn : ∀ pc, Sd T 5 (QT T Q 0 0) 0 0 pc (nx pc)) : Sd T 5 (QT T Q 0 0) 0 0 199 (bX8_look_199 Q nx) := x_al_n C dX8_look_199 rfl (gf_X8_62 C dX8_look_200 (x_ic C dX8_look_203 (by decide) (x_il C dX8_look_204 (x_imul C dX8_look_206 (x_il_n C dX8_look_207 rfl (x_iadd C dX8_look_208 (x_bp C dX8_look_209 (by decide) (x_isub C dX8_look_211 (x_iald C dX8_look_212 (x_rI C hr dX8_look_213))))))))))
set_option maxRecDepth 20000 in
theorem oX8_look_214 {T : Ct} {Q : Option Value → MM → Prop} (C : Cx T cX8_look 5 RX8 0 0) (CR : CxR T 1 22) (hr : T.2.2.2.2.2.2.2.2.1.sig.returnType = (some .int)) (hnm : T.2.2.2.2.2.2.2.2.1.name = "look") {nx : Nat → Kt} (hn : ∀ pc, Sd T 5 (QT T Q 0 0) 0 0 pc (nx pc)) : Sd T 5 (QT T Q 0 0) 0 0 214 (bX8_look_214 Q nx) := x_al_n C dX8_look_214 rfl (gf_X8_56 C dX8_look_215 (x_il C dX8_look_218 (x_iald C dX8_look_220 (x_rI C hr dX8_look_221))))
set_option maxRecDepth 20000 in
theorem oX8_look_222 {T : Ct} {Q : Option Value → MM → Prop} (C : Cx T cX8_look 5 RX8 0 0) (CR : CxR T 1 22) (hr : T.2.2.2.2.2.2.2.2.1.sig.returnType = (some .int)) (hnm : T.2.2.2.2.2.2.2.2.1.name = "look") {nx : Nat → Kt} (hn : ∀ pc, Sd T 5 (QT T Q 0 0) 0 0 pc (nx pc)) : Sd T 5 (QT T Q 0 0) 0 0 222 (bX8_look_222 Q nx) := x_al_n C dX8_look_222 rfl (gf_X8_59 C dX8_look_223 (x_il C dX8_look_226 (x_iald C dX8_look_228 (x_rI C hr dX8_look_229))))
set_option maxRecDepth 20000 in
theorem oX8_look_230 {T : Ct} {Q : Option Value → MM → Prop} (C : Cx T cX8_look 5 RX8 0 0) (CR : CxR T 1 22) (hr : T.2.2.2.2.2.2.2.2.1.sig.returnType = (some .int)) (hnm : T.2.2.2.2.2.2.2.2.1.name = "look") {nx : Nat → Kt} (hn : ∀ pc, Sd T 5 (QT T Q 0 0) 0 0 pc (nx pc)) : Sd T 5 (QT T Q 0 0) 0 0 230 (bX8_look_230 Q nx) := x_ic C dX8_look_230 (by decide) (x_rI C hr dX8_look_231)
set_option maxRecDepth 20000 in
theorem mX8_look (l : Launch) (D : va_G) (cA : Nat → ClassId) (base : Nat) : Mc l D cA base yX8_look cX8_look 5 (some .int) rX8_look wX8_look := mc_of (by decide +kernel) kX8_look (fun T Q C CR hr hnm nx hn => bse_ok _ (List.forall_mem_cons.mpr ⟨oX8_look_0 C CR hr hnm hn, List.forall_mem_cons.mpr ⟨oX8_look_15 C CR hr hnm hn, List.forall_mem_cons.mpr ⟨oX8_look_19 C CR hr hnm hn, List.forall_mem_cons.mpr ⟨oX8_look_20 C CR hr hnm hn, List.forall_mem_cons.mpr ⟨oX8_look_32 C CR hr hnm hn, List.forall_mem_cons.mpr ⟨oX8_look_120 C CR hr hnm hn, List.forall_mem_cons.mpr ⟨oX8_look_128 C CR hr hnm hn, List.forall_mem_cons.mpr ⟨oX8_look_136 C CR hr hnm hn, List.forall_mem_cons.mpr ⟨oX8_look_143 C CR hr hnm hn, List.forall_mem_cons.mpr ⟨oX8_look_151 C CR hr hnm hn, List.forall_mem_cons.mpr ⟨oX8_look_159 C CR hr hnm hn, List.forall_mem_cons.mpr ⟨oX8_look_167 C CR hr hnm hn, List.forall_mem_cons.mpr ⟨oX8_look_175 C CR hr hnm hn, List.forall_mem_cons.mpr ⟨oX8_look_189 C CR hr hnm hn, List.forall_mem_cons.mpr ⟨oX8_look_190 C CR hr hnm hn, List.forall_mem_cons.mpr ⟨oX8_look_191 C CR hr hnm hn, List.forall_mem_cons.mpr ⟨oX8_look_199 C CR hr hnm hn, List.forall_mem_cons.mpr ⟨oX8_look_214 C CR hr hnm hn, List.forall_mem_cons.mpr ⟨oX8_look_222 C CR hr hnm hn, List.forall_mem_cons.mpr ⟨oX8_look_230 C CR hr hnm hn, fun _ h => nomatch h⟩⟩⟩⟩⟩⟩⟩⟩⟩⟩⟩⟩⟩⟩⟩⟩⟩⟩⟩⟩))
theorem dX8_cable_0 : decode cX8_cable 0 = .ok (.aload_n 0, 1) := by decide +kernel
theorem dX8_cable_1 : decode cX8_cable 1 = .ok (.iload_n 1, 1) := by decide +kernel
theorem dX8_cable_2 : decode cX8_cable 2 = .ok (.invokestatic 191, 3) := by decide +kernel
theorem dX8_cable_5 : decode cX8_cable 5 = .ok (.ifCond .eq 7, 3) := by decide +kernel
theorem dX8_cable_8 : decode cX8_cable 8 = .ok (.iconst 0, 1) := by decide +kernel
theorem dX8_cable_9 : decode cX8_cable 9 = .ok (.goto 4, 3) := by decide +kernel
theorem dX8_cable_12 : decode cX8_cable 12 = .ok (.iconst 1, 1) := by decide +kernel
theorem dX8_cable_13 : decode cX8_cable 13 = .ok (.putfield 132, 3) := by decide +kernel
theorem dX8_cable_16 : decode cX8_cable 16 = .ok (.aload_n 0, 1) := by decide +kernel
theorem dX8_cable_17 : decode cX8_cable 17 = .ok (.getfield 132, 3) := by decide +kernel
theorem dX8_cable_20 : decode cX8_cable 20 = .ok (.ifCond .le 5, 3) := by decide +kernel
theorem dX8_cable_23 : decode cX8_cable 23 = .ok (.iconst 0, 1) := by decide +kernel
theorem dX8_cable_24 : decode cX8_cable 24 = .ok (.ireturn, 1) := by decide +kernel
theorem dX8_cable_25 : decode cX8_cable 25 = .ok (.iload_n 2, 1) := by decide +kernel
theorem dX8_cable_26 : decode cX8_cable 26 = .ok (.tableswitch 153 0 8 #[50, 50, 74, 94, 118, 132, 132, 142, 142], 50) := by decide +kernel
theorem dX8_cable_76 : decode cX8_cable 76 = .ok (.aload_n 0, 1) := by decide +kernel
theorem dX8_cable_77 : decode cX8_cable 77 = .ok (.getfield 80, 3) := by decide +kernel
theorem dX8_cable_80 : decode cX8_cable 80 = .ok (.iload_n 1, 1) := by decide +kernel
theorem dX8_cable_81 : decode cX8_cable 81 = .ok (.baload, 1) := by decide +kernel
theorem dX8_cable_82 : decode cX8_cable 82 = .ok (.ifCond .eq 16, 3) := by decide +kernel
theorem dX8_cable_85 : decode cX8_cable 85 = .ok (.aload_n 0, 1) := by decide +kernel
theorem dX8_cable_86 : decode cX8_cable 86 = .ok (.getfield 74, 3) := by decide +kernel
theorem dX8_cable_89 : decode cX8_cable 89 = .ok (.iconst 2, 1) := by decide +kernel
theorem dX8_cable_90 : decode cX8_cable 90 = .ok (.iload_n 1, 1) := by decide +kernel
theorem dX8_cable_91 : decode cX8_cable 91 = .ok (.imul, 1) := by decide +kernel
theorem dX8_cable_92 : decode cX8_cable 92 = .ok (.iload_n 2, 1) := by decide +kernel
theorem dX8_cable_93 : decode cX8_cable 93 = .ok (.iadd, 1) := by decide +kernel
theorem dX8_cable_94 : decode cX8_cable 94 = .ok (.iaload, 1) := by decide +kernel
theorem dX8_cable_95 : decode cX8_cable 95 = .ok (.goto 4, 3) := by decide +kernel
theorem dX8_cable_98 : decode cX8_cable 98 = .ok (.iconst (-1), 1) := by decide +kernel
theorem dX8_cable_99 : decode cX8_cable 99 = .ok (.ireturn, 1) := by decide +kernel
theorem dX8_cable_100 : decode cX8_cable 100 = .ok (.aload_n 0, 1) := by decide +kernel
theorem dX8_cable_101 : decode cX8_cable 101 = .ok (.getfield 80, 3) := by decide +kernel
theorem dX8_cable_104 : decode cX8_cable 104 = .ok (.iload_n 1, 1) := by decide +kernel
theorem dX8_cable_105 : decode cX8_cable 105 = .ok (.baload, 1) := by decide +kernel
theorem dX8_cable_106 : decode cX8_cable 106 = .ok (.ifCond .eq 12, 3) := by decide +kernel
theorem dX8_cable_109 : decode cX8_cable 109 = .ok (.aload_n 0, 1) := by decide +kernel
theorem dX8_cable_110 : decode cX8_cable 110 = .ok (.getfield 77, 3) := by decide +kernel
theorem dX8_cable_113 : decode cX8_cable 113 = .ok (.iload_n 1, 1) := by decide +kernel
theorem dX8_cable_114 : decode cX8_cable 114 = .ok (.iaload, 1) := by decide +kernel
theorem dX8_cable_115 : decode cX8_cable 115 = .ok (.goto 4, 3) := by decide +kernel
theorem dX8_cable_118 : decode cX8_cable 118 = .ok (.iconst (-1), 1) := by decide +kernel
theorem dX8_cable_119 : decode cX8_cable 119 = .ok (.ireturn, 1) := by decide +kernel
theorem dX8_cable_120 : decode cX8_cable 120 = .ok (.aload_n 0, 1) := by decide +kernel
theorem dX8_cable_121 : decode cX8_cable 121 = .ok (.getfield 80, 3) := by decide +kernel
theorem dX8_cable_124 : decode cX8_cable 124 = .ok (.iload_n 1, 1) := by decide +kernel
theorem dX8_cable_125 : decode cX8_cable 125 = .ok (.baload, 1) := by decide +kernel
theorem dX8_cable_126 : decode cX8_cable 126 = .ok (.ifCond .eq 16, 3) := by decide +kernel
theorem dX8_cable_129 : decode cX8_cable 129 = .ok (.aload_n 0, 1) := by decide +kernel
theorem dX8_cable_130 : decode cX8_cable 130 = .ok (.getfield 83, 3) := by decide +kernel
theorem dX8_cable_133 : decode cX8_cable 133 = .ok (.iload_n 1, 1) := by decide +kernel
theorem dX8_cable_134 : decode cX8_cable 134 = .ok (.baload, 1) := by decide +kernel
theorem dX8_cable_135 : decode cX8_cable 135 = .ok (.ifCond .eq 7, 3) := by decide +kernel
theorem dX8_cable_138 : decode cX8_cable 138 = .ok (.iconst 1, 1) := by decide +kernel
theorem dX8_cable_139 : decode cX8_cable 139 = .ok (.goto 4, 3) := by decide +kernel
theorem dX8_cable_142 : decode cX8_cable 142 = .ok (.iconst 0, 1) := by decide +kernel
theorem dX8_cable_143 : decode cX8_cable 143 = .ok (.ireturn, 1) := by decide +kernel
theorem dX8_cable_144 : decode cX8_cable 144 = .ok (.aload_n 0, 1) := by decide +kernel
theorem dX8_cable_145 : decode cX8_cable 145 = .ok (.iload_n 1, 1) := by decide +kernel
theorem dX8_cable_146 : decode cX8_cable 146 = .ok (.invokevirtual 291, 3) := by decide +kernel
theorem dX8_cable_149 : decode cX8_cable 149 = .ok (.ifCond .eq 7, 3) := by decide +kernel
theorem dX8_cable_152 : decode cX8_cable 152 = .ok (.iconst 1, 1) := by decide +kernel
theorem dX8_cable_153 : decode cX8_cable 153 = .ok (.goto 4, 3) := by decide +kernel
theorem dX8_cable_156 : decode cX8_cable 156 = .ok (.iconst 0, 1) := by decide +kernel
theorem dX8_cable_157 : decode cX8_cable 157 = .ok (.ireturn, 1) := by decide +kernel
theorem dX8_cable_158 : decode cX8_cable 158 = .ok (.aload_n 0, 1) := by decide +kernel
theorem dX8_cable_159 : decode cX8_cable 159 = .ok (.iload_n 1, 1) := by decide +kernel
theorem dX8_cable_160 : decode cX8_cable 160 = .ok (.iload_n 2, 1) := by decide +kernel
theorem dX8_cable_161 : decode cX8_cable 161 = .ok (.iconst 5, 1) := by decide +kernel
theorem dX8_cable_162 : decode cX8_cable 162 = .ok (.isub, 1) := by decide +kernel
theorem dX8_cable_163 : decode cX8_cable 163 = .ok (.iconst 0, 1) := by decide +kernel
theorem dX8_cable_164 : decode cX8_cable 164 = .ok (.invokevirtual 294, 3) := by decide +kernel
theorem dX8_cable_167 : decode cX8_cable 167 = .ok (.ireturn, 1) := by decide +kernel
theorem dX8_cable_168 : decode cX8_cable 168 = .ok (.aload_n 0, 1) := by decide +kernel
theorem dX8_cable_169 : decode cX8_cable 169 = .ok (.iload_n 1, 1) := by decide +kernel
theorem dX8_cable_170 : decode cX8_cable 170 = .ok (.iload_n 2, 1) := by decide +kernel
theorem dX8_cable_171 : decode cX8_cable 171 = .ok (.bipush 7, 2) := by decide +kernel
theorem dX8_cable_173 : decode cX8_cable 173 = .ok (.isub, 1) := by decide +kernel
theorem dX8_cable_174 : decode cX8_cable 174 = .ok (.iconst 1, 1) := by decide +kernel
theorem dX8_cable_175 : decode cX8_cable 175 = .ok (.invokevirtual 294, 3) := by decide +kernel
theorem dX8_cable_178 : decode cX8_cable 178 = .ok (.ireturn, 1) := by decide +kernel
theorem dX8_cable_179 : decode cX8_cable 179 = .ok (.iconst (-1), 1) := by decide +kernel
theorem dX8_cable_180 : decode cX8_cable 180 = .ok (.ireturn, 1) := by decide +kernel
noncomputable def bX8_cable_0 (Q : Option Value → MM → Prop) (nx : Nat → Kt) : Kt := ldA 0 (ldI 1 (cS 1 wX8_isCable 0 0 0 0 (ifz (fun x => x = 0) (nx 12) (cI 0 (nx 13)))))
noncomputable def bX8_cable_12 (Q : Option Value → MM → Prop) (nx : Nat → Kt) : Kt := cI 1 (nx 13)
noncomputable def bX8_cable_13 (Q : Option Value → MM → Prop) (nx : Nat → Kt) : Kt := tI 8 0 (ldA 0 (gI 8 0 (ifz (fun x => x ≤ 0) (nx 25) (cI 0 (rI Q)))))
noncomputable def bX8_cable_25 (Q : Option Value → MM → Prop) (nx : Nat → Kt) : Kt := ldI 2 (swt 0 8 (fun j => nx (([76, 76, 100, 120, 144, 158, 158, 168, 168] : List Nat).getD j 0)) (nx 179))
noncomputable def bX8_cable_76 (Q : Option Value → MM → Prop) (nx : Nat → Kt) : Kt := ldA 0 (gR 8 24 (ldI 1 (aI 11 (ifz (fun x => x = 0) (nx 98) (ldA 0 (gR 8 22 (cI 2 (ldI 1 (bop (fun x y => x * y) (ldI 2 (bop (fun x y => x + y) (aI 10 (nx 99)))))))))))))
noncomputable def bX8_cable_98 (Q : Option Value → MM → Prop) (nx : Nat → Kt) : Kt := cI (-1) (nx 99)
noncomputable def bX8_cable_99 (Q : Option Value → MM → Prop) (nx : Nat → Kt) : Kt := rI Q
noncomputable def bX8_cable_100 (Q : Option Value → MM → Prop) (nx : Nat → Kt) : Kt := ldA 0 (gR 8 24 (ldI 1 (aI 11 (ifz (fun x => x = 0) (nx 118) (ldA 0 (gR 8 23 (ldI 1 (aI 10 (nx 119)))))))))
noncomputable def bX8_cable_118 (Q : Option Value → MM → Prop) (nx : Nat → Kt) : Kt := cI (-1) (nx 119)
noncomputable def bX8_cable_119 (Q : Option Value → MM → Prop) (nx : Nat → Kt) : Kt := rI Q
noncomputable def bX8_cable_120 (Q : Option Value → MM → Prop) (nx : Nat → Kt) : Kt := ldA 0 (gR 8 24 (ldI 1 (aI 11 (ifz (fun x => x = 0) (nx 142) (ldA 0 (gR 8 25 (ldI 1 (aI 11 (ifz (fun x => x = 0) (nx 142) (cI 1 (nx 143)))))))))))
noncomputable def bX8_cable_142 (Q : Option Value → MM → Prop) (nx : Nat → Kt) : Kt := cI 0 (nx 143)
noncomputable def bX8_cable_143 (Q : Option Value → MM → Prop) (nx : Nat → Kt) : Kt := rI Q
noncomputable def bX8_cable_144 (Q : Option Value → MM → Prop) (nx : Nat → Kt) : Kt := ldA 0 (ldI 1 (cV 1 8 wX8_isMeant 0 0 0 0 (ifz (fun x => x = 0) (nx 156) (cI 1 (nx 157)))))
noncomputable def bX8_cable_156 (Q : Option Value → MM → Prop) (nx : Nat → Kt) : Kt := cI 0 (nx 157)
noncomputable def bX8_cable_157 (Q : Option Value → MM → Prop) (nx : Nat → Kt) : Kt := rI Q
noncomputable def bX8_cable_158 (Q : Option Value → MM → Prop) (nx : Nat → Kt) : Kt := ldA 0 (ldI 1 (ldI 2 (cI 5 (bop (fun x y => x - y) (cI 0 (cV 3 8 wX8_on 0 0 0 0 (rI Q)))))))
noncomputable def bX8_cable_168 (Q : Option Value → MM → Prop) (nx : Nat → Kt) : Kt := ldA 0 (ldI 1 (ldI 2 (cI 7 (bop (fun x y => x - y) (cI 1 (cV 3 8 wX8_on 0 0 0 0 (rI Q)))))))
noncomputable def bX8_cable_179 (Q : Option Value → MM → Prop) (nx : Nat → Kt) : Kt := cI (-1) (rI Q)
noncomputable def kX8_cable (Q : Option Value → MM → Prop) (nx : Nat → Kt) : Nat → Kt := bse [(0, bX8_cable_0 Q nx), (12, bX8_cable_12 Q nx), (13, bX8_cable_13 Q nx), (25, bX8_cable_25 Q nx), (76, bX8_cable_76 Q nx), (98, bX8_cable_98 Q nx), (99, bX8_cable_99 Q nx), (100, bX8_cable_100 Q nx), (118, bX8_cable_118 Q nx), (119, bX8_cable_119 Q nx), (120, bX8_cable_120 Q nx), (142, bX8_cable_142 Q nx), (143, bX8_cable_143 Q nx), (144, bX8_cable_144 Q nx), (156, bX8_cable_156 Q nx), (157, bX8_cable_157 Q nx), (158, bX8_cable_158 Q nx), (168, bX8_cable_168 Q nx), (179, bX8_cable_179 Q nx)]
abbrev rX8_cable : Room := { frames := 3, cells := 0, slots := 0, locals := 68 }
noncomputable def wX8_cable : Mw := mw 3 kX8_cable
set_option maxRecDepth 20000 in
theorem oX8_cable_0 {T : Ct} {Q : Option Value → MM → Prop} (C : Cx T cX8_cable 3 RX8 0 0) (CR : CxR T 3 68) (hr : T.2.2.2.2.2.2.2.2.1.sig.returnType = (some .int)) (hnm : T.2.2.2.2.2.2.2.2.1.name = "cable") {nx : Nat → Kt} (hn : ∀ pc, Sd T 3 (QT T Q 0 0) 0 0 pc (nx pc)) : Sd T 3 (QT T Q 0 0) 0 0 0 (bX8_cable_0 Q nx) := x_al_n C dX8_cable_0 rfl (x_il_n C dX8_cable_1 rfl (x_cS C CR mX8_isCable ⟨co_X8_isCable, init_X8, md_X8_isCable, by decide, by decide⟩ ml_X8_191 sm_X8_isCable dX8_cable_2 (x_if_eq C (hn 12) dX8_cable_5 (by decide) (x_ic C dX8_cable_8 (by decide) (x_goto C (hn 13) dX8_cable_9 (by decide))))))
set_option maxRecDepth 20000 in
theorem oX8_cable_12 {T : Ct} {Q : Option Value → MM → Prop} (C : Cx T cX8_cable 3 RX8 0 0) (CR : CxR T 3 68) (hr : T.2.2.2.2.2.2.2.2.1.sig.returnType = (some .int)) (hnm : T.2.2.2.2.2.2.2.2.1.name = "cable") {nx : Nat → Kt} (hn : ∀ pc, Sd T 3 (QT T Q 0 0) 0 0 pc (nx pc)) : Sd T 3 (QT T Q 0 0) 0 0 12 (bX8_cable_12 Q nx) := x_ic C dX8_cable_12 (by decide) (hn 13)
set_option maxRecDepth 20000 in
theorem oX8_cable_13 {T : Ct} {Q : Option Value → MM → Prop} (C : Cx T cX8_cable 3 RX8 0 0) (CR : CxR T 3 68) (hr : T.2.2.2.2.2.2.2.2.1.sig.returnType = (some .int)) (hnm : T.2.2.2.2.2.2.2.2.1.name = "cable") {nx : Nat → Kt} (hn : ∀ pc, Sd T 3 (QT T Q 0 0) 0 0 pc (nx pc)) : Sd T 3 (QT T Q 0 0) 0 0 13 (bX8_cable_13 Q nx) := pf_X8_132 C dX8_cable_13 (x_al_n C dX8_cable_16 rfl (gf_X8_132 C dX8_cable_17 (x_if_le C (hn 25) dX8_cable_20 (by decide) (x_ic C dX8_cable_23 (by decide) (x_rI C hr dX8_cable_24)))))
set_option maxRecDepth 20000 in
theorem oX8_cable_25 {T : Ct} {Q : Option Value → MM → Prop} (C : Cx T cX8_cable 3 RX8 0 0) (CR : CxR T 3 68) (hr : T.2.2.2.2.2.2.2.2.1.sig.returnType = (some .int)) (hnm : T.2.2.2.2.2.2.2.2.1.name = "cable") {nx : Nat → Kt} (hn : ∀ pc, Sd T 3 (QT T Q 0 0) 0 0 pc (nx pc)) : Sd T 3 (QT T Q 0 0) 0 0 25 (bX8_cable_25 Q nx) := x_il_n C dX8_cable_25 rfl (x_sw C (tl := [76, 76, 100, 120, 144, 158, 158, 168, 168]) hn dX8_cable_26 (by decide) (by decide) (by decide))
set_option maxRecDepth 20000 in
theorem oX8_cable_76 {T : Ct} {Q : Option Value → MM → Prop} (C : Cx T cX8_cable 3 RX8 0 0) (CR : CxR T 3 68) (hr : T.2.2.2.2.2.2.2.2.1.sig.returnType = (some .int)) (hnm : T.2.2.2.2.2.2.2.2.1.name = "cable") {nx : Nat → Kt} (hn : ∀ pc, Sd T 3 (QT T Q 0 0) 0 0 pc (nx pc)) : Sd T 3 (QT T Q 0 0) 0 0 76 (bX8_cable_76 Q nx) := x_al_n C dX8_cable_76 rfl (gf_X8_80 C dX8_cable_77 (x_il_n C dX8_cable_80 rfl (x_zald C dX8_cable_81 (x_if_eq C (hn 98) dX8_cable_82 (by decide) (x_al_n C dX8_cable_85 rfl (gf_X8_74 C dX8_cable_86 (x_ic C dX8_cable_89 (by decide) (x_il_n C dX8_cable_90 rfl (x_imul C dX8_cable_91 (x_il_n C dX8_cable_92 rfl (x_iadd C dX8_cable_93 (x_iald C dX8_cable_94 (x_goto C (hn 99) dX8_cable_95 (by decide))))))))))))))
set_option maxRecDepth 20000 in
theorem oX8_cable_98 {T : Ct} {Q : Option Value → MM → Prop} (C : Cx T cX8_cable 3 RX8 0 0) (CR : CxR T 3 68) (hr : T.2.2.2.2.2.2.2.2.1.sig.returnType = (some .int)) (hnm : T.2.2.2.2.2.2.2.2.1.name = "cable") {nx : Nat → Kt} (hn : ∀ pc, Sd T 3 (QT T Q 0 0) 0 0 pc (nx pc)) : Sd T 3 (QT T Q 0 0) 0 0 98 (bX8_cable_98 Q nx) := x_ic C dX8_cable_98 (by decide) (hn 99)
set_option maxRecDepth 20000 in
theorem oX8_cable_99 {T : Ct} {Q : Option Value → MM → Prop} (C : Cx T cX8_cable 3 RX8 0 0) (CR : CxR T 3 68) (hr : T.2.2.2.2.2.2.2.2.1.sig.returnType = (some .int)) (hnm : T.2.2.2.2.2.2.2.2.1.name = "cable") {nx : Nat → Kt} (hn : ∀ pc, Sd T 3 (QT T Q 0 0) 0 0 pc (nx pc)) : Sd T 3 (QT T Q 0 0) 0 0 99 (bX8_cable_99 Q nx) := x_rI C hr dX8_cable_99
set_option maxRecDepth 20000 in
theorem oX8_cable_100 {T : Ct} {Q : Option Value → MM → Prop} (C : Cx T cX8_cable 3 RX8 0 0) (CR : CxR T 3 68) (hr : T.2.2.2.2.2.2.2.2.1.sig.returnType = (some .int)) (hnm : T.2.2.2.2.2.2.2.2.1.name = "cable") {nx : Nat → Kt} (hn : ∀ pc, Sd T 3 (QT T Q 0 0) 0 0 pc (nx pc)) : Sd T 3 (QT T Q 0 0) 0 0 100 (bX8_cable_100 Q nx) := x_al_n C dX8_cable_100 rfl (gf_X8_80 C dX8_cable_101 (x_il_n C dX8_cable_104 rfl (x_zald C dX8_cable_105 (x_if_eq C (hn 118) dX8_cable_106 (by decide) (x_al_n C dX8_cable_109 rfl (gf_X8_77 C dX8_cable_110 (x_il_n C dX8_cable_113 rfl (x_iald C dX8_cable_114 (x_goto C (hn 119) dX8_cable_115 (by decide))))))))))
set_option maxRecDepth 20000 in
theorem oX8_cable_118 {T : Ct} {Q : Option Value → MM → Prop} (C : Cx T cX8_cable 3 RX8 0 0) (CR : CxR T 3 68) (hr : T.2.2.2.2.2.2.2.2.1.sig.returnType = (some .int)) (hnm : T.2.2.2.2.2.2.2.2.1.name = "cable") {nx : Nat → Kt} (hn : ∀ pc, Sd T 3 (QT T Q 0 0) 0 0 pc (nx pc)) : Sd T 3 (QT T Q 0 0) 0 0 118 (bX8_cable_118 Q nx) := x_ic C dX8_cable_118 (by decide) (hn 119)
set_option maxRecDepth 20000 in
theorem oX8_cable_119 {T : Ct} {Q : Option Value → MM → Prop} (C : Cx T cX8_cable 3 RX8 0 0) (CR : CxR T 3 68) (hr : T.2.2.2.2.2.2.2.2.1.sig.returnType = (some .int)) (hnm : T.2.2.2.2.2.2.2.2.1.name = "cable") {nx : Nat → Kt} (hn : ∀ pc, Sd T 3 (QT T Q 0 0) 0 0 pc (nx pc)) : Sd T 3 (QT T Q 0 0) 0 0 119 (bX8_cable_119 Q nx) := x_rI C hr dX8_cable_119
set_option maxRecDepth 20000 in
theorem oX8_cable_120 {T : Ct} {Q : Option Value → MM → Prop} (C : Cx T cX8_cable 3 RX8 0 0) (CR : CxR T 3 68) (hr : T.2.2.2.2.2.2.2.2.1.sig.returnType = (some .int)) (hnm : T.2.2.2.2.2.2.2.2.1.name = "cable") {nx : Nat → Kt} (hn : ∀ pc, Sd T 3 (QT T Q 0 0) 0 0 pc (nx pc)) : Sd T 3 (QT T Q 0 0) 0 0 120 (bX8_cable_120 Q nx) := x_al_n C dX8_cable_120 rfl (gf_X8_80 C dX8_cable_121 (x_il_n C dX8_cable_124 rfl (x_zald C dX8_cable_125 (x_if_eq C (hn 142) dX8_cable_126 (by decide) (x_al_n C dX8_cable_129 rfl (gf_X8_83 C dX8_cable_130 (x_il_n C dX8_cable_133 rfl (x_zald C dX8_cable_134 (x_if_eq C (hn 142) dX8_cable_135 (by decide) (x_ic C dX8_cable_138 (by decide) (x_goto C (hn 143) dX8_cable_139 (by decide))))))))))))
set_option maxRecDepth 20000 in
theorem oX8_cable_142 {T : Ct} {Q : Option Value → MM → Prop} (C : Cx T cX8_cable 3 RX8 0 0) (CR : CxR T 3 68) (hr : T.2.2.2.2.2.2.2.2.1.sig.returnType = (some .int)) (hnm : T.2.2.2.2.2.2.2.2.1.name = "cable") {nx : Nat → Kt} (hn : ∀ pc, Sd T 3 (QT T Q 0 0) 0 0 pc (nx pc)) : Sd T 3 (QT T Q 0 0) 0 0 142 (bX8_cable_142 Q nx) := x_ic C dX8_cable_142 (by decide) (hn 143)
set_option maxRecDepth 20000 in
theorem oX8_cable_143 {T : Ct} {Q : Option Value → MM → Prop} (C : Cx T cX8_cable 3 RX8 0 0) (CR : CxR T 3 68) (hr : T.2.2.2.2.2.2.2.2.1.sig.returnType = (some .int)) (hnm : T.2.2.2.2.2.2.2.2.1.name = "cable") {nx : Nat → Kt} (hn : ∀ pc, Sd T 3 (QT T Q 0 0) 0 0 pc (nx pc)) : Sd T 3 (QT T Q 0 0) 0 0 143 (bX8_cable_143 Q nx) := x_rI C hr dX8_cable_143
set_option maxRecDepth 20000 in
theorem oX8_cable_144 {T : Ct} {Q : Option Value → MM → Prop} (C : Cx T cX8_cable 3 RX8 0 0) (CR : CxR T 3 68) (hr : T.2.2.2.2.2.2.2.2.1.sig.returnType = (some .int)) (hnm : T.2.2.2.2.2.2.2.2.1.name = "cable") {nx : Nat → Kt} (hn : ∀ pc, Sd T 3 (QT T Q 0 0) 0 0 pc (nx pc)) : Sd T 3 (QT T Q 0 0) 0 0 144 (bX8_cable_144 Q nx) := x_al_n C dX8_cable_144 rfl (x_il_n C dX8_cable_145 rfl (x_cV C CR mX8_isMeant ⟨co_X8_isMeant, init_X8, md_X8_isMeant, by decide, by decide⟩ (ci := 8) (TX := TX8) (N := 51) rfl (by decide) ml_X8_291 im_X8_isMeant se_X8_isMeant dX8_cable_146 (x_if_eq C (hn 156) dX8_cable_149 (by decide) (x_ic C dX8_cable_152 (by decide) (x_goto C (hn 157) dX8_cable_153 (by decide))))))
set_option maxRecDepth 20000 in
theorem oX8_cable_156 {T : Ct} {Q : Option Value → MM → Prop} (C : Cx T cX8_cable 3 RX8 0 0) (CR : CxR T 3 68) (hr : T.2.2.2.2.2.2.2.2.1.sig.returnType = (some .int)) (hnm : T.2.2.2.2.2.2.2.2.1.name = "cable") {nx : Nat → Kt} (hn : ∀ pc, Sd T 3 (QT T Q 0 0) 0 0 pc (nx pc)) : Sd T 3 (QT T Q 0 0) 0 0 156 (bX8_cable_156 Q nx) := x_ic C dX8_cable_156 (by decide) (hn 157)
set_option maxRecDepth 20000 in
theorem oX8_cable_157 {T : Ct} {Q : Option Value → MM → Prop} (C : Cx T cX8_cable 3 RX8 0 0) (CR : CxR T 3 68) (hr : T.2.2.2.2.2.2.2.2.1.sig.returnType = (some .int)) (hnm : T.2.2.2.2.2.2.2.2.1.name = "cable") {nx : Nat → Kt} (hn : ∀ pc, Sd T 3 (QT T Q 0 0) 0 0 pc (nx pc)) : Sd T 3 (QT T Q 0 0) 0 0 157 (bX8_cable_157 Q nx) := x_rI C hr dX8_cable_157
set_option maxRecDepth 20000 in
theorem oX8_cable_158 {T : Ct} {Q : Option Value → MM → Prop} (C : Cx T cX8_cable 3 RX8 0 0) (CR : CxR T 3 68) (hr : T.2.2.2.2.2.2.2.2.1.sig.returnType = (some .int)) (hnm : T.2.2.2.2.2.2.2.2.1.name = "cable") {nx : Nat → Kt} (hn : ∀ pc, Sd T 3 (QT T Q 0 0) 0 0 pc (nx pc)) : Sd T 3 (QT T Q 0 0) 0 0 158 (bX8_cable_158 Q nx) := x_al_n C dX8_cable_158 rfl (x_il_n C dX8_cable_159 rfl (x_il_n C dX8_cable_160 rfl (x_ic C dX8_cable_161 (by decide) (x_isub C dX8_cable_162 (x_ic C dX8_cable_163 (by decide) (x_cV C CR mX8_on ⟨co_X8_on, init_X8, md_X8_on, by decide, by decide⟩ (ci := 8) (TX := TX8) (N := 51) rfl (by decide) ml_X8_294 im_X8_on se_X8_on dX8_cable_164 (x_rI C hr dX8_cable_167)))))))
set_option maxRecDepth 20000 in
theorem oX8_cable_168 {T : Ct} {Q : Option Value → MM → Prop} (C : Cx T cX8_cable 3 RX8 0 0) (CR : CxR T 3 68) (hr : T.2.2.2.2.2.2.2.2.1.sig.returnType = (some .int)) (hnm : T.2.2.2.2.2.2.2.2.1.name = "cable") {nx : Nat → Kt} (hn : ∀ pc, Sd T 3 (QT T Q 0 0) 0 0 pc (nx pc)) : Sd T 3 (QT T Q 0 0) 0 0 168 (bX8_cable_168 Q nx) := x_al_n C dX8_cable_168 rfl (x_il_n C dX8_cable_169 rfl (x_il_n C dX8_cable_170 rfl (x_bp C dX8_cable_171 (by decide) (x_isub C dX8_cable_173 (x_ic C dX8_cable_174 (by decide) (x_cV C CR mX8_on ⟨co_X8_on, init_X8, md_X8_on, by decide, by decide⟩ (ci := 8) (TX := TX8) (N := 51) rfl (by decide) ml_X8_294 im_X8_on se_X8_on dX8_cable_175 (x_rI C hr dX8_cable_178)))))))
set_option maxRecDepth 20000 in
theorem oX8_cable_179 {T : Ct} {Q : Option Value → MM → Prop} (C : Cx T cX8_cable 3 RX8 0 0) (CR : CxR T 3 68) (hr : T.2.2.2.2.2.2.2.2.1.sig.returnType = (some .int)) (hnm : T.2.2.2.2.2.2.2.2.1.name = "cable") {nx : Nat → Kt} (hn : ∀ pc, Sd T 3 (QT T Q 0 0) 0 0 pc (nx pc)) : Sd T 3 (QT T Q 0 0) 0 0 179 (bX8_cable_179 Q nx) := x_ic C dX8_cable_179 (by decide) (x_rI C hr dX8_cable_180)
set_option maxRecDepth 20000 in
theorem mX8_cable (l : Launch) (D : va_G) (cA : Nat → ClassId) (base : Nat) : Mc l D cA base yX8_cable cX8_cable 3 (some .int) rX8_cable wX8_cable := mc_of (by decide +kernel) kX8_cable (fun T Q C CR hr hnm nx hn => bse_ok _ (List.forall_mem_cons.mpr ⟨oX8_cable_0 C CR hr hnm hn, List.forall_mem_cons.mpr ⟨oX8_cable_12 C CR hr hnm hn, List.forall_mem_cons.mpr ⟨oX8_cable_13 C CR hr hnm hn, List.forall_mem_cons.mpr ⟨oX8_cable_25 C CR hr hnm hn, List.forall_mem_cons.mpr ⟨oX8_cable_76 C CR hr hnm hn, List.forall_mem_cons.mpr ⟨oX8_cable_98 C CR hr hnm hn, List.forall_mem_cons.mpr ⟨oX8_cable_99 C CR hr hnm hn, List.forall_mem_cons.mpr ⟨oX8_cable_100 C CR hr hnm hn, List.forall_mem_cons.mpr ⟨oX8_cable_118 C CR hr hnm hn, List.forall_mem_cons.mpr ⟨oX8_cable_119 C CR hr hnm hn, List.forall_mem_cons.mpr ⟨oX8_cable_120 C CR hr hnm hn, List.forall_mem_cons.mpr ⟨oX8_cable_142 C CR hr hnm hn, List.forall_mem_cons.mpr ⟨oX8_cable_143 C CR hr hnm hn, List.forall_mem_cons.mpr ⟨oX8_cable_144 C CR hr hnm hn, List.forall_mem_cons.mpr ⟨oX8_cable_156 C CR hr hnm hn, List.forall_mem_cons.mpr ⟨oX8_cable_157 C CR hr hnm hn, List.forall_mem_cons.mpr ⟨oX8_cable_158 C CR hr hnm hn, List.forall_mem_cons.mpr ⟨oX8_cable_168 C CR hr hnm hn, List.forall_mem_cons.mpr ⟨oX8_cable_179 C CR hr hnm hn, fun _ h => nomatch h⟩⟩⟩⟩⟩⟩⟩⟩⟩⟩⟩⟩⟩⟩⟩⟩⟩⟩⟩))
theorem dX8_note_0 : decode cX8_note 0 = .ok (.aload_n 0, 1) := by decide +kernel
theorem dX8_note_1 : decode cX8_note 1 = .ok (.iconst 0, 1) := by decide +kernel
theorem dX8_note_2 : decode cX8_note 2 = .ok (.putfield 132, 3) := by decide +kernel
theorem dX8_note_5 : decode cX8_note 5 = .ok (.iload_n 1, 1) := by decide +kernel
theorem dX8_note_6 : decode cX8_note 6 = .ok (.invokestatic 154, 3) := by decide +kernel
theorem dX8_note_9 : decode cX8_note 9 = .ok (.ifCond .eq 20, 3) := by decide +kernel
theorem dX8_note_12 : decode cX8_note 12 = .ok (.iload_n 2, 1) := by decide +kernel
theorem dX8_note_13 : decode cX8_note 13 = .ok (.invokestatic 162, 3) := by decide +kernel
theorem dX8_note_16 : decode cX8_note 16 = .ok (.ifCond .eq 13, 3) := by decide +kernel
theorem dX8_note_19 : decode cX8_note 19 = .ok (.iload_n 3, 1) := by decide +kernel
theorem dX8_note_20 : decode cX8_note 20 = .ok (.ifCond .lt 9, 3) := by decide +kernel
theorem dX8_note_23 : decode cX8_note 23 = .ok (.iload_n 3, 1) := by decide +kernel
theorem dX8_note_24 : decode cX8_note 24 = .ok (.bipush 21, 2) := by decide +kernel
theorem dX8_note_26 : decode cX8_note 26 = .ok (.if_icmp .le 5, 3) := by decide +kernel
theorem dX8_note_29 : decode cX8_note 29 = .ok (.iconst (-1), 1) := by decide +kernel
theorem dX8_note_30 : decode cX8_note 30 = .ok (.ireturn, 1) := by decide +kernel
theorem dX8_note_31 : decode cX8_note 31 = .ok (.bipush 8, 2) := by decide +kernel
theorem dX8_note_33 : decode cX8_note 33 = .ok (.iload_n 1, 1) := by decide +kernel
theorem dX8_note_34 : decode cX8_note 34 = .ok (.imul, 1) := by decide +kernel
theorem dX8_note_35 : decode cX8_note 35 = .ok (.iload_n 2, 1) := by decide +kernel
theorem dX8_note_36 : decode cX8_note 36 = .ok (.iadd, 1) := by decide +kernel
theorem dX8_note_37 : decode cX8_note 37 = .ok (.istore 4, 2) := by decide +kernel
theorem dX8_note_39 : decode cX8_note 39 = .ok (.iload_n 3, 1) := by decide +kernel
theorem dX8_note_40 : decode cX8_note 40 = .ok (.bipush 11, 2) := by decide +kernel
theorem dX8_note_42 : decode cX8_note 42 = .ok (.irem, 1) := by decide +kernel
theorem dX8_note_43 : decode cX8_note 43 = .ok (.istore 5, 2) := by decide +kernel
theorem dX8_note_45 : decode cX8_note 45 = .ok (.iload 5, 2) := by decide +kernel
theorem dX8_note_47 : decode cX8_note 47 = .ok (.iconst 4, 1) := by decide +kernel
theorem dX8_note_48 : decode cX8_note 48 = .ok (.if_icmp .ge 7, 3) := by decide +kernel
theorem dX8_note_51 : decode cX8_note 51 = .ok (.iconst 0, 1) := by decide +kernel
theorem dX8_note_52 : decode cX8_note 52 = .ok (.goto 20, 3) := by decide +kernel
theorem dX8_note_55 : decode cX8_note 55 = .ok (.iload 5, 2) := by decide +kernel
theorem dX8_note_57 : decode cX8_note 57 = .ok (.bipush 10, 2) := by decide +kernel
theorem dX8_note_59 : decode cX8_note 59 = .ok (.if_icmp .ge 12, 3) := by decide +kernel
theorem dX8_note_62 : decode cX8_note 62 = .ok (.iload 5, 2) := by decide +kernel
theorem dX8_note_64 : decode cX8_note 64 = .ok (.iconst 2, 1) := by decide +kernel
theorem dX8_note_65 : decode cX8_note 65 = .ok (.idiv, 1) := by decide +kernel
theorem dX8_note_66 : decode cX8_note 66 = .ok (.iconst 1, 1) := by decide +kernel
theorem dX8_note_67 : decode cX8_note 67 = .ok (.isub, 1) := by decide +kernel
theorem dX8_note_68 : decode cX8_note 68 = .ok (.goto 4, 3) := by decide +kernel
theorem dX8_note_71 : decode cX8_note 71 = .ok (.iconst 4, 1) := by decide +kernel
theorem dX8_note_72 : decode cX8_note 72 = .ok (.istore 6, 2) := by decide +kernel
theorem dX8_note_74 : decode cX8_note 74 = .ok (.iload_n 3, 1) := by decide +kernel
theorem dX8_note_75 : decode cX8_note 75 = .ok (.bipush 11, 2) := by decide +kernel
theorem dX8_note_77 : decode cX8_note 77 = .ok (.if_icmp .ge 14, 3) := by decide +kernel
theorem dX8_note_80 : decode cX8_note 80 = .ok (.aload_n 0, 1) := by decide +kernel
theorem dX8_note_81 : decode cX8_note 81 = .ok (.iload 4, 2) := by decide +kernel
theorem dX8_note_83 : decode cX8_note 83 = .ok (.iload 6, 2) := by decide +kernel
theorem dX8_note_85 : decode cX8_note 85 = .ok (.invokevirtual 216, 3) := by decide +kernel
theorem dX8_note_88 : decode cX8_note 88 = .ok (.goto 15, 3) := by decide +kernel
theorem dX8_note_91 : decode cX8_note 91 = .ok (.aload_n 0, 1) := by decide +kernel
theorem dX8_note_92 : decode cX8_note 92 = .ok (.getfield 62, 3) := by decide +kernel
theorem dX8_note_95 : decode cX8_note 95 = .ok (.iconst 5, 1) := by decide +kernel
theorem dX8_note_96 : decode cX8_note 96 = .ok (.iload 4, 2) := by decide +kernel
theorem dX8_note_98 : decode cX8_note 98 = .ok (.imul, 1) := by decide +kernel
theorem dX8_note_99 : decode cX8_note 99 = .ok (.iload 6, 2) := by decide +kernel
theorem dX8_note_101 : decode cX8_note 101 = .ok (.iadd, 1) := by decide +kernel
theorem dX8_note_102 : decode cX8_note 102 = .ok (.iaload, 1) := by decide +kernel
theorem dX8_note_103 : decode cX8_note 103 = .ok (.istore 7, 2) := by decide +kernel
theorem dX8_note_105 : decode cX8_note 105 = .ok (.iload 5, 2) := by decide +kernel
theorem dX8_note_107 : decode cX8_note 107 = .ok (.iconst 4, 1) := by decide +kernel
theorem dX8_note_108 : decode cX8_note 108 = .ok (.if_icmp .ge 10, 3) := by decide +kernel
theorem dX8_note_111 : decode cX8_note 111 = .ok (.iconst 3, 1) := by decide +kernel
theorem dX8_note_112 : decode cX8_note 112 = .ok (.iload 5, 2) := by decide +kernel
theorem dX8_note_114 : decode cX8_note 114 = .ok (.isub, 1) := by decide +kernel
theorem dX8_note_115 : decode cX8_note 115 = .ok (.goto 20, 3) := by decide +kernel
theorem dX8_note_118 : decode cX8_note 118 = .ok (.iload 5, 2) := by decide +kernel
theorem dX8_note_120 : decode cX8_note 120 = .ok (.bipush 10, 2) := by decide +kernel
theorem dX8_note_122 : decode cX8_note 122 = .ok (.if_icmp .ge 12, 3) := by decide +kernel
theorem dX8_note_125 : decode cX8_note 125 = .ok (.iconst 1, 1) := by decide +kernel
theorem dX8_note_126 : decode cX8_note 126 = .ok (.iload 5, 2) := by decide +kernel
theorem dX8_note_128 : decode cX8_note 128 = .ok (.iconst 2, 1) := by decide +kernel
theorem dX8_note_129 : decode cX8_note 129 = .ok (.irem, 1) := by decide +kernel
theorem dX8_note_130 : decode cX8_note 130 = .ok (.isub, 1) := by decide +kernel
theorem dX8_note_131 : decode cX8_note 131 = .ok (.goto 4, 3) := by decide +kernel
theorem dX8_note_134 : decode cX8_note 134 = .ok (.iconst 0, 1) := by decide +kernel
theorem dX8_note_135 : decode cX8_note 135 = .ok (.istore 8, 2) := by decide +kernel
theorem dX8_note_137 : decode cX8_note 137 = .ok (.iload 7, 2) := by decide +kernel
theorem dX8_note_139 : decode cX8_note 139 = .ok (.bipush 8, 2) := by decide +kernel
theorem dX8_note_141 : decode cX8_note 141 = .ok (.iload 8, 2) := by decide +kernel
theorem dX8_note_143 : decode cX8_note 143 = .ok (.imul, 1) := by decide +kernel
theorem dX8_note_144 : decode cX8_note 144 = .ok (.ishr, 1) := by decide +kernel
theorem dX8_note_145 : decode cX8_note 145 = .ok (.sipush 255, 3) := by decide +kernel
theorem dX8_note_148 : decode cX8_note 148 = .ok (.iand, 1) := by decide +kernel
theorem dX8_note_149 : decode cX8_note 149 = .ok (.ireturn, 1) := by decide +kernel
noncomputable def bX8_note_0 (Q : Option Value → MM → Prop) (nx : Nat → Kt) : Kt := ldA 0 (cI 0 (tI 8 0 (ldI 1 (cS 1 wX8_isEnd 0 0 0 0 (ifz (fun x => x = 0) (nx 29) (ldI 2 (cS 1 wX8_isPort 0 0 0 0 (ifz (fun x => x = 0) (nx 29) (ldI 3 (ifz (fun x => x < 0) (nx 29) (ldI 3 (cI 21 (ifc (fun x y => x ≤ y) (nx 31) (nx 29))))))))))))))
noncomputable def bX8_note_29 (Q : Option Value → MM → Prop) (nx : Nat → Kt) : Kt := cI (-1) (rI Q)
noncomputable def bX8_note_31 (Q : Option Value → MM → Prop) (nx : Nat → Kt) : Kt := cI 8 (ldI 1 (bop (fun x y => x * y) (ldI 2 (bop (fun x y => x + y) (stI 4 (ldI 3 (cI 11 (bod (fun x y => x - x / y * y) (stI 5 (ldI 5 (cI 4 (ifc (fun x y => y ≤ x) (nx 55) (cI 0 (nx 72))))))))))))))
noncomputable def bX8_note_55 (Q : Option Value → MM → Prop) (nx : Nat → Kt) : Kt := ldI 5 (cI 10 (ifc (fun x y => y ≤ x) (nx 71) (ldI 5 (cI 2 (bod (fun x y => x / y) (cI 1 (bop (fun x y => x - y) (nx 72))))))))
noncomputable def bX8_note_71 (Q : Option Value → MM → Prop) (nx : Nat → Kt) : Kt := cI 4 (nx 72)
noncomputable def bX8_note_72 (Q : Option Value → MM → Prop) (nx : Nat → Kt) : Kt := stI 6 (ldI 3 (cI 11 (ifc (fun x y => y ≤ x) (nx 91) (ldA 0 (ldI 4 (ldI 6 (cV 2 8 wX8_own 0 0 0 0 (nx 103))))))))
noncomputable def bX8_note_91 (Q : Option Value → MM → Prop) (nx : Nat → Kt) : Kt := ldA 0 (gR 8 18 (cI 5 (ldI 4 (bop (fun x y => x * y) (ldI 6 (bop (fun x y => x + y) (aI 10 (nx 103))))))))
noncomputable def bX8_note_103 (Q : Option Value → MM → Prop) (nx : Nat → Kt) : Kt := stI 7 (ldI 5 (cI 4 (ifc (fun x y => y ≤ x) (nx 118) (cI 3 (ldI 5 (bop (fun x y => x - y) (nx 135)))))))
noncomputable def bX8_note_118 (Q : Option Value → MM → Prop) (nx : Nat → Kt) : Kt := ldI 5 (cI 10 (ifc (fun x y => y ≤ x) (nx 134) (cI 1 (ldI 5 (cI 2 (bod (fun x y => x - x / y * y) (bop (fun x y => x - y) (nx 135))))))))
noncomputable def bX8_note_134 (Q : Option Value → MM → Prop) (nx : Nat → Kt) : Kt := cI 0 (nx 135)
noncomputable def bX8_note_135 (Q : Option Value → MM → Prop) (nx : Nat → Kt) : Kt := stI 8 (ldI 7 (cI 8 (ldI 8 (bop (fun x y => x * y) (bop (fun x y => x >>> (y &&& 31)) (cI 255 (bop (fun x y => x &&& y) (rI Q))))))))
noncomputable def kX8_note (Q : Option Value → MM → Prop) (nx : Nat → Kt) : Nat → Kt := bse [(0, bX8_note_0 Q nx), (29, bX8_note_29 Q nx), (31, bX8_note_31 Q nx), (55, bX8_note_55 Q nx), (71, bX8_note_71 Q nx), (72, bX8_note_72 Q nx), (91, bX8_note_91 Q nx), (103, bX8_note_103 Q nx), (118, bX8_note_118 Q nx), (134, bX8_note_134 Q nx), (135, bX8_note_135 Q nx)]
abbrev rX8_note : Room := { frames := 2, cells := 0, slots := 0, locals := 44 }
noncomputable def wX8_note : Mw := mw 9 kX8_note
set_option maxRecDepth 20000 in
theorem oX8_note_0 {T : Ct} {Q : Option Value → MM → Prop} (C : Cx T cX8_note 9 RX8 0 0) (CR : CxR T 2 44) (hr : T.2.2.2.2.2.2.2.2.1.sig.returnType = (some .int)) (hnm : T.2.2.2.2.2.2.2.2.1.name = "note") {nx : Nat → Kt} (hn : ∀ pc, Sd T 9 (QT T Q 0 0) 0 0 pc (nx pc)) : Sd T 9 (QT T Q 0 0) 0 0 0 (bX8_note_0 Q nx) := x_al_n C dX8_note_0 rfl (x_ic C dX8_note_1 (by decide) (pf_X8_132 C dX8_note_2 (x_il_n C dX8_note_5 rfl (x_cS C CR mX8_isEnd ⟨co_X8_isEnd, init_X8, md_X8_isEnd, by decide, by decide⟩ ml_X8_154 sm_X8_isEnd dX8_note_6 (x_if_eq C (hn 29) dX8_note_9 (by decide) (x_il_n C dX8_note_12 rfl (x_cS C CR mX8_isPort ⟨co_X8_isPort, init_X8, md_X8_isPort, by decide, by decide⟩ ml_X8_162 sm_X8_isPort dX8_note_13 (x_if_eq C (hn 29) dX8_note_16 (by decide) (x_il_n C dX8_note_19 rfl (x_if_lt C (hn 29) dX8_note_20 (by decide) (x_il_n C dX8_note_23 rfl (x_bp C dX8_note_24 (by decide) (x_ic_le C (hn 31) dX8_note_26 (by decide) (hn 29))))))))))))))
set_option maxRecDepth 20000 in
theorem oX8_note_29 {T : Ct} {Q : Option Value → MM → Prop} (C : Cx T cX8_note 9 RX8 0 0) (CR : CxR T 2 44) (hr : T.2.2.2.2.2.2.2.2.1.sig.returnType = (some .int)) (hnm : T.2.2.2.2.2.2.2.2.1.name = "note") {nx : Nat → Kt} (hn : ∀ pc, Sd T 9 (QT T Q 0 0) 0 0 pc (nx pc)) : Sd T 9 (QT T Q 0 0) 0 0 29 (bX8_note_29 Q nx) := x_ic C dX8_note_29 (by decide) (x_rI C hr dX8_note_30)
set_option maxRecDepth 20000 in
theorem oX8_note_31 {T : Ct} {Q : Option Value → MM → Prop} (C : Cx T cX8_note 9 RX8 0 0) (CR : CxR T 2 44) (hr : T.2.2.2.2.2.2.2.2.1.sig.returnType = (some .int)) (hnm : T.2.2.2.2.2.2.2.2.1.name = "note") {nx : Nat → Kt} (hn : ∀ pc, Sd T 9 (QT T Q 0 0) 0 0 pc (nx pc)) : Sd T 9 (QT T Q 0 0) 0 0 31 (bX8_note_31 Q nx) := x_bp C dX8_note_31 (by decide) (x_il_n C dX8_note_33 rfl (x_imul C dX8_note_34 (x_il_n C dX8_note_35 rfl (x_iadd C dX8_note_36 (x_is C dX8_note_37 (by decide) (x_il_n C dX8_note_39 rfl (x_bp C dX8_note_40 (by decide) (x_irem C dX8_note_42 (x_is C dX8_note_43 (by decide) (x_il C dX8_note_45 (x_ic C dX8_note_47 (by decide) (x_ic_ge C (hn 55) dX8_note_48 (by decide) (x_ic C dX8_note_51 (by decide) (x_goto C (hn 72) dX8_note_52 (by decide)))))))))))))))
set_option maxRecDepth 20000 in
theorem oX8_note_55 {T : Ct} {Q : Option Value → MM → Prop} (C : Cx T cX8_note 9 RX8 0 0) (CR : CxR T 2 44) (hr : T.2.2.2.2.2.2.2.2.1.sig.returnType = (some .int)) (hnm : T.2.2.2.2.2.2.2.2.1.name = "note") {nx : Nat → Kt} (hn : ∀ pc, Sd T 9 (QT T Q 0 0) 0 0 pc (nx pc)) : Sd T 9 (QT T Q 0 0) 0 0 55 (bX8_note_55 Q nx) := x_il C dX8_note_55 (x_bp C dX8_note_57 (by decide) (x_ic_ge C (hn 71) dX8_note_59 (by decide) (x_il C dX8_note_62 (x_ic C dX8_note_64 (by decide) (x_idiv C dX8_note_65 (x_ic C dX8_note_66 (by decide) (x_isub C dX8_note_67 (x_goto C (hn 72) dX8_note_68 (by decide)))))))))
set_option maxRecDepth 20000 in
theorem oX8_note_71 {T : Ct} {Q : Option Value → MM → Prop} (C : Cx T cX8_note 9 RX8 0 0) (CR : CxR T 2 44) (hr : T.2.2.2.2.2.2.2.2.1.sig.returnType = (some .int)) (hnm : T.2.2.2.2.2.2.2.2.1.name = "note") {nx : Nat → Kt} (hn : ∀ pc, Sd T 9 (QT T Q 0 0) 0 0 pc (nx pc)) : Sd T 9 (QT T Q 0 0) 0 0 71 (bX8_note_71 Q nx) := x_ic C dX8_note_71 (by decide) (hn 72)
set_option maxRecDepth 20000 in
theorem oX8_note_72 {T : Ct} {Q : Option Value → MM → Prop} (C : Cx T cX8_note 9 RX8 0 0) (CR : CxR T 2 44) (hr : T.2.2.2.2.2.2.2.2.1.sig.returnType = (some .int)) (hnm : T.2.2.2.2.2.2.2.2.1.name = "note") {nx : Nat → Kt} (hn : ∀ pc, Sd T 9 (QT T Q 0 0) 0 0 pc (nx pc)) : Sd T 9 (QT T Q 0 0) 0 0 72 (bX8_note_72 Q nx) := x_is C dX8_note_72 (by decide) (x_il_n C dX8_note_74 rfl (x_bp C dX8_note_75 (by decide) (x_ic_ge C (hn 91) dX8_note_77 (by decide) (x_al_n C dX8_note_80 rfl (x_il C dX8_note_81 (x_il C dX8_note_83 (x_cV C CR mX8_own ⟨co_X8_own, init_X8, md_X8_own, by decide, by decide⟩ (ci := 8) (TX := TX8) (N := 51) rfl (by decide) ml_X8_216 im_X8_own se_X8_own dX8_note_85 (x_goto C (hn 103) dX8_note_88 (by decide)))))))))
set_option maxRecDepth 20000 in
theorem oX8_note_91 {T : Ct} {Q : Option Value → MM → Prop} (C : Cx T cX8_note 9 RX8 0 0) (CR : CxR T 2 44) (hr : T.2.2.2.2.2.2.2.2.1.sig.returnType = (some .int)) (hnm : T.2.2.2.2.2.2.2.2.1.name = "note") {nx : Nat → Kt} (hn : ∀ pc, Sd T 9 (QT T Q 0 0) 0 0 pc (nx pc)) : Sd T 9 (QT T Q 0 0) 0 0 91 (bX8_note_91 Q nx) := x_al_n C dX8_note_91 rfl (gf_X8_62 C dX8_note_92 (x_ic C dX8_note_95 (by decide) (x_il C dX8_note_96 (x_imul C dX8_note_98 (x_il C dX8_note_99 (x_iadd C dX8_note_101 (x_iald C dX8_note_102 (hn 103))))))))
set_option maxRecDepth 20000 in
theorem oX8_note_103 {T : Ct} {Q : Option Value → MM → Prop} (C : Cx T cX8_note 9 RX8 0 0) (CR : CxR T 2 44) (hr : T.2.2.2.2.2.2.2.2.1.sig.returnType = (some .int)) (hnm : T.2.2.2.2.2.2.2.2.1.name = "note") {nx : Nat → Kt} (hn : ∀ pc, Sd T 9 (QT T Q 0 0) 0 0 pc (nx pc)) : Sd T 9 (QT T Q 0 0) 0 0 103 (bX8_note_103 Q nx) := x_is C dX8_note_103 (by decide) (x_il C dX8_note_105 (x_ic C dX8_note_107 (by decide) (x_ic_ge C (hn 118) dX8_note_108 (by decide) (x_ic C dX8_note_111 (by decide) (x_il C dX8_note_112 (x_isub C dX8_note_114 (x_goto C (hn 135) dX8_note_115 (by decide))))))))
set_option maxRecDepth 20000 in
theorem oX8_note_118 {T : Ct} {Q : Option Value → MM → Prop} (C : Cx T cX8_note 9 RX8 0 0) (CR : CxR T 2 44) (hr : T.2.2.2.2.2.2.2.2.1.sig.returnType = (some .int)) (hnm : T.2.2.2.2.2.2.2.2.1.name = "note") {nx : Nat → Kt} (hn : ∀ pc, Sd T 9 (QT T Q 0 0) 0 0 pc (nx pc)) : Sd T 9 (QT T Q 0 0) 0 0 118 (bX8_note_118 Q nx) := x_il C dX8_note_118 (x_bp C dX8_note_120 (by decide) (x_ic_ge C (hn 134) dX8_note_122 (by decide) (x_ic C dX8_note_125 (by decide) (x_il C dX8_note_126 (x_ic C dX8_note_128 (by decide) (x_irem C dX8_note_129 (x_isub C dX8_note_130 (x_goto C (hn 135) dX8_note_131 (by decide)))))))))
set_option maxRecDepth 20000 in
theorem oX8_note_134 {T : Ct} {Q : Option Value → MM → Prop} (C : Cx T cX8_note 9 RX8 0 0) (CR : CxR T 2 44) (hr : T.2.2.2.2.2.2.2.2.1.sig.returnType = (some .int)) (hnm : T.2.2.2.2.2.2.2.2.1.name = "note") {nx : Nat → Kt} (hn : ∀ pc, Sd T 9 (QT T Q 0 0) 0 0 pc (nx pc)) : Sd T 9 (QT T Q 0 0) 0 0 134 (bX8_note_134 Q nx) := x_ic C dX8_note_134 (by decide) (hn 135)
set_option maxRecDepth 20000 in
theorem oX8_note_135 {T : Ct} {Q : Option Value → MM → Prop} (C : Cx T cX8_note 9 RX8 0 0) (CR : CxR T 2 44) (hr : T.2.2.2.2.2.2.2.2.1.sig.returnType = (some .int)) (hnm : T.2.2.2.2.2.2.2.2.1.name = "note") {nx : Nat → Kt} (hn : ∀ pc, Sd T 9 (QT T Q 0 0) 0 0 pc (nx pc)) : Sd T 9 (QT T Q 0 0) 0 0 135 (bX8_note_135 Q nx) := x_is C dX8_note_135 (by decide) (x_il C dX8_note_137 (x_bp C dX8_note_139 (by decide) (x_il C dX8_note_141 (x_imul C dX8_note_143 (x_ishr C dX8_note_144 (x_sp C dX8_note_145 (by decide) (x_iand C dX8_note_148 (x_rI C hr dX8_note_149))))))))
set_option maxRecDepth 20000 in
theorem mX8_note (l : Launch) (D : va_G) (cA : Nat → ClassId) (base : Nat) : Mc l D cA base yX8_note cX8_note 9 (some .int) rX8_note wX8_note := mc_of (by decide +kernel) kX8_note (fun T Q C CR hr hnm nx hn => bse_ok _ (List.forall_mem_cons.mpr ⟨oX8_note_0 C CR hr hnm hn, List.forall_mem_cons.mpr ⟨oX8_note_29 C CR hr hnm hn, List.forall_mem_cons.mpr ⟨oX8_note_31 C CR hr hnm hn, List.forall_mem_cons.mpr ⟨oX8_note_55 C CR hr hnm hn, List.forall_mem_cons.mpr ⟨oX8_note_71 C CR hr hnm hn, List.forall_mem_cons.mpr ⟨oX8_note_72 C CR hr hnm hn, List.forall_mem_cons.mpr ⟨oX8_note_91 C CR hr hnm hn, List.forall_mem_cons.mpr ⟨oX8_note_103 C CR hr hnm hn, List.forall_mem_cons.mpr ⟨oX8_note_118 C CR hr hnm hn, List.forall_mem_cons.mpr ⟨oX8_note_134 C CR hr hnm hn, List.forall_mem_cons.mpr ⟨oX8_note_135 C CR hr hnm hn, fun _ h => nomatch h⟩⟩⟩⟩⟩⟩⟩⟩⟩⟩⟩))
theorem dX8_count_0 : decode cX8_count 0 = .ok (.aload_n 0, 1) := by decide +kernel
theorem dX8_count_1 : decode cX8_count 1 = .ok (.iconst 0, 1) := by decide +kernel
theorem dX8_count_2 : decode cX8_count 2 = .ok (.putfield 132, 3) := by decide +kernel
theorem dX8_count_5 : decode cX8_count 5 = .ok (.iload_n 1, 1) := by decide +kernel
theorem dX8_count_6 : decode cX8_count 6 = .ok (.tableswitch 129 0 12 #[66, 71, 76, 76, 85, 85, 94, 94, 104, 109, 114, 119, 124], 66) := by decide +kernel
theorem dX8_count_72 : decode cX8_count 72 = .ok (.aload_n 0, 1) := by decide +kernel
theorem dX8_count_73 : decode cX8_count 73 = .ok (.getfield 213, 3) := by decide +kernel
theorem dX8_count_76 : decode cX8_count 76 = .ok (.ireturn, 1) := by decide +kernel
theorem dX8_count_77 : decode cX8_count 77 = .ok (.aload_n 0, 1) := by decide +kernel
theorem dX8_count_78 : decode cX8_count 78 = .ok (.getfield 151, 3) := by decide +kernel
theorem dX8_count_81 : decode cX8_count 81 = .ok (.ireturn, 1) := by decide +kernel
theorem dX8_count_82 : decode cX8_count 82 = .ok (.aload_n 0, 1) := by decide +kernel
theorem dX8_count_83 : decode cX8_count 83 = .ok (.getfield 7, 3) := by decide +kernel
theorem dX8_count_86 : decode cX8_count 86 = .ok (.iload_n 1, 1) := by decide +kernel
theorem dX8_count_87 : decode cX8_count 87 = .ok (.iconst 2, 1) := by decide +kernel
theorem dX8_count_88 : decode cX8_count 88 = .ok (.isub, 1) := by decide +kernel
theorem dX8_count_89 : decode cX8_count 89 = .ok (.iaload, 1) := by decide +kernel
theorem dX8_count_90 : decode cX8_count 90 = .ok (.ireturn, 1) := by decide +kernel
theorem dX8_count_91 : decode cX8_count 91 = .ok (.aload_n 0, 1) := by decide +kernel
theorem dX8_count_92 : decode cX8_count 92 = .ok (.getfield 13, 3) := by decide +kernel
theorem dX8_count_95 : decode cX8_count 95 = .ok (.iload_n 1, 1) := by decide +kernel
theorem dX8_count_96 : decode cX8_count 96 = .ok (.iconst 4, 1) := by decide +kernel
theorem dX8_count_97 : decode cX8_count 97 = .ok (.isub, 1) := by decide +kernel
theorem dX8_count_98 : decode cX8_count 98 = .ok (.iaload, 1) := by decide +kernel
theorem dX8_count_99 : decode cX8_count 99 = .ok (.ireturn, 1) := by decide +kernel
theorem dX8_count_100 : decode cX8_count 100 = .ok (.aload_n 0, 1) := by decide +kernel
theorem dX8_count_101 : decode cX8_count 101 = .ok (.getfield 129, 3) := by decide +kernel
theorem dX8_count_104 : decode cX8_count 104 = .ok (.iload_n 1, 1) := by decide +kernel
theorem dX8_count_105 : decode cX8_count 105 = .ok (.bipush 6, 2) := by decide +kernel
theorem dX8_count_107 : decode cX8_count 107 = .ok (.isub, 1) := by decide +kernel
theorem dX8_count_108 : decode cX8_count 108 = .ok (.iaload, 1) := by decide +kernel
theorem dX8_count_109 : decode cX8_count 109 = .ok (.ireturn, 1) := by decide +kernel
theorem dX8_count_110 : decode cX8_count 110 = .ok (.aload_n 0, 1) := by decide +kernel
theorem dX8_count_111 : decode cX8_count 111 = .ok (.getfield 204, 3) := by decide +kernel
theorem dX8_count_114 : decode cX8_count 114 = .ok (.ireturn, 1) := by decide +kernel
theorem dX8_count_115 : decode cX8_count 115 = .ok (.aload_n 0, 1) := by decide +kernel
theorem dX8_count_116 : decode cX8_count 116 = .ok (.getfield 169, 3) := by decide +kernel
theorem dX8_count_119 : decode cX8_count 119 = .ok (.ireturn, 1) := by decide +kernel
theorem dX8_count_120 : decode cX8_count 120 = .ok (.aload_n 0, 1) := by decide +kernel
theorem dX8_count_121 : decode cX8_count 121 = .ok (.getfield 277, 3) := by decide +kernel
theorem dX8_count_124 : decode cX8_count 124 = .ok (.ireturn, 1) := by decide +kernel
theorem dX8_count_125 : decode cX8_count 125 = .ok (.aload_n 0, 1) := by decide +kernel
theorem dX8_count_126 : decode cX8_count 126 = .ok (.getfield 298, 3) := by decide +kernel
theorem dX8_count_129 : decode cX8_count 129 = .ok (.ireturn, 1) := by decide +kernel
theorem dX8_count_130 : decode cX8_count 130 = .ok (.aload_n 0, 1) := by decide +kernel
theorem dX8_count_131 : decode cX8_count 131 = .ok (.getfield 210, 3) := by decide +kernel
theorem dX8_count_134 : decode cX8_count 134 = .ok (.ireturn, 1) := by decide +kernel
theorem dX8_count_135 : decode cX8_count 135 = .ok (.iconst (-1), 1) := by decide +kernel
theorem dX8_count_136 : decode cX8_count 136 = .ok (.ireturn, 1) := by decide +kernel
noncomputable def bX8_count_0 (Q : Option Value → MM → Prop) (nx : Nat → Kt) : Kt := ldA 0 (cI 0 (tI 8 0 (ldI 1 (swt 0 12 (fun j => nx (([72, 77, 82, 82, 91, 91, 100, 100, 110, 115, 120, 125, 130] : List Nat).getD j 0)) (nx 135)))))
noncomputable def bX8_count_72 (Q : Option Value → MM → Prop) (nx : Nat → Kt) : Kt := ldA 0 (gI 8 43 (rI Q))
noncomputable def bX8_count_77 (Q : Option Value → MM → Prop) (nx : Nat → Kt) : Kt := ldA 0 (gI 8 44 (rI Q))
noncomputable def bX8_count_82 (Q : Option Value → MM → Prop) (nx : Nat → Kt) : Kt := ldA 0 (gR 8 1 (ldI 1 (cI 2 (bop (fun x y => x - y) (aI 10 (rI Q))))))
noncomputable def bX8_count_91 (Q : Option Value → MM → Prop) (nx : Nat → Kt) : Kt := ldA 0 (gR 8 2 (ldI 1 (cI 4 (bop (fun x y => x - y) (aI 10 (rI Q))))))
noncomputable def bX8_count_100 (Q : Option Value → MM → Prop) (nx : Nat → Kt) : Kt := ldA 0 (gR 8 42 (ldI 1 (cI 6 (bop (fun x y => x - y) (aI 10 (rI Q))))))
noncomputable def bX8_count_110 (Q : Option Value → MM → Prop) (nx : Nat → Kt) : Kt := ldA 0 (gI 8 45 (rI Q))
noncomputable def bX8_count_115 (Q : Option Value → MM → Prop) (nx : Nat → Kt) : Kt := ldA 0 (gI 8 46 (rI Q))
noncomputable def bX8_count_120 (Q : Option Value → MM → Prop) (nx : Nat → Kt) : Kt := ldA 0 (gI 8 47 (rI Q))
noncomputable def bX8_count_125 (Q : Option Value → MM → Prop) (nx : Nat → Kt) : Kt := ldA 0 (gI 8 48 (rI Q))
noncomputable def bX8_count_130 (Q : Option Value → MM → Prop) (nx : Nat → Kt) : Kt := ldA 0 (gI 8 49 (rI Q))
noncomputable def bX8_count_135 (Q : Option Value → MM → Prop) (nx : Nat → Kt) : Kt := cI (-1) (rI Q)
noncomputable def kX8_count (Q : Option Value → MM → Prop) (nx : Nat → Kt) : Nat → Kt := bse [(0, bX8_count_0 Q nx), (72, bX8_count_72 Q nx), (77, bX8_count_77 Q nx), (82, bX8_count_82 Q nx), (91, bX8_count_91 Q nx), (100, bX8_count_100 Q nx), (110, bX8_count_110 Q nx), (115, bX8_count_115 Q nx), (120, bX8_count_120 Q nx), (125, bX8_count_125 Q nx), (130, bX8_count_130 Q nx), (135, bX8_count_135 Q nx)]
abbrev rX8_count : Room := { frames := 0, cells := 0, slots := 0, locals := 0 }
noncomputable def wX8_count : Mw := mw 2 kX8_count
set_option maxRecDepth 20000 in
theorem oX8_count_0 {T : Ct} {Q : Option Value → MM → Prop} (C : Cx T cX8_count 2 RX8 0 0) (CR : CxR T 0 0) (hr : T.2.2.2.2.2.2.2.2.1.sig.returnType = (some .int)) (hnm : T.2.2.2.2.2.2.2.2.1.name = "count") {nx : Nat → Kt} (hn : ∀ pc, Sd T 2 (QT T Q 0 0) 0 0 pc (nx pc)) : Sd T 2 (QT T Q 0 0) 0 0 0 (bX8_count_0 Q nx) := x_al_n C dX8_count_0 rfl (x_ic C dX8_count_1 (by decide) (pf_X8_132 C dX8_count_2 (x_il_n C dX8_count_5 rfl (x_sw C (tl := [72, 77, 82, 82, 91, 91, 100, 100, 110, 115, 120, 125, 130]) hn dX8_count_6 (by decide) (by decide) (by decide)))))
set_option maxRecDepth 20000 in
theorem oX8_count_72 {T : Ct} {Q : Option Value → MM → Prop} (C : Cx T cX8_count 2 RX8 0 0) (CR : CxR T 0 0) (hr : T.2.2.2.2.2.2.2.2.1.sig.returnType = (some .int)) (hnm : T.2.2.2.2.2.2.2.2.1.name = "count") {nx : Nat → Kt} (hn : ∀ pc, Sd T 2 (QT T Q 0 0) 0 0 pc (nx pc)) : Sd T 2 (QT T Q 0 0) 0 0 72 (bX8_count_72 Q nx) := x_al_n C dX8_count_72 rfl (gf_X8_213 C dX8_count_73 (x_rI C hr dX8_count_76))
set_option maxRecDepth 20000 in
theorem oX8_count_77 {T : Ct} {Q : Option Value → MM → Prop} (C : Cx T cX8_count 2 RX8 0 0) (CR : CxR T 0 0) (hr : T.2.2.2.2.2.2.2.2.1.sig.returnType = (some .int)) (hnm : T.2.2.2.2.2.2.2.2.1.name = "count") {nx : Nat → Kt} (hn : ∀ pc, Sd T 2 (QT T Q 0 0) 0 0 pc (nx pc)) : Sd T 2 (QT T Q 0 0) 0 0 77 (bX8_count_77 Q nx) := x_al_n C dX8_count_77 rfl (gf_X8_151 C dX8_count_78 (x_rI C hr dX8_count_81))
set_option maxRecDepth 20000 in
theorem oX8_count_82 {T : Ct} {Q : Option Value → MM → Prop} (C : Cx T cX8_count 2 RX8 0 0) (CR : CxR T 0 0) (hr : T.2.2.2.2.2.2.2.2.1.sig.returnType = (some .int)) (hnm : T.2.2.2.2.2.2.2.2.1.name = "count") {nx : Nat → Kt} (hn : ∀ pc, Sd T 2 (QT T Q 0 0) 0 0 pc (nx pc)) : Sd T 2 (QT T Q 0 0) 0 0 82 (bX8_count_82 Q nx) := x_al_n C dX8_count_82 rfl (gf_X8_7 C dX8_count_83 (x_il_n C dX8_count_86 rfl (x_ic C dX8_count_87 (by decide) (x_isub C dX8_count_88 (x_iald C dX8_count_89 (x_rI C hr dX8_count_90))))))
set_option maxRecDepth 20000 in
theorem oX8_count_91 {T : Ct} {Q : Option Value → MM → Prop} (C : Cx T cX8_count 2 RX8 0 0) (CR : CxR T 0 0) (hr : T.2.2.2.2.2.2.2.2.1.sig.returnType = (some .int)) (hnm : T.2.2.2.2.2.2.2.2.1.name = "count") {nx : Nat → Kt} (hn : ∀ pc, Sd T 2 (QT T Q 0 0) 0 0 pc (nx pc)) : Sd T 2 (QT T Q 0 0) 0 0 91 (bX8_count_91 Q nx) := x_al_n C dX8_count_91 rfl (gf_X8_13 C dX8_count_92 (x_il_n C dX8_count_95 rfl (x_ic C dX8_count_96 (by decide) (x_isub C dX8_count_97 (x_iald C dX8_count_98 (x_rI C hr dX8_count_99))))))
set_option maxRecDepth 20000 in
theorem oX8_count_100 {T : Ct} {Q : Option Value → MM → Prop} (C : Cx T cX8_count 2 RX8 0 0) (CR : CxR T 0 0) (hr : T.2.2.2.2.2.2.2.2.1.sig.returnType = (some .int)) (hnm : T.2.2.2.2.2.2.2.2.1.name = "count") {nx : Nat → Kt} (hn : ∀ pc, Sd T 2 (QT T Q 0 0) 0 0 pc (nx pc)) : Sd T 2 (QT T Q 0 0) 0 0 100 (bX8_count_100 Q nx) := x_al_n C dX8_count_100 rfl (gf_X8_129 C dX8_count_101 (x_il_n C dX8_count_104 rfl (x_bp C dX8_count_105 (by decide) (x_isub C dX8_count_107 (x_iald C dX8_count_108 (x_rI C hr dX8_count_109))))))
set_option maxRecDepth 20000 in
theorem oX8_count_110 {T : Ct} {Q : Option Value → MM → Prop} (C : Cx T cX8_count 2 RX8 0 0) (CR : CxR T 0 0) (hr : T.2.2.2.2.2.2.2.2.1.sig.returnType = (some .int)) (hnm : T.2.2.2.2.2.2.2.2.1.name = "count") {nx : Nat → Kt} (hn : ∀ pc, Sd T 2 (QT T Q 0 0) 0 0 pc (nx pc)) : Sd T 2 (QT T Q 0 0) 0 0 110 (bX8_count_110 Q nx) := x_al_n C dX8_count_110 rfl (gf_X8_204 C dX8_count_111 (x_rI C hr dX8_count_114))
set_option maxRecDepth 20000 in
theorem oX8_count_115 {T : Ct} {Q : Option Value → MM → Prop} (C : Cx T cX8_count 2 RX8 0 0) (CR : CxR T 0 0) (hr : T.2.2.2.2.2.2.2.2.1.sig.returnType = (some .int)) (hnm : T.2.2.2.2.2.2.2.2.1.name = "count") {nx : Nat → Kt} (hn : ∀ pc, Sd T 2 (QT T Q 0 0) 0 0 pc (nx pc)) : Sd T 2 (QT T Q 0 0) 0 0 115 (bX8_count_115 Q nx) := x_al_n C dX8_count_115 rfl (gf_X8_169 C dX8_count_116 (x_rI C hr dX8_count_119))
set_option maxRecDepth 20000 in
theorem oX8_count_120 {T : Ct} {Q : Option Value → MM → Prop} (C : Cx T cX8_count 2 RX8 0 0) (CR : CxR T 0 0) (hr : T.2.2.2.2.2.2.2.2.1.sig.returnType = (some .int)) (hnm : T.2.2.2.2.2.2.2.2.1.name = "count") {nx : Nat → Kt} (hn : ∀ pc, Sd T 2 (QT T Q 0 0) 0 0 pc (nx pc)) : Sd T 2 (QT T Q 0 0) 0 0 120 (bX8_count_120 Q nx) := x_al_n C dX8_count_120 rfl (gf_X8_277 C dX8_count_121 (x_rI C hr dX8_count_124))
set_option maxRecDepth 20000 in
theorem oX8_count_125 {T : Ct} {Q : Option Value → MM → Prop} (C : Cx T cX8_count 2 RX8 0 0) (CR : CxR T 0 0) (hr : T.2.2.2.2.2.2.2.2.1.sig.returnType = (some .int)) (hnm : T.2.2.2.2.2.2.2.2.1.name = "count") {nx : Nat → Kt} (hn : ∀ pc, Sd T 2 (QT T Q 0 0) 0 0 pc (nx pc)) : Sd T 2 (QT T Q 0 0) 0 0 125 (bX8_count_125 Q nx) := x_al_n C dX8_count_125 rfl (gf_X8_298 C dX8_count_126 (x_rI C hr dX8_count_129))
set_option maxRecDepth 20000 in
theorem oX8_count_130 {T : Ct} {Q : Option Value → MM → Prop} (C : Cx T cX8_count 2 RX8 0 0) (CR : CxR T 0 0) (hr : T.2.2.2.2.2.2.2.2.1.sig.returnType = (some .int)) (hnm : T.2.2.2.2.2.2.2.2.1.name = "count") {nx : Nat → Kt} (hn : ∀ pc, Sd T 2 (QT T Q 0 0) 0 0 pc (nx pc)) : Sd T 2 (QT T Q 0 0) 0 0 130 (bX8_count_130 Q nx) := x_al_n C dX8_count_130 rfl (gf_X8_210 C dX8_count_131 (x_rI C hr dX8_count_134))
set_option maxRecDepth 20000 in
theorem oX8_count_135 {T : Ct} {Q : Option Value → MM → Prop} (C : Cx T cX8_count 2 RX8 0 0) (CR : CxR T 0 0) (hr : T.2.2.2.2.2.2.2.2.1.sig.returnType = (some .int)) (hnm : T.2.2.2.2.2.2.2.2.1.name = "count") {nx : Nat → Kt} (hn : ∀ pc, Sd T 2 (QT T Q 0 0) 0 0 pc (nx pc)) : Sd T 2 (QT T Q 0 0) 0 0 135 (bX8_count_135 Q nx) := x_ic C dX8_count_135 (by decide) (x_rI C hr dX8_count_136)
set_option maxRecDepth 20000 in
theorem mX8_count (l : Launch) (D : va_G) (cA : Nat → ClassId) (base : Nat) : Mc l D cA base yX8_count cX8_count 2 (some .int) rX8_count wX8_count := mc_of (by decide +kernel) kX8_count (fun T Q C CR hr hnm nx hn => bse_ok _ (List.forall_mem_cons.mpr ⟨oX8_count_0 C CR hr hnm hn, List.forall_mem_cons.mpr ⟨oX8_count_72 C CR hr hnm hn, List.forall_mem_cons.mpr ⟨oX8_count_77 C CR hr hnm hn, List.forall_mem_cons.mpr ⟨oX8_count_82 C CR hr hnm hn, List.forall_mem_cons.mpr ⟨oX8_count_91 C CR hr hnm hn, List.forall_mem_cons.mpr ⟨oX8_count_100 C CR hr hnm hn, List.forall_mem_cons.mpr ⟨oX8_count_110 C CR hr hnm hn, List.forall_mem_cons.mpr ⟨oX8_count_115 C CR hr hnm hn, List.forall_mem_cons.mpr ⟨oX8_count_120 C CR hr hnm hn, List.forall_mem_cons.mpr ⟨oX8_count_125 C CR hr hnm hn, List.forall_mem_cons.mpr ⟨oX8_count_130 C CR hr hnm hn, List.forall_mem_cons.mpr ⟨oX8_count_135 C CR hr hnm hn, fun _ h => nomatch h⟩⟩⟩⟩⟩⟩⟩⟩⟩⟩⟩⟩))
