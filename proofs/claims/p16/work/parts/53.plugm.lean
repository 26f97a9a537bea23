theorem u_X8_plug_0 {Q : Option Value → MM → Prop} {n : Nat} {lv : Lv} {st : List Value} {S : MM} {c z : Nat} (h : bX8_plug_0 Q (wpn (kX8_plug Q) n) lv st S c z) : wpn (kX8_plug Q) (n + 1) 0 lv st S c z := h
theorem u_X8_plug_35 {Q : Option Value → MM → Prop} {n : Nat} {lv : Lv} {st : List Value} {S : MM} {c z : Nat} (h : bX8_plug_35 Q (wpn (kX8_plug Q) n) lv st S c z) : wpn (kX8_plug Q) (n + 1) 35 lv st S c z := h
theorem u_X8_plug_39 {Q : Option Value → MM → Prop} {n : Nat} {lv : Lv} {st : List Value} {S : MM} {c z : Nat} (h : bX8_plug_39 Q (wpn (kX8_plug Q) n) lv st S c z) : wpn (kX8_plug Q) (n + 1) 39 lv st S c z := h
theorem u_X8_plug_60 {Q : Option Value → MM → Prop} {n : Nat} {lv : Lv} {st : List Value} {S : MM} {c z : Nat} (h : bX8_plug_60 Q (wpn (kX8_plug Q) n) lv st S c z) : wpn (kX8_plug Q) (n + 1) 60 lv st S c z := h
theorem u_X8_plug_64 {Q : Option Value → MM → Prop} {n : Nat} {lv : Lv} {st : List Value} {S : MM} {c z : Nat} (h : bX8_plug_64 Q (wpn (kX8_plug Q) n) lv st S c z) : wpn (kX8_plug Q) (n + 1) 64 lv st S c z := h
theorem u_X8_plug_65 {Q : Option Value → MM → Prop} {n : Nat} {lv : Lv} {st : List Value} {S : MM} {c z : Nat} (h : bX8_plug_65 Q (wpn (kX8_plug Q) n) lv st S c z) : wpn (kX8_plug Q) (n + 1) 65 lv st S c z := h
theorem u_X8_plug_76 {Q : Option Value → MM → Prop} {n : Nat} {lv : Lv} {st : List Value} {S : MM} {c z : Nat} (h : bX8_plug_76 Q (wpn (kX8_plug Q) n) lv st S c z) : wpn (kX8_plug Q) (n + 1) 76 lv st S c z := h
theorem u_X8_plug_90 {Q : Option Value → MM → Prop} {n : Nat} {lv : Lv} {st : List Value} {S : MM} {c z : Nat} (h : bX8_plug_90 Q (wpn (kX8_plug Q) n) lv st S c z) : wpn (kX8_plug Q) (n + 1) 90 lv st S c z := h
theorem q_plug90M {Q : Option Value → MM → Prop} {S0 S1 : MM} {f m n k c a b d : Nat} {A : Nat → Nat} {lv : Lv} {g : Int32 × Int32 × Int32 × Int32 → Bool} (hM0 : MS S0 m A) (shW : SM WP m A S0 S1) (hI : IV S1 m A k) (hk : k ≤ n) (hT : TL S1 A k = (TL S0 A n).filter g) (hc : c < 8) (ha : a < 8) (hb : b < 8) (hd : 1 ≤ d) (hd2 : d ≤ 8) (hP : sI S1 (A 24) c = 0) (ea : sI S1 (A 11) (8 * 0 + a) = -1) (eb : sI S1 (A 11) (8 * 1 + b) = -1) (l0 : lvg lv 0 = some (.ref m)) (l1 : lvg lv 1 = some (.int (nI c))) (l2 : lvg lv 2 = some (.int (nI a))) (l3 : lvg lv 3 = some (.int (nI b))) (l4 : lvg lv 4 = some (.int (nI d))) (K : ∀ S' k g, k ≤ n → SM WP m A S0 S' → IV S' m A k → TL S' A k = (TL S0 A n).filter g → Q none S') : wpn (kX8_plug Q) (f + 1) 90 lv [] S1 0 0 := by
  have hM := MS_SM hM0 shW
  obtain ⟨im1, j2, j3, j4, j5⟩ := hI
  have sh1 : SM [11, 22, 23, 24] m A S1 S1 := SM.rf
  have hM1 := hM
  refine u_X8_plug_90 ?_
  unfold bX8_plug_90
  have f7_1 : sI S1 (A 7) = sI S1 (A 7) := rfl
  have f9_1 : sI S1 (A 9) = sI S1 (A 9) := rfl
  have f11_1 : sI S1 (A 11) = sI S1 (A 11) := rfl
  have f22_1 : sI S1 (A 22) = sI S1 (A 22) := rfl
  have f23_1 : sI S1 (A 23) = sI S1 (A 23) := rfl
  have f24_1 : sI S1 (A 24) = sI S1 (A 24) := rfl
  have f25_1 : sI S1 (A 25) = sI S1 (A 25) := rfl
  have f27_1 : sI S1 (A 27) = sI S1 (A 27) := rfl
  have f28_1 : sI S1 (A 28) = sI S1 (A 28) := rfl
  have f29_1 : sI S1 (A 29) = sI S1 (A 29) := rfl
  have f30_1 : sI S1 (A 30) = sI S1 (A 30) := rfl
  refine e_ldA l0 (e_gR hM1.1 (hM1.2.1 24 (by decide)).1 (e_ldI l1 (e_cN 1 rfl (y_mB (N := 8) hM sh1 im1 (by decide) rfl rfl hc (by decide) (by decide) (by decide) (fun N e => nomatch (show (none : Option Nat) = some N from e)) (fun e => absurd e (by decide)) (fun S2 he2 sh2 im2 => ?_)))))
  have hM2 := MS_SM hM sh2
  have f7_2 : sI S2 (A 7) = sI S1 (A 7) := fn_o he2 f7_1 (ne_A hM (by decide) (by decide) (by decide))
  have f9_2 : sI S2 (A 9) = sI S1 (A 9) := fn_o he2 f9_1 (ne_A hM (by decide) (by decide) (by decide))
  have f11_2 : sI S2 (A 11) = sI S1 (A 11) := fn_o he2 f11_1 (ne_A hM (by decide) (by decide) (by decide))
  have f22_2 : sI S2 (A 22) = sI S1 (A 22) := fn_o he2 f22_1 (ne_A hM (by decide) (by decide) (by decide))
  have f23_2 : sI S2 (A 23) = sI S1 (A 23) := fn_o he2 f23_1 (ne_A hM (by decide) (by decide) (by decide))
  have f24_2 : sI S2 (A 24) = upd (sI S1 (A 24)) c (nI 1) := fn_s he2 f24_1
  have f25_2 : sI S2 (A 25) = sI S1 (A 25) := fn_o he2 f25_1 (ne_A hM (by decide) (by decide) (by decide))
  have f27_2 : sI S2 (A 27) = sI S1 (A 27) := fn_o he2 f27_1 (ne_A hM (by decide) (by decide) (by decide))
  have f28_2 : sI S2 (A 28) = sI S1 (A 28) := fn_o he2 f28_1 (ne_A hM (by decide) (by decide) (by decide))
  have f29_2 : sI S2 (A 29) = sI S1 (A 29) := fn_o he2 f29_1 (ne_A hM (by decide) (by decide) (by decide))
  have f30_2 : sI S2 (A 30) = sI S1 (A 30) := fn_o he2 f30_1 (ne_A hM (by decide) (by decide) (by decide))
  refine e_ldA l0 (e_gR hM2.1 (hM2.2.1 22 (by decide)).1 (e_cN 2 rfl (e_ldI l1 (e_mul (e_ldI l2 (y_mA (N := 16) hM sh2 im2 (by decide) rfl rfl (show 2 * c < 16 by omega) (by decide) (by decide) (fun N e => by have e2 : some 8 = some N := e; cases e2; exact ⟨a, by omega, rfl⟩) (fun e => absurd e (by decide)) (fun S3 he3 sh3 im3 => ?_)))))))
  have hM3 := MS_SM hM sh3
  have f7_3 : sI S3 (A 7) = sI S1 (A 7) := fn_o he3 f7_2 (ne_A hM (by decide) (by decide) (by decide))
  have f9_3 : sI S3 (A 9) = sI S1 (A 9) := fn_o he3 f9_2 (ne_A hM (by decide) (by decide) (by decide))
  have f11_3 : sI S3 (A 11) = sI S1 (A 11) := fn_o he3 f11_2 (ne_A hM (by decide) (by decide) (by decide))
  have f22_3 : sI S3 (A 22) = upd (sI S1 (A 22)) (2 * c) (nI a) := fn_s he3 f22_2
  have f23_3 : sI S3 (A 23) = sI S1 (A 23) := fn_o he3 f23_2 (ne_A hM (by decide) (by decide) (by decide))
  have f24_3 : sI S3 (A 24) = upd (sI S1 (A 24)) c (nI 1) := fn_o he3 f24_2 (ne_A hM (by decide) (by decide) (by decide))
  have f25_3 : sI S3 (A 25) = sI S1 (A 25) := fn_o he3 f25_2 (ne_A hM (by decide) (by decide) (by decide))
  have f27_3 : sI S3 (A 27) = sI S1 (A 27) := fn_o he3 f27_2 (ne_A hM (by decide) (by decide) (by decide))
  have f28_3 : sI S3 (A 28) = sI S1 (A 28) := fn_o he3 f28_2 (ne_A hM (by decide) (by decide) (by decide))
  have f29_3 : sI S3 (A 29) = sI S1 (A 29) := fn_o he3 f29_2 (ne_A hM (by decide) (by decide) (by decide))
  have f30_3 : sI S3 (A 30) = sI S1 (A 30) := fn_o he3 f30_2 (ne_A hM (by decide) (by decide) (by decide))
  refine e_ldA l0 (e_gR hM3.1 (hM3.2.1 22 (by decide)).1 (e_cN 2 rfl (e_ldI l1 (e_mul (e_cN 1 rfl (e_add (e_ldI l3 (y_mA (N := 16) hM sh3 im3 (by decide) rfl rfl (show 2 * c + 1 < 16 by omega) (by decide) (by decide) (fun N e => by have e2 : some 8 = some N := e; cases e2; exact ⟨b, by omega, rfl⟩) (fun e => absurd e (by decide)) (fun S4 he4 sh4 im4 => ?_)))))))))
  have hM4 := MS_SM hM sh4
  have f7_4 : sI S4 (A 7) = sI S1 (A 7) := fn_o he4 f7_3 (ne_A hM (by decide) (by decide) (by decide))
  have f9_4 : sI S4 (A 9) = sI S1 (A 9) := fn_o he4 f9_3 (ne_A hM (by decide) (by decide) (by decide))
  have f11_4 : sI S4 (A 11) = sI S1 (A 11) := fn_o he4 f11_3 (ne_A hM (by decide) (by decide) (by decide))
  have f22_4 : sI S4 (A 22) = upd (upd (sI S1 (A 22)) (2 * c) (nI a)) (2 * c + 1) (nI b) := fn_s he4 f22_3
  have f23_4 : sI S4 (A 23) = sI S1 (A 23) := fn_o he4 f23_3 (ne_A hM (by decide) (by decide) (by decide))
  have f24_4 : sI S4 (A 24) = upd (sI S1 (A 24)) c (nI 1) := fn_o he4 f24_3 (ne_A hM (by decide) (by decide) (by decide))
  have f25_4 : sI S4 (A 25) = sI S1 (A 25) := fn_o he4 f25_3 (ne_A hM (by decide) (by decide) (by decide))
  have f27_4 : sI S4 (A 27) = sI S1 (A 27) := fn_o he4 f27_3 (ne_A hM (by decide) (by decide) (by decide))
  have f28_4 : sI S4 (A 28) = sI S1 (A 28) := fn_o he4 f28_3 (ne_A hM (by decide) (by decide) (by decide))
  have f29_4 : sI S4 (A 29) = sI S1 (A 29) := fn_o he4 f29_3 (ne_A hM (by decide) (by decide) (by decide))
  have f30_4 : sI S4 (A 30) = sI S1 (A 30) := fn_o he4 f30_3 (ne_A hM (by decide) (by decide) (by decide))
  refine e_ldA l0 (e_gR hM4.1 (hM4.2.1 23 (by decide)).1 (e_ldI l1 (e_ldI l4 (y_mA (N := 8) hM sh4 im4 (by decide) rfl rfl hc (by decide) (by decide) (fun N e => nomatch (show (none : Option Nat) = some N from e)) (fun e => absurd e (by decide)) (fun S5 he5 sh5 im5 => ?_)))))
  have hM5 := MS_SM hM sh5
  have f7_5 : sI S5 (A 7) = sI S1 (A 7) := fn_o he5 f7_4 (ne_A hM (by decide) (by decide) (by decide))
  have f9_5 : sI S5 (A 9) = sI S1 (A 9) := fn_o he5 f9_4 (ne_A hM (by decide) (by decide) (by decide))
  have f11_5 : sI S5 (A 11) = sI S1 (A 11) := fn_o he5 f11_4 (ne_A hM (by decide) (by decide) (by decide))
  have f22_5 : sI S5 (A 22) = upd (upd (sI S1 (A 22)) (2 * c) (nI a)) (2 * c + 1) (nI b) := fn_o he5 f22_4 (ne_A hM (by decide) (by decide) (by decide))
  have f23_5 : sI S5 (A 23) = upd (sI S1 (A 23)) c (nI d) := fn_s he5 f23_4
  have f24_5 : sI S5 (A 24) = upd (sI S1 (A 24)) c (nI 1) := fn_o he5 f24_4 (ne_A hM (by decide) (by decide) (by decide))
  have f25_5 : sI S5 (A 25) = sI S1 (A 25) := fn_o he5 f25_4 (ne_A hM (by decide) (by decide) (by decide))
  have f27_5 : sI S5 (A 27) = sI S1 (A 27) := fn_o he5 f27_4 (ne_A hM (by decide) (by decide) (by decide))
  have f28_5 : sI S5 (A 28) = sI S1 (A 28) := fn_o he5 f28_4 (ne_A hM (by decide) (by decide) (by decide))
  have f29_5 : sI S5 (A 29) = sI S1 (A 29) := fn_o he5 f29_4 (ne_A hM (by decide) (by decide) (by decide))
  have f30_5 : sI S5 (A 30) = sI S1 (A 30) := fn_o he5 f30_4 (ne_A hM (by decide) (by decide) (by decide))
  refine e_ldA l0 (e_gR hM5.1 (hM5.2.1 11 (by decide)).1 (e_ldI l2 (e_ldI l1 (y_mA (N := 16) hM sh5 im5 (by decide) rfl rfl (show a < 16 by omega) (by decide) (by decide) (fun N e => nomatch (show (none : Option Nat) = some N from e)) (fun e => absurd e (by decide)) (fun S6 he6 sh6 im6 => ?_)))))
  have hM6 := MS_SM hM sh6
  have f7_6 : sI S6 (A 7) = sI S1 (A 7) := fn_o he6 f7_5 (ne_A hM (by decide) (by decide) (by decide))
  have f9_6 : sI S6 (A 9) = sI S1 (A 9) := fn_o he6 f9_5 (ne_A hM (by decide) (by decide) (by decide))
  have f11_6 : sI S6 (A 11) = upd (sI S1 (A 11)) a (nI c) := fn_s he6 f11_5
  have f22_6 : sI S6 (A 22) = upd (upd (sI S1 (A 22)) (2 * c) (nI a)) (2 * c + 1) (nI b) := fn_o he6 f22_5 (ne_A hM (by decide) (by decide) (by decide))
  have f23_6 : sI S6 (A 23) = upd (sI S1 (A 23)) c (nI d) := fn_o he6 f23_5 (ne_A hM (by decide) (by decide) (by decide))
  have f24_6 : sI S6 (A 24) = upd (sI S1 (A 24)) c (nI 1) := fn_o he6 f24_5 (ne_A hM (by decide) (by decide) (by decide))
  have f25_6 : sI S6 (A 25) = sI S1 (A 25) := fn_o he6 f25_5 (ne_A hM (by decide) (by decide) (by decide))
  have f27_6 : sI S6 (A 27) = sI S1 (A 27) := fn_o he6 f27_5 (ne_A hM (by decide) (by decide) (by decide))
  have f28_6 : sI S6 (A 28) = sI S1 (A 28) := fn_o he6 f28_5 (ne_A hM (by decide) (by decide) (by decide))
  have f29_6 : sI S6 (A 29) = sI S1 (A 29) := fn_o he6 f29_5 (ne_A hM (by decide) (by decide) (by decide))
  have f30_6 : sI S6 (A 30) = sI S1 (A 30) := fn_o he6 f30_5 (ne_A hM (by decide) (by decide) (by decide))
  refine e_ldA l0 (e_gR hM6.1 (hM6.2.1 11 (by decide)).1 (e_cN 8 rfl (e_ldI l3 (e_add (e_ldI l1 (y_mA (N := 16) hM sh6 im6 (by decide) rfl rfl (show 8 + b < 16 by omega) (by decide) (by decide) (fun N e => nomatch (show (none : Option Nat) = some N from e)) (fun e => absurd e (by decide)) (fun S7 he7 sh7 im7 => ?_)))))))
  have hM7 := MS_SM hM sh7
  have f7_7 : sI S7 (A 7) = sI S1 (A 7) := fn_o he7 f7_6 (ne_A hM (by decide) (by decide) (by decide))
  have f9_7 : sI S7 (A 9) = sI S1 (A 9) := fn_o he7 f9_6 (ne_A hM (by decide) (by decide) (by decide))
  have f11_7 : sI S7 (A 11) = upd (upd (sI S1 (A 11)) a (nI c)) (8 + b) (nI c) := fn_s he7 f11_6
  have f22_7 : sI S7 (A 22) = upd (upd (sI S1 (A 22)) (2 * c) (nI a)) (2 * c + 1) (nI b) := fn_o he7 f22_6 (ne_A hM (by decide) (by decide) (by decide))
  have f23_7 : sI S7 (A 23) = upd (sI S1 (A 23)) c (nI d) := fn_o he7 f23_6 (ne_A hM (by decide) (by decide) (by decide))
  have f24_7 : sI S7 (A 24) = upd (sI S1 (A 24)) c (nI 1) := fn_o he7 f24_6 (ne_A hM (by decide) (by decide) (by decide))
  have f25_7 : sI S7 (A 25) = sI S1 (A 25) := fn_o he7 f25_6 (ne_A hM (by decide) (by decide) (by decide))
  have f27_7 : sI S7 (A 27) = sI S1 (A 27) := fn_o he7 f27_6 (ne_A hM (by decide) (by decide) (by decide))
  have f28_7 : sI S7 (A 28) = sI S1 (A 28) := fn_o he7 f28_6 (ne_A hM (by decide) (by decide) (by decide))
  have f29_7 : sI S7 (A 29) = sI S1 (A 29) := fn_o he7 f29_6 (ne_A hM (by decide) (by decide) (by decide))
  have f30_7 : sI S7 (A 30) = sI S1 (A 30) := fn_o he7 f30_6 (ne_A hM (by decide) (by decide) (by decide))
  have r7 : RV S7 A := by
    unfold RV
    rw [f7_7, f9_7, f11_7, f22_7, f23_7, f24_7, f25_7]
    have q := RI_plug j2 hc hP ha hb ea eb hd hd2
    rw [Nat.mul_zero, Nat.zero_add, Nat.mul_one] at q
    exact q
  have t7 : TL S7 A k = TL S1 A k := TL_c (fun j _ => by unfold th; rw [f27_7, f28_7, f29_7, f30_7])
  have P7 : sI S7 (A 24) c ≠ 0 := by rw [f24_7, pk_us]; decide
  have m32 : sI S7 m 32 = nI k := (sh7.2.2.2.2.2 32 (by decide)).trans j3
  refine e_ldA l0 (e_ldI l1 (And.intro hM7.1 (And.intro ⟨by decide, by decide⟩ (z_f_isUp hM7 im7 hc (fun S8 p0 p1 hp0 hp1 e0 e1 s8 im8 a25 a7 a9 => ?_)))))
  have hM8 := MS_SM hM7 s8
  have r8 : RV S8 A := by
    unfold RV
    rw [a7, a9, SM_a s8 hM7 (k := 11) (by decide) (by decide), SM_a s8 hM7 (k := 22) (by decide) (by decide), SM_a s8 hM7 (k := 23) (by decide) (by decide), SM_a s8 hM7 (k := 24) (by decide) (by decide), a25]
    exact RI_up r7 hc P7 hp0 hp1 e0 e1
  have t8 : TL S8 A k = TL S1 A k := (TL_c (fun j _ => th_SM s8 hM7 (by decide) j)).trans t7
  have ut : UT S8 A k := fun q hq => by
    rw [t8] at hq
    obtain ⟨w, d1, d2, d3⟩ := j5 q hq
    refine ⟨w, d1, d2, ?_⟩
    rw [a25, f25_7]
    by_cases hz : w = c
    · rw [hz, pk_us]; decide
    · rw [pk_un hz]; exact d3
  have iv8 : IV S8 m A k := ⟨im8, r8, (s8.2.2.2.2.2 32 (by decide)).trans m32, j4, ut⟩
  refine e_ldA l0 (And.intro hM8.1 (And.intro ⟨by decide, by decide⟩ (z_X8_isNotQuiet hM8 im8 (fun S9 s9 im9 => ?_))))
  obtain ⟨iv9, t9⟩ := IV_SM iv8 hM8 s9 im9 (by decide)
  exact e_rV (K S9 k g hk (SM.tr (SM.tr (SM.tr shW sh7 (by decide)) s8 (by decide)) s9 (by decide)) iv9 (t9.trans (t8.trans hT)))
