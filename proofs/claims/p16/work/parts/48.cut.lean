theorem RI_plug {V G I Po D P U : Nat → Int32} {c a b d : Nat} (h : RI V G I Po D P U) (hc : c < 8) (hP : P c = 0) (ha : a < 8) (hb : b < 8) (ea : I (8 * 0 + a) = -1) (eb : I (8 * 1 + b) = -1) (hd : 1 ≤ d) (hd2 : d ≤ 8) : RI V G (upd (upd I (8 * 0 + a) (nI c)) (8 * 1 + b) (nI c)) (upd (upd Po (2 * c) (nI a)) (2 * c + 1) (nI b)) (upd D c (nI d)) (upd P c (nI 1)) U := by
  obtain ⟨i1, i2, i3, i4, i5⟩ := h
  have Po0 : upd (upd Po (2 * c) (nI a)) (2 * c + 1) (nI b) (2 * c + 0) = nI a := by rw [pk_un (by omega)]; exact pk_us
  have Po1 : upd (upd Po (2 * c) (nI a)) (2 * c + 1) (nI b) (2 * c + 1) = nI b := pk_us
  have Pon : ∀ c' e, c' ≠ c → e < 2 → upd (upd Po (2 * c) (nI a)) (2 * c + 1) (nI b) (2 * c' + e) = Po (2 * c' + e) := fun c' e hn he => by rw [pk_un (by omega), pk_un (by omega)]
  have free : ∀ e p, 8 * e + p = 8 * 0 + a ∨ 8 * e + p = 8 * 1 + b → I (8 * e + p) = -1 := fun e p hx => by
    rcases hx with q | q
    · rw [q]; exact ea
    · rw [q]; exact eb
  refine ⟨fun c' hc' hu => ?_, fun c' e p hc' he hp hp' hpo => ?_, fun c' hc' hp' => ?_, fun e p he hp => ?_, fun e p he hp hbz => ?_⟩
  · by_cases hz : c' = c
    · rw [hz, pk_us]; decide
    · rw [pk_un hz]; exact i1 c' hc' hu
  · by_cases hz : c' = c
    · subst hz
      have he2 : e = 0 ∨ e = 1 := by omega
      rcases he2 with rfl | rfl
      · rw [Po0] at hpo
        have : a = p := nI_inj (by omega) (by omega) hpo
        subst this
        exact upd2_in (Or.inl rfl)
      · rw [Po1] at hpo
        have : b = p := nI_inj (by omega) (by omega) hpo
        subst this
        exact upd2_in (Or.inr rfl)
    · rw [Pon c' e hz he] at hpo
      rw [pk_un hz] at hp'
      have q := i2 c' e p hc' he hp hp' hpo
      have hx : ¬ (8 * e + p = 8 * 0 + a ∨ 8 * e + p = 8 * 1 + b) := fun z => nI_m1 (by omega) (q.symm.trans (free e p z))
      rw [upd2 (fun z => hx (Or.inl z)) (fun z => hx (Or.inr z))]
      exact q
  · by_cases hz : c' = c
    · exact ⟨d, hd, hd2, by rw [hz, pk_us]⟩
    · rw [pk_un hz] at hp' ⊢
      exact i3 c' hc' hp'
  · by_cases hx : 8 * e + p = 8 * 0 + a ∨ 8 * e + p = 8 * 1 + b
    · refine Or.inr ⟨c, hc, upd2_in hx, by rw [pk_us]; decide, ?_⟩
      rcases hx with q | q
      · have a1 : e = 0 := by omega
        have a2 : p = a := by omega
        subst a1 a2
        exact Po0
      · have a1 : e = 1 := by omega
        have a2 : p = b := by omega
        subst a1 a2
        exact Po1
    · rw [upd2 (fun z => hx (Or.inl z)) (fun z => hx (Or.inr z))]
      rcases i4 e p he hp with q | ⟨c2, q1, q2, q3, q4⟩
      · exact Or.inl q
      · have nc : c2 ≠ c := fun z => q3 (by rw [z]; exact hP)
        exact Or.inr ⟨c2, q1, q2, by rw [pk_un nc]; exact q3, by rw [Pon c2 e nc he]; exact q4⟩
  · obtain ⟨c', hc', q1, q2⟩ := i5 e p he hp hbz
    have hx : ¬ (8 * e + p = 8 * 0 + a ∨ 8 * e + p = 8 * 1 + b) := fun z => nI_m1 (by omega) (q1.symm.trans (free e p z))
    rw [upd2 (fun z => hx (Or.inl z)) (fun z => hx (Or.inr z))]
    exact ⟨c', hc', q1, q2⟩
theorem u_X8_isCut_0 {Q : Option Value → MM → Prop} {n : Nat} {lv : Lv} {st : List Value} {S : MM} {c z : Nat} (h : bX8_isCut_0 Q (wpn (kX8_isCut Q) n) lv st S c z) : wpn (kX8_isCut Q) (n + 1) 0 lv st S c z := h
theorem z_f_isCut {Q : Option Value → MM → Prop} {S0 : MM} {m c n : Nat} {A : Nat → Nat} (hM : MS S0 m A) (im : IM S0 m A) (hc : c < 8) (hn : n < 4001) (e32 : sI S0 m 32 = nI n) (K : ∀ S' k p0 p1, k ≤ n → p0 < 8 → p1 < 8 → sI S0 (A 22) (2 * c + 0) = nI p0 → sI S0 (A 22) (2 * c + 1) = nI p1 → SM [7, 8, 9, 12, 13, 14, 18, 21, 25, 27, 28, 29, 30, 31, 32, 40, 46] m A S0 S' → IM S' m A → sI S' m 32 = nI k → TL S' A k = (TL S0 A n).filter (pC c) → sI S' (A 25) = upd (sI S0 (A 25)) c (nI 0) → sI S' (A 7) = upd (upd (sI S0 (A 7)) (8 * 0 + p0) (nI 0)) (8 * 1 + p1) (nI 0) → sI S' (A 9) = upd (upd (sI S0 (A 9)) (8 * 0 + p0) (nI 0)) (8 * 1 + p1) (nI 0) → Q none S') : wX8_isCut [.ref m, .int (nI c)] S0 Q := by
  refine Exists.intro 1 (u_X8_isCut_0 ?_)
  unfold bX8_isCut_0
  refine e_ldA rfl (e_ldI rfl (And.intro hM.1 (And.intro ⟨by decide, by decide⟩ (z_f_empties hM im hc hn e32 (fun S1 k hk s1 im1 k32 kT => ?_)))))
  have sh1 : SM [7, 8, 9, 12, 13, 14, 18, 21, 25, 27, 28, 29, 30, 31, 32, 40, 46] m A S0 S1 := SM.tr SM.rf s1 (by decide)
  have hM1 := MS_SM hM sh1
  have a25 : sI S1 (A 25) = sI S0 (A 25) := SM_a s1 hM (by decide) (by decide)
  have a22 : sI S1 (A 22) = sI S0 (A 22) := SM_a s1 hM (by decide) (by decide)
  have a7 : sI S1 (A 7) = sI S0 (A 7) := SM_a s1 hM (by decide) (by decide)
  have a9 : sI S1 (A 9) = sI S0 (A 9) := SM_a s1 hM (by decide) (by decide)
  refine e_ldA rfl (e_gR hM1.1 (hM1.2.1 25 (by decide)).1 (e_ldI rfl (e_cN 0 rfl (y_mB (N := 8) hM sh1 im1 (by decide) rfl rfl (by omega) (by decide) (by decide) (by decide) (fun N e => nomatch (show (none : Option Nat) = some N from e)) (fun e => absurd e (by decide)) (fun S2 h2 sh2 im2 => ?_)))))
  have hM2 := MS_SM hM sh2
  have b25 : sI S2 (A 25) = upd (sI S0 (A 25)) c (nI 0) := fn_s h2 a25
  have b22 : sI S2 (A 22) = sI S0 (A 22) := fn_o h2 a22 (ne_A hM (by decide) (by decide) (by decide))
  have b7 : sI S2 (A 7) = sI S0 (A 7) := fn_o h2 a7 (ne_A hM (by decide) (by decide) (by decide))
  have b9 : sI S2 (A 9) = sI S0 (A 9) := fn_o h2 a9 (ne_A hM (by decide) (by decide) (by decide))
  have b32 : sI S2 m 32 = nI k := by rw [h2]; exact rd_a k32 (Ne.symm (ne_m hM (by decide)))
  have bT : TL S2 A k = (TL S0 A n).filter (pC c) := by
    rw [← kT]
    refine TL_c (fun j _ => ?_)
    unfold th
    rw [fn_o (a := A 27) h2 rfl (ne_A hM (by decide) (by decide) (by decide)), fn_o (a := A 28) h2 rfl (ne_A hM (by decide) (by decide) (by decide)), fn_o (a := A 29) h2 rfl (ne_A hM (by decide) (by decide) (by decide)), fn_o (a := A 30) h2 rfl (ne_A hM (by decide) (by decide) (by decide))]
  refine e_ldA rfl (e_ldA rfl (e_ldI rfl (e_cN 0 rfl (And.intro hM2.1 (And.intro ⟨by decide, by decide⟩ (z_f_portAt hM2 im2 hc (by decide) (fun p0 hp0 e0 => And.intro hM2.1 (And.intro ⟨by decide, by decide⟩ (z_f_isDarkNow hM2 im2 (show 8 * 0 + p0 < 16 by omega) (fun S3 s3 im3 c7 c9 => ?_))))))))))
  have sh3 := SM.tr sh2 s3 (by decide)
  have hM3 := MS_SM hM sh3
  have d22 : sI S3 (A 22) = sI S0 (A 22) := (SM_a s3 hM2 (by decide) (by decide)).trans b22
  refine e_ldA rfl (e_ldA rfl (e_ldI rfl (e_cN 1 rfl (And.intro hM3.1 (And.intro ⟨by decide, by decide⟩ (z_f_portAt hM3 im3 hc (by decide) (fun p1 hp1 e1 => And.intro hM3.1 (And.intro ⟨by decide, by decide⟩ (z_f_isDarkNow hM3 im3 (show 8 * 1 + p1 < 16 by omega) (fun S4 s4 im4 d7 d9 => ?_))))))))))
  exact e_rV (K S4 k p0 p1 hk hp0 hp1 (by rw [← b22]; exact e0) (by rw [← d22]; exact e1) (SM.tr sh3 s4 (by decide)) im4 ((s4.2.2.2.2.2 32 (by decide)).trans ((s3.2.2.2.2.2 32 (by decide)).trans b32)) ((TL_c (fun j _ => (th_SM s4 hM3 (by decide) j).trans (th_SM s3 hM2 (by decide) j))).trans bT) ((SM_a s4 hM3 (by decide) (by decide)).trans ((SM_a s3 hM2 (by decide) (by decide)).trans b25)) (by rw [d7, c7, b7]) (by rw [d9, c9, b9]))
