theorem u_X8_light_0 {Q : Option Value → MM → Prop} {n : Nat} {lv : Lv} {st : List Value} {S : MM} {c z : Nat} (h : bX8_light_0 Q (wpn (kX8_light Q) n) lv st S c z) : wpn (kX8_light Q) (n + 1) 0 lv st S c z := h
theorem u_X8_light_12 {Q : Option Value → MM → Prop} {n : Nat} {lv : Lv} {st : List Value} {S : MM} {c z : Nat} (h : bX8_light_12 Q (wpn (kX8_light Q) n) lv st S c z) : wpn (kX8_light Q) (n + 1) 12 lv st S c z := h
theorem u_X8_light_31 {Q : Option Value → MM → Prop} {n : Nat} {lv : Lv} {st : List Value} {S : MM} {c z : Nat} (h : bX8_light_31 Q (wpn (kX8_light Q) n) lv st S c z) : wpn (kX8_light Q) (n + 1) 31 lv st S c z := h
theorem u_X8_light_35 {Q : Option Value → MM → Prop} {n : Nat} {lv : Lv} {st : List Value} {S : MM} {c z : Nat} (h : bX8_light_35 Q (wpn (kX8_light Q) n) lv st S c z) : wpn (kX8_light Q) (n + 1) 35 lv st S c z := h
theorem u_X8_light_36 {Q : Option Value → MM → Prop} {n : Nat} {lv : Lv} {st : List Value} {S : MM} {c z : Nat} (h : bX8_light_36 Q (wpn (kX8_light Q) n) lv st S c z) : wpn (kX8_light Q) (n + 1) 36 lv st S c z := h
theorem u_X8_light_47 {Q : Option Value → MM → Prop} {n : Nat} {lv : Lv} {st : List Value} {S : MM} {c z : Nat} (h : bX8_light_47 Q (wpn (kX8_light Q) n) lv st S c z) : wpn (kX8_light Q) (n + 1) 47 lv st S c z := h
theorem u_X8_light_59 {Q : Option Value → MM → Prop} {n : Nat} {lv : Lv} {st : List Value} {S : MM} {c z : Nat} (h : bX8_light_59 Q (wpn (kX8_light Q) n) lv st S c z) : wpn (kX8_light Q) (n + 1) 59 lv st S c z := h
theorem u_X8_light_64 {Q : Option Value → MM → Prop} {n : Nat} {lv : Lv} {st : List Value} {S : MM} {c z : Nat} (h : bX8_light_64 Q (wpn (kX8_light Q) n) lv st S c z) : wpn (kX8_light Q) (n + 1) 64 lv st S c z := h
theorem q_light_bad {Q : Option Value → MM → Prop} {S0 : MM} {f m n : Nat} {A : Nat → Nat} {lv : Lv} {v : Int32} (hM : MS S0 m A) (hI : IV S0 m A n) (hv : ¬ v ≤ 0) (l0 : lvg lv 0 = some (.ref m)) (K : ∀ S' k g, k ≤ n → SM WP m A S0 S' → IV S' m A k → TL S' A k = (TL S0 A n).filter g → Q none S') : wpn (kX8_light Q) (f + 1) 36 lv [.int v, .ref m] S0 0 0 := by
  refine u_X8_light_36 ?_
  unfold bX8_light_36
  refine y_mI (W := [0]) hM SM.rf hI.1 (by decide) (fun N e => nomatch (show (none : Option Nat) = some N from e)) (fun S1 he sh im1 => ?_)
  obtain ⟨h1, h2⟩ := IV_SM hI hM sh im1 (by decide)
  exact e_ldA l0 (e_gV (v := v) (SM_k sh hM.1) (by rw [he]; exact rd_s) ⟨fun z => absurd z hv, fun _ => e_rV (K S1 n _ (Nat.le_refl _) (SM.tr SM.rf sh (by decide)) h1 (h2.trans (all_true _)))⟩)
theorem q_light64 {Q : Option Value → MM → Prop} {S0 S : MM} {f m n k : Nat} {A : Nat → Nat} {lv : Lv} {g : Int32 × Int32 × Int32 × Int32 → Bool} (hM : MS S0 m A) (sh : SM WP m A S0 S) (hI : IV S m A k) (hk : k ≤ n) (hT : TL S A k = (TL S0 A n).filter g) (l0 : lvg lv 0 = some (.ref m)) (K : ∀ S' k g, k ≤ n → SM WP m A S0 S' → IV S' m A k → TL S' A k = (TL S0 A n).filter g → Q none S') : wpn (kX8_light Q) (f + 1) 64 lv [] S 0 0 := by
  have hM2 := MS_SM hM sh
  refine u_X8_light_64 ?_
  unfold bX8_light_64
  refine e_ldA l0 (And.intro hM2.1 (And.intro ⟨by decide, by decide⟩ (z_X8_isNotQuiet hM2 hI.1 (fun S3 s3 im3 => ?_))))
  obtain ⟨iv3, t3⟩ := IV_SM hI hM2 s3 im3 (by decide)
  exact e_rV (K S3 k g hk (SM.tr sh s3 (by decide)) iv3 (t3.trans hT))
theorem z_f_light {Q : Option Value → MM → Prop} {S0 : MM} {m n b : Nat} {A : Nat → Nat} {v : Int32} (hM : MS S0 m A) (hI : IV S0 m A n) (hb : b < 2) (K : ∀ S' k g, k ≤ n → SM WP m A S0 S' → IV S' m A k → TL S' A k = (TL S0 A n).filter g → Q none S') : wX8_light [.ref m, .int v, .int (nI b)] S0 Q := by
  refine Exists.intro 8 (u_X8_light_0 ?_)
  unfold bX8_light_0
  refine e_ldA rfl (e_ldI rfl (And.intro ⟨by decide, by decide⟩ (z_MisCable' (fun h => e_ifN (by decide) (fun _ => e_cI (q_light_bad (f := 6) hM hI (by decide) rfl K)) (fun q => absurd rfl q)) (fun c hc ec => e_ifN (by decide) (fun q => absurd q (by decide)) (fun _ => u_X8_light_12 ?_)))))
  subst ec
  have bad : wpn (kX8_light Q) 6 31 (lv_args 0 [.ref m, .int (nI c), .int (nI b)]) [.ref m] S0 0 0 := by
    refine u_X8_light_31 ?_
    unfold bX8_light_31
    exact e_cI (q_light_bad (f := 4) hM hI (by decide) rfl K)
  unfold bX8_light_12
  refine e_ldA rfl (e_gR hM.1 (hM.2.1 24 (by decide)).1 (e_ldI rfl (e_aI (N := 8) (kdA hM (by decide) rfl) (lnA hM (by decide) rfl) hc (by decide) (fun p hp => e_if0 (fun h0 => bad) (fun h0 => ?_)))))
  refine e_ldA rfl (e_gR hM.1 (hM.2.1 25 (by decide)).1 (e_ldI rfl (e_aI (N := 8) (kdA hM (by decide) rfl) (lnA hM (by decide) rfl) hc (by decide) (fun u hu => e_ldI rfl (e_ifc bad (u_X8_light_35 ?_))))))
  unfold bX8_light_35
  refine e_cI (u_X8_light_36 ?_)
  unfold bX8_light_36
  refine y_mI (W := [0]) hM SM.rf hI.1 (by decide) (fun N e => nomatch (show (none : Option Nat) = some N from e)) (fun S1 he sh im1 => ?_)
  obtain ⟨⟨j1, j2, j3, j4, j5⟩, h2⟩ := IV_SM hI hM sh im1 (by decide)
  have hM1 := MS_SM hM sh
  have P1 : sI S1 (A 24) c ≠ 0 := by rw [SM_a sh hM (k := 24) (by decide) (by decide), hp]; exact h0
  have shW : SM WP m A S0 S1 := SM.tr SM.rf sh (by decide)
  refine e_ldA rfl (e_gV (v := 0) (SM_k sh hM.1) (by rw [he]; exact rd_s) ⟨fun _ => u_X8_light_47 ?_, fun z => absurd (by decide) z⟩)
  unfold bX8_light_47
  refine e_ldI rfl (e_ifN (by omega) (fun _ => u_X8_light_59 ?_) (fun _ => ?_))
  · unfold bX8_light_59
    refine e_ldA rfl (e_ldI rfl (And.intro hM1.1 (And.intro ⟨by decide, by decide⟩ (z_f_isCut hM1 j1 hc j4 j3 (fun S2 k p0 p1 hk hp0 hp1 e0 e1 s2 im2 k32 kT a25 a7 a9 => ?_)))))
    have r2 : RV S2 A := by
      unfold RV
      rw [a7, a9, SM_a s2 hM1 (k := 11) (by decide) (by decide), SM_a s2 hM1 (k := 22) (by decide) (by decide), SM_a s2 hM1 (k := 23) (by decide) (by decide), SM_a s2 hM1 (k := 24) (by decide) (by decide), a25]
      exact RI_cut j2 hc hp0 hp1 e0 e1
    obtain ⟨ut, -⟩ := UT_filter hc j5 (Or.inr kT) (fun d hd => by rw [a25, pk_un hd])
    exact q_light64 (f := 1) hM (SM.tr shW s2 (by decide)) ⟨im2, r2, k32, by omega, ut⟩ hk (kT.trans (by rw [h2])) rfl K
  · refine e_ldA rfl (e_ldI rfl (And.intro hM1.1 (And.intro ⟨by decide, by decide⟩ (z_f_isUp hM1 j1 hc (fun S2 p0 p1 hp0 hp1 e0 e1 s2 im2 a25 a7 a9 => ?_)))))
    have r2 : RV S2 A := by
      unfold RV
      rw [a7, a9, SM_a s2 hM1 (k := 11) (by decide) (by decide), SM_a s2 hM1 (k := 22) (by decide) (by decide), SM_a s2 hM1 (k := 23) (by decide) (by decide), SM_a s2 hM1 (k := 24) (by decide) (by decide), a25]
      exact RI_up j2 hc P1 hp0 hp1 e0 e1
    have t2 : TL S2 A n = TL S1 A n := TL_c (fun j _ => th_SM s2 hM1 (by decide) j)
    have ut : UT S2 A n := fun q hq => by
      rw [t2] at hq
      obtain ⟨d, d1, d2, d3⟩ := j5 q hq
      refine ⟨d, d1, d2, ?_⟩
      rw [a25]
      by_cases hz : d = c
      · rw [hz, pk_us]; decide
      · rw [pk_un hz]; exact d3
    exact q_light64 (f := 2) hM (SM.tr shW s2 (by decide)) ⟨im2, r2, (s2.2.2.2.2.2 32 (by decide)).trans j3, j4, ut⟩ (Nat.le_refl _) ((t2.trans h2).trans (all_true _)) rfl K
