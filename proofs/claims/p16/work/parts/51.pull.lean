def IV (S : MM) (m : Nat) (A : Nat → Nat) (n : Nat) : Prop := IM S m A ∧ RV S A ∧ sI S m 32 = nI n ∧ n < 4001 ∧ UT S A n
theorem IV_SM {W : List Nat} {S S' : MM} {m n : Nat} {A : Nat → Nat} (h : IV S m A n) (hM : MS S m A) (e : SM W m A S S') (im : IM S' m A) (hw : ∀ k ∈ [7, 9, 11, 22, 23, 24, 25, 27, 28, 29, 30, 32], k ∉ W) : IV S' m A n ∧ TL S' A n = TL S A n := by
  obtain ⟨h1, h2, h3, h4, h5⟩ := h
  have t : TL S' A n = TL S A n := TL_c (fun j _ => th_SM e hM ⟨hw 27 (by decide), hw 28 (by decide), hw 29 (by decide), hw 30 (by decide)⟩ j)
  refine ⟨⟨im, RV_SM h2 hM e (fun k hk => hw k (by
    simp only [List.mem_cons, List.not_mem_nil, or_false] at hk ⊢
    omega)), (e.2.2.2.2.2 32 (hw 32 (by decide))).trans h3, h4, ?_⟩, t⟩
  unfold UT at h5 ⊢
  rw [t, SM_a e hM (k := 25) (by decide) (hw 25 (by decide))]
  exact h5
theorem all_true {α : Type} (l : List α) : l = l.filter (fun _ => true) := (List.filter_eq_self.mpr (fun _ _ => rfl)).symm
theorem u_X8_pull_0 {Q : Option Value → MM → Prop} {n : Nat} {lv : Lv} {st : List Value} {S : MM} {c z : Nat} (h : bX8_pull_0 Q (wpn (kX8_pull Q) n) lv st S c z) : wpn (kX8_pull Q) (n + 1) 0 lv st S c z := h
theorem u_X8_pull_12 {Q : Option Value → MM → Prop} {n : Nat} {lv : Lv} {st : List Value} {S : MM} {c z : Nat} (h : bX8_pull_12 Q (wpn (kX8_pull Q) n) lv st S c z) : wpn (kX8_pull Q) (n + 1) 12 lv st S c z := h
theorem u_X8_pull_25 {Q : Option Value → MM → Prop} {n : Nat} {lv : Lv} {st : List Value} {S : MM} {c z : Nat} (h : bX8_pull_25 Q (wpn (kX8_pull Q) n) lv st S c z) : wpn (kX8_pull Q) (n + 1) 25 lv st S c z := h
theorem u_X8_pull_26 {Q : Option Value → MM → Prop} {n : Nat} {lv : Lv} {st : List Value} {S : MM} {c z : Nat} (h : bX8_pull_26 Q (wpn (kX8_pull Q) n) lv st S c z) : wpn (kX8_pull Q) (n + 1) 26 lv st S c z := h
theorem u_X8_pull_37 {Q : Option Value → MM → Prop} {n : Nat} {lv : Lv} {st : List Value} {S : MM} {c z : Nat} (h : bX8_pull_37 Q (wpn (kX8_pull Q) n) lv st S c z) : wpn (kX8_pull Q) (n + 1) 37 lv st S c z := h
def WP : List Nat := [0, 7, 8, 9, 11, 12, 13, 14, 18, 21, 22, 23, 24, 25, 27, 28, 29, 30, 31, 32, 40, 44, 46]
theorem q_pull_bad {Q : Option Value → MM → Prop} {S0 : MM} {f m n : Nat} {A : Nat → Nat} {lv : Lv} {v : Int32} (hM : MS S0 m A) (hI : IV S0 m A n) (hv : ¬ v ≤ 0) (l0 : lvg lv 0 = some (.ref m)) (K : ∀ S' k g, k ≤ n → SM WP m A S0 S' → IV S' m A k → TL S' A k = (TL S0 A n).filter g → Q none S') : wpn (kX8_pull Q) (f + 1) 26 lv [.int v, .ref m] S0 0 0 := by
  refine u_X8_pull_26 ?_
  unfold bX8_pull_26
  refine y_mI (W := [0]) hM SM.rf hI.1 (by decide) (fun N e => nomatch (show (none : Option Nat) = some N from e)) (fun S1 he sh im1 => ?_)
  obtain ⟨h1, h2⟩ := IV_SM hI hM sh im1 (by decide)
  exact e_ldA l0 (e_gV (v := v) (SM_k sh hM.1) (by rw [he]; exact rd_s) ⟨fun z => absurd z hv, fun _ => e_rV (K S1 n _ (Nat.le_refl _) (SM.tr SM.rf sh (by decide)) h1 (h2.trans (all_true _)))⟩)
theorem z_f_pull {Q : Option Value → MM → Prop} {S0 : MM} {m n : Nat} {A : Nat → Nat} {v : Int32} (hM : MS S0 m A) (hI : IV S0 m A n) (K : ∀ S' k g, k ≤ n → SM WP m A S0 S' → IV S' m A k → TL S' A k = (TL S0 A n).filter g → Q none S') : wX8_pull [.ref m, .int v] S0 Q := by
  refine Exists.intro 6 (u_X8_pull_0 ?_)
  unfold bX8_pull_0
  refine e_ldA rfl (e_ldI rfl (And.intro ⟨by decide, by decide⟩ (z_MisCable' (fun h => e_ifN (by decide) (fun _ => e_cI (q_pull_bad (f := 4) hM hI (by decide) rfl K)) (fun q => absurd rfl q)) (fun c hc ec => e_ifN (by decide) (fun q => absurd q (by decide)) (fun _ => u_X8_pull_12 ?_)))))
  subst ec
  unfold bX8_pull_12
  refine e_ldA rfl (e_gR hM.1 (hM.2.1 24 (by decide)).1 (e_ldI rfl (e_aI (N := 8) (kdA hM (by decide) rfl) (lnA hM (by decide) rfl) hc (by decide) (fun p hp => e_if0 (fun h0 => e_cI (q_pull_bad (f := 3) hM hI (by decide) rfl K)) (fun h0 => u_X8_pull_25 ?_)))))
  unfold bX8_pull_25
  refine e_cI (u_X8_pull_26 ?_)
  unfold bX8_pull_26
  refine y_mI (W := [0]) hM SM.rf hI.1 (by decide) (fun N e => nomatch (show (none : Option Nat) = some N from e)) (fun S1 he sh im1 => ?_)
  obtain ⟨⟨j1, j2, j3, j4, j5⟩, h2⟩ := IV_SM hI hM sh im1 (by decide)
  have hM1 := MS_SM hM sh
  refine e_ldA rfl (e_gV (v := 0) (SM_k sh hM.1) (by rw [he]; exact rd_s) ⟨fun _ => u_X8_pull_37 ?_, fun z => absurd (by decide) z⟩)
  unfold bX8_pull_37
  refine e_ldA rfl (e_ldI rfl (And.intro hM1.1 (And.intro ⟨by decide, by decide⟩ (z_f_isPulled hM1 j1 hc j4 j3 j2 (by rw [SM_a sh hM (k := 24) (by decide) (by decide), hp]; exact h0) (fun S2 k hk s2 im2 r2 k32 kT a24 a25 u25 a11 => ?_)))))
  have hM2 := MS_SM hM1 s2
  obtain ⟨ut, -⟩ := UT_filter hc j5 kT a25
  have iv2 : IV S2 m A k := ⟨im2, r2, k32, by omega, ut⟩
  refine e_ldA rfl (And.intro hM2.1 (And.intro ⟨by decide, by decide⟩ (z_X8_isNotQuiet hM2 im2 (fun S3 s3 im3 => ?_))))
  obtain ⟨iv3, t3⟩ := IV_SM iv2 hM2 s3 im3 (by decide)
  have fl : ∃ g, TL S2 A k = (TL S1 A n).filter g := by
    rcases kT with ⟨q, -⟩ | q
    · exact ⟨_, q.trans (all_true _)⟩
    · exact ⟨_, q⟩
  obtain ⟨g, eg⟩ := fl
  exact e_rV (K S3 k g hk (SM.tr (SM.tr (SM.tr SM.rf sh (by decide)) s2 (by decide)) s3 (by decide)) iv3 (t3.trans (eg.trans (by rw [h2]))))
