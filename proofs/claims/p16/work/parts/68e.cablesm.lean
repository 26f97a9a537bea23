/-! PULL, LIGHT, PLUG OF THE REFERENCE, exactly -/
theorem x_ip14 {Q : Option Value → MM → Prop} {S0 : MM} {f m c : Nat} {A : Nat → Nat} {lv : Lv} (hM : MS S0 m A) (im : IM S0 m A) (hc : c < 8) (hR : RV S0 A) (hP : sI S0 (A 24) c ≠ 0) (hU : sI S0 (A 25) c = 0) (l0 : lvg lv 0 = some (.ref m)) (l1 : lvg lv 1 = some (.int (nI c))) (K : ∀ S', SM [11, 24] m A S0 S' → IM S' m A → RV S' A → sI S' (A 24) = upd (sI S0 (A 24)) c (nI 0) → (∃ p0 p1, p0 < 8 ∧ p1 < 8 ∧ sI S0 (A 22) (2 * c + 0) = nI p0 ∧ sI S0 (A 22) (2 * c + 1) = nI p1 ∧ sI S' (A 11) = upd (upd (sI S0 (A 11)) (8 * 0 + p0) (-1)) (8 * 1 + p1) (-1)) → Q none S') : wpn (kX8_isPulled Q) (f + 1) 14 lv [] S0 0 0 := by
  refine u_X8_isPulled_14 ?_
  unfold bX8_isPulled_14
  refine e_ldA l0 (e_gR hM.1 (hM.2.1 11 (by decide)).1 (e_ldA l0 (e_ldI l1 (e_cN 0 rfl (And.intro hM.1 (And.intro ⟨by decide, by decide⟩ (z_f_portAt hM im hc (by decide) (fun p0 hp0 e0 => e_cI (y_mA (N := 16) (W := [11, 24]) hM SM.rf im (by decide) rfl rfl (show 8 * 0 + p0 < 16 by omega) (by decide) (by decide) (fun N e => nomatch (show (none : Option Nat) = some N from e)) (fun e => absurd e (by decide)) (fun S1 h1 sh1 im1 => ?_))))))))))
  have hM1 := MS_SM hM sh1
  have o1 : ∀ k ∈ [7, 9, 22, 23, 24, 25], sI S1 (A k) = sI S0 (A k) := fun k hk => fn_o h1 rfl (ne_A hM (by
    simp only [List.mem_cons, List.not_mem_nil, or_false] at hk
    rcases hk with rfl | rfl | rfl | rfl | rfl | rfl <;> decide) (by decide) (by
    simp only [List.mem_cons, List.not_mem_nil, or_false] at hk
    rcases hk with rfl | rfl | rfl | rfl | rfl | rfl <;> decide))
  have a11 : sI S1 (A 11) = upd (sI S0 (A 11)) (8 * 0 + p0) (-1) := fn_s h1 rfl
  refine e_ldA l0 (e_gR hM1.1 (hM1.2.1 11 (by decide)).1 (e_ldA l0 (e_ldI l1 (e_cN 1 rfl (And.intro hM1.1 (And.intro ⟨by decide, by decide⟩ (z_f_portAt hM1 im1 hc (by decide) (fun p1 hp1 e1 => e_cI (y_mA (N := 16) hM sh1 im1 (by decide) rfl rfl (show 8 * 1 + p1 < 16 by omega) (by decide) (by decide) (fun N e => nomatch (show (none : Option Nat) = some N from e)) (fun e => absurd e (by decide)) (fun S2 h2 sh2 im2 => ?_))))))))))
  have hM2 := MS_SM hM sh2
  have o2 : ∀ k ∈ [7, 9, 22, 23, 24, 25], sI S2 (A k) = sI S0 (A k) := fun k hk => (fn_o h2 (o1 k hk) (ne_A hM (by
    simp only [List.mem_cons, List.not_mem_nil, or_false] at hk
    rcases hk with rfl | rfl | rfl | rfl | rfl | rfl <;> decide) (by decide) (by
    simp only [List.mem_cons, List.not_mem_nil, or_false] at hk
    rcases hk with rfl | rfl | rfl | rfl | rfl | rfl <;> decide)))
  have b11 : sI S2 (A 11) = upd (upd (sI S0 (A 11)) (8 * 0 + p0) (-1)) (8 * 1 + p1) (-1) := fn_s h2 a11
  refine e_ldA l0 (e_gR hM2.1 (hM2.2.1 24 (by decide)).1 (e_ldI l1 (e_cN 0 rfl (y_mB (N := 8) hM sh2 im2 (by decide) rfl rfl hc (by decide) (by decide) (by decide) (fun N e => nomatch (show (none : Option Nat) = some N from e)) (fun e => absurd e (by decide)) (fun S3 h3 sh3 im3 => ?_)))))
  have o3 : ∀ k ∈ [7, 9, 22, 23, 25], sI S3 (A k) = sI S0 (A k) := fun k hk => by
    simp only [List.mem_cons, List.not_mem_nil, or_false] at hk
    rcases hk with rfl | rfl | rfl | rfl | rfl
    · exact fn_o h3 (o2 7 (by decide)) (ne_A hM (by decide) (by decide) (by decide))
    · exact fn_o h3 (o2 9 (by decide)) (ne_A hM (by decide) (by decide) (by decide))
    · exact fn_o h3 (o2 22 (by decide)) (ne_A hM (by decide) (by decide) (by decide))
    · exact fn_o h3 (o2 23 (by decide)) (ne_A hM (by decide) (by decide) (by decide))
    · exact fn_o h3 (o2 25 (by decide)) (ne_A hM (by decide) (by decide) (by decide))
  have c11 : sI S3 (A 11) = upd (upd (sI S0 (A 11)) (8 * 0 + p0) (-1)) (8 * 1 + p1) (-1) := fn_o h3 b11 (ne_A hM (by decide) (by decide) (by decide))
  have c24 : sI S3 (A 24) = upd (sI S0 (A 24)) c (nI 0) := fn_s h3 (o2 24 (by decide))
  have f1 : sI S0 (A 22) (2 * c + 1) = nI p1 := by rw [← o1 22 (by decide)]; exact e1
  refine e_rV (K S3 sh3 im3 ?_ c24 ⟨p0, p1, hp0, hp1, e0, f1, c11⟩)
  unfold RV
  rw [o3 7 (by decide), o3 9 (by decide), o3 22 (by decide), o3 23 (by decide), o3 25 (by decide), c11, c24]
  exact RI_pull hR hc hP hU hp0 hp1 e0 f1
theorem x_f_isPulled {Q : Option Value → MM → Prop} {S0 : MM} {m c n : Nat} {A : Nat → Nat} (hM : MS S0 m A) (im : IM S0 m A) (hc : c < 8) (hn : n < 4001) (e32 : sI S0 m 32 = nI n) (hR : RV S0 A) (hP : sI S0 (A 24) c ≠ 0) (K : ∀ S' k, k ≤ n → SM [7, 8, 9, 11, 12, 13, 14, 18, 21, 24, 25, 27, 28, 29, 30, 31, 32, 40, 46] m A S0 S' → IM S' m A → RV S' A → sI S' m 32 = nI k → (TL S' A k = TL S0 A n ∧ sI S0 (A 25) c = 0 ∨ TL S' A k = (TL S0 A n).filter (pC c)) → sI S' (A 24) = upd (sI S0 (A 24)) c (nI 0) → (∀ d, d ≠ c → sI S' (A 25) d = sI S0 (A 25) d) → sI S' (A 25) c = 0 → (∃ p0 p1, p0 < 8 ∧ p1 < 8 ∧ sI S0 (A 22) (2 * c + 0) = nI p0 ∧ sI S0 (A 22) (2 * c + 1) = nI p1 ∧ sI S' (A 11) = upd (upd (sI S0 (A 11)) (8 * 0 + p0) (-1)) (8 * 1 + p1) (-1)) → Q none S') : wX8_isPulled [.ref m, .int (nI c)] S0 Q := by
  refine Exists.intro 2 (u_X8_isPulled_0 ?_)
  unfold bX8_isPulled_0
  refine e_ldA rfl (e_gR hM.1 (hM.2.1 25 (by decide)).1 (e_ldI rfl (e_aI (N := 8) (kdA hM (by decide) rfl) (lnA hM (by decide) rfl) hc (by decide) (fun v hv => e_if0 (fun h0 => ?_) (fun h0 => ?_)))))
  · have hU : sI S0 (A 25) c = 0 := hv.trans h0
    refine x_ip14 (f := 0) hM im hc hR hP hU rfl rfl (fun S1 s1 im1 r1 a24 a11 => ?_)
    have a25 : sI S1 (A 25) = sI S0 (A 25) := SM_a s1 hM (by decide) (by decide)
    exact K S1 n (Nat.le_refl _) (SM.tr SM.rf s1 (by decide)) im1 r1 ((s1.2.2.2.2.2 32 (by decide)).trans e32) (Or.inl ⟨TL_c (fun j _ => th_SM s1 hM (by decide) j), hU⟩) a24 (fun d _ => by rw [a25]) (by rw [a25]; exact hU) a11
  · refine e_ldA rfl (e_ldI rfl (And.intro hM.1 (And.intro ⟨by decide, by decide⟩ (z_f_isCut hM im hc hn e32 (fun S1 k p0 p1 hk hp0 hp1 e0 e1 s1 im1 k32 kT a25 a7 a9 => ?_)))))
    have hM1 := MS_SM hM s1
    have b11 : sI S1 (A 11) = sI S0 (A 11) := SM_a s1 hM (by decide) (by decide)
    have b22 : sI S1 (A 22) = sI S0 (A 22) := SM_a s1 hM (by decide) (by decide)
    have b23 : sI S1 (A 23) = sI S0 (A 23) := SM_a s1 hM (by decide) (by decide)
    have b24 : sI S1 (A 24) = sI S0 (A 24) := SM_a s1 hM (by decide) (by decide)
    have r1 : RV S1 A := by
      unfold RV
      rw [a7, a9, b11, b22, b23, b24, a25]
      exact RI_cut hR hc hp0 hp1 e0 e1
    have u1 : sI S1 (A 25) c = 0 := by rw [a25, pk_us]; rfl
    refine x_ip14 (f := 0) hM1 im1 hc r1 (by rw [b24]; exact hP) u1 rfl rfl (fun S2 s2 im2 r2 c24 c11 => ?_)
    have c25 : sI S2 (A 25) = sI S1 (A 25) := SM_a s2 hM1 (by decide) (by decide)
    exact K S2 k hk (SM.tr (SM.tr SM.rf s1 (by decide)) s2 (by decide)) im2 r2 ((s2.2.2.2.2.2 32 (by decide)).trans k32) (Or.inr ((TL_c (fun j _ => th_SM s2 hM1 (by decide) j)).trans kT)) (by rw [c24, b24]) (fun d hd => by rw [c25, a25, pk_un hd]) (by rw [c25]; exact u1) (by obtain ⟨y0, y1, z0, z1, w0, w1, w2⟩ := c11; exact ⟨y0, y1, z0, z1, by rw [← b22]; exact w0, by rw [← b22]; exact w1, by rw [w2, b11]⟩)
theorem x_pull_bad {Q : Option Value → MM → Prop} {S0 : MM} {f m n t : Nat} {A : Nat → Nat} {lv : Lv} (hM : MS S0 m A) (hI : IV S0 m A n) (ht : 0 < t ∧ t < 3) (l0 : lvg lv 0 = some (.ref m)) (K : ∀ S' k g, k ≤ n → SM WP m A S0 S' → IV S' m A k → TL S' A k = (TL S0 A n).filter g → SM [0] m A S0 S' → sI S' m 0 = nI t → Q none S') : wpn (kX8_pull Q) (f + 1) 26 lv [.int (nI t), .ref m] S0 0 0 := by
  refine u_X8_pull_26 ?_
  unfold bX8_pull_26
  refine y_mI (W := [0]) hM SM.rf hI.1 (by decide) (fun N e => nomatch (show (none : Option Nat) = some N from e)) (fun S1 he sh im1 => ?_)
  obtain ⟨h1, h2⟩ := IV_SM hI hM sh im1 (by decide)
  have v0 : sI S1 m 0 = nI t := by rw [he]; exact rd_s
  exact e_ldA l0 (e_gV (v := nI t) (SM_k sh hM.1) v0 (e_lez (by omega) (fun z => absurd z (by omega)) (fun _ => e_rV (K S1 n _ (Nat.le_refl _) (SM.tr SM.rf sh (by decide)) h1 (h2.trans (all_true _)) sh v0))))
theorem x_light_bad {Q : Option Value → MM → Prop} {S0 : MM} {f m n t : Nat} {A : Nat → Nat} {lv : Lv} (hM : MS S0 m A) (hI : IV S0 m A n) (ht : 0 < t ∧ t < 3) (l0 : lvg lv 0 = some (.ref m)) (K : ∀ S' k g, k ≤ n → SM WP m A S0 S' → IV S' m A k → TL S' A k = (TL S0 A n).filter g → SM [0] m A S0 S' → sI S' m 0 = nI t → Q none S') : wpn (kX8_light Q) (f + 1) 36 lv [.int (nI t), .ref m] S0 0 0 := by
  refine u_X8_light_36 ?_
  unfold bX8_light_36
  refine y_mI (W := [0]) hM SM.rf hI.1 (by decide) (fun N e => nomatch (show (none : Option Nat) = some N from e)) (fun S1 he sh im1 => ?_)
  obtain ⟨h1, h2⟩ := IV_SM hI hM sh im1 (by decide)
  have v0 : sI S1 m 0 = nI t := by rw [he]; exact rd_s
  exact e_ldA l0 (e_gV (v := nI t) (SM_k sh hM.1) v0 (e_lez (by omega) (fun z => absurd z (by omega)) (fun _ => e_rV (K S1 n _ (Nat.le_refl _) (SM.tr SM.rf sh (by decide)) h1 (h2.trans (all_true _)) sh v0))))
theorem x_plug_bad {Q : Option Value → MM → Prop} {S0 : MM} {f m n t : Nat} {A : Nat → Nat} {lv : Lv} (hM : MS S0 m A) (hI : IV S0 m A n) (ht : 0 < t ∧ t < 3) (l0 : lvg lv 0 = some (.ref m)) (K : ∀ S' k g, k ≤ n → SM WP m A S0 S' → IV S' m A k → TL S' A k = (TL S0 A n).filter g → SM [0] m A S0 S' → sI S' m 0 = nI t → Q none S') : wpn (kX8_plug Q) (f + 1) 65 lv [.int (nI t), .ref m] S0 0 0 := by
  refine u_X8_plug_65 ?_
  unfold bX8_plug_65
  refine y_mI (W := [0]) hM SM.rf hI.1 (by decide) (fun N e => nomatch (show (none : Option Nat) = some N from e)) (fun S1 he sh im1 => ?_)
  obtain ⟨h1, h2⟩ := IV_SM hI hM sh im1 (by decide)
  have v0 : sI S1 m 0 = nI t := by rw [he]; exact rd_s
  exact e_ldA l0 (e_gV (v := nI t) (SM_k sh hM.1) v0 (e_lez (by omega) (fun z => absurd z (by omega)) (fun _ => e_rV (K S1 n _ (Nat.le_refl _) (SM.tr SM.rf sh (by decide)) h1 (h2.trans (all_true _)) sh v0))))
/-- what a pull makes of the arrays -/
def PLM (S S' : MM) (A : Nat → Nat) (c : Nat) : Prop := sI S' (A 22) = sI S (A 22) ∧ sI S' (A 24) = upd (sI S (A 24)) c (nI 0) ∧ (∀ d, d ≠ c → sI S' (A 25) d = sI S (A 25) d) ∧ sI S' (A 25) c = 0 ∧ ∃ p0 p1, p0 < 8 ∧ p1 < 8 ∧ sI S (A 22) (2 * c + 0) = nI p0 ∧ sI S (A 22) (2 * c + 1) = nI p1 ∧ sI S' (A 11) = upd (upd (sI S (A 11)) (8 * 0 + p0) (-1)) (8 * 1 + p1) (-1)
theorem x_Mpull {Q : Option Value → MM → Prop} {S0 : MM} {m n : Nat} {A : Nat → Nat} {v : Int32} (hM : MS S0 m A) (hI : IV S0 m A n) (K1 : b8 v → ∀ S' k g, k ≤ n → SM WP m A S0 S' → IV S' m A k → TL S' A k = (TL S0 A n).filter g → SM [0] m A S0 S' → sI S' m 0 = nI 1 → Q none S') (K2 : ∀ c, c < 8 → v = nI c → sI S0 (A 24) c = 0 → ∀ S' k g, k ≤ n → SM WP m A S0 S' → IV S' m A k → TL S' A k = (TL S0 A n).filter g → SM [0] m A S0 S' → sI S' m 0 = nI 2 → Q none S') (K : ∀ c, c < 8 → v = nI c → ¬ sI S0 (A 24) c = 0 → ∀ S' k g, k ≤ n → SM WP m A S0 S' → IV S' m A k → TL S' A k = (TL S0 A n).filter g → sI S' m 0 = nI 0 → PLM S0 S' A c → Q none S') : wX8_pull [.ref m, .int v] S0 Q := by
  refine Exists.intro 6 (u_X8_pull_0 ?_)
  unfold bX8_pull_0
  refine e_ldA rfl (e_ldI rfl (And.intro ⟨by decide, by decide⟩ (z_MisCable' (fun h => e_ifN (by decide) (fun _ => e_cN 1 rfl (x_pull_bad (f := 4) (t := 1) hM hI (by decide) rfl (K1 h))) (fun q => absurd rfl q)) (fun c hc ec => e_ifN (by decide) (fun q => absurd q (by decide)) (fun _ => u_X8_pull_12 ?_)))))
  have K2' := K2 c hc ec
  have K' := K c hc ec
  subst ec
  unfold bX8_pull_12
  refine e_ldA rfl (e_gR hM.1 (hM.2.1 24 (by decide)).1 (e_ldI rfl (e_aI (N := 8) (kdA hM (by decide) rfl) (lnA hM (by decide) rfl) hc (by decide) (fun p hp => e_if0 (fun h0 => e_cN 2 rfl (x_pull_bad (f := 3) (t := 2) hM hI (by decide) rfl (K2' (hp.trans h0)))) (fun h0 => u_X8_pull_25 ?_)))))
  unfold bX8_pull_25
  refine e_cI (u_X8_pull_26 ?_)
  unfold bX8_pull_26
  refine y_mI (W := [0]) hM SM.rf hI.1 (by decide) (fun N e => nomatch (show (none : Option Nat) = some N from e)) (fun S1 he sh im1 => ?_)
  obtain ⟨⟨j1, j2, j3, j4, j5⟩, h2⟩ := IV_SM hI hM sh im1 (by decide)
  have hM1 := MS_SM hM sh
  have v0 : sI S1 m 0 = 0 := by rw [he]; exact rd_s
  refine e_ldA rfl (e_gV (v := 0) (SM_k sh hM.1) v0 ⟨fun _ => u_X8_pull_37 ?_, fun z => absurd (by decide) z⟩)
  unfold bX8_pull_37
  refine e_ldA rfl (e_ldI rfl (And.intro hM1.1 (And.intro ⟨by decide, by decide⟩ (x_f_isPulled hM1 j1 hc j4 j3 j2 (by rw [SM_a sh hM (k := 24) (by decide) (by decide), hp]; exact h0) (fun S2 k hk s2 im2 r2 k32 kT a24 a25 u25 a11 => ?_)))))
  have hM2 := MS_SM hM1 s2
  obtain ⟨ut, -⟩ := UT_filter hc j5 kT a25
  have iv2 : IV S2 m A k := ⟨im2, r2, k32, by omega, ut⟩
  refine e_ldA rfl (And.intro hM2.1 (And.intro ⟨by decide, by decide⟩ (z_X8_isNotQuiet hM2 im2 (fun S3 s3 im3 => ?_))))
  obtain ⟨iv3, t3⟩ := IV_SM iv2 hM2 s3 im3 (by decide)
  have fl : ∃ g, TL S2 A k = (TL S1 A n).filter g := by
    rcases kT with ⟨q, -⟩ | q
    · exact ⟨_, q.trans (all_true _)⟩
    · exact ⟨_, q⟩
  obtain ⟨g, eg⟩ := fl
  have b11 : sI S1 (A 11) = sI S0 (A 11) := SM_a sh hM (by decide) (by decide)
  have b22 : sI S1 (A 22) = sI S0 (A 22) := SM_a sh hM (by decide) (by decide)
  have b24 : sI S1 (A 24) = sI S0 (A 24) := SM_a sh hM (by decide) (by decide)
  have b25 : sI S1 (A 25) = sI S0 (A 25) := SM_a sh hM (by decide) (by decide)
  have d11 : sI S3 (A 11) = sI S2 (A 11) := SM_a s3 hM2 (by decide) (by decide)
  have d22 : sI S3 (A 22) = sI S2 (A 22) := SM_a s3 hM2 (by decide) (by decide)
  have d24 : sI S3 (A 24) = sI S2 (A 24) := SM_a s3 hM2 (by decide) (by decide)
  have d25 : sI S3 (A 25) = sI S2 (A 25) := SM_a s3 hM2 (by decide) (by decide)
  have c22 : sI S2 (A 22) = sI S1 (A 22) := SM_a s2 hM1 (by decide) (by decide)
  obtain ⟨y0, y1, z0, z1, w0, w1, w2⟩ := a11
  exact e_rV (K' (fun z => h0 (hp.symm.trans z)) S3 k g hk (SM.tr (SM.tr (SM.tr SM.rf sh (by decide)) s2 (by decide)) s3 (by decide)) iv3 (t3.trans (eg.trans (by rw [h2]))) ((s3.2.2.2.2.2 0 (by decide)).trans ((s2.2.2.2.2.2 0 (by decide)).trans v0)) ⟨by rw [d22, c22, b22], by rw [d24, a24, b24], fun d hd => by rw [d25, a25 d hd, b25], by rw [d25]; exact u25, y0, y1, z0, z1, by rw [← b22]; exact w0, by rw [← b22]; exact w1, by rw [d11, w2, b11]⟩)
theorem x_light64 {Q : Option Value → MM → Prop} {S0 S : MM} {f m n k : Nat} {A : Nat → Nat} {lv : Lv} {g : Int32 × Int32 × Int32 × Int32 → Bool} (hM : MS S0 m A) (sh : SM WP m A S0 S) (hI : IV S m A k) (hk : k ≤ n) (hT : TL S A k = (TL S0 A n).filter g) (l0 : lvg lv 0 = some (.ref m)) (hx : sI S m 0 = nI 0) (K : ∀ S' k g, k ≤ n → SM WP m A S0 S' → IV S' m A k → TL S' A k = (TL S0 A n).filter g → SM [44] m A S S' → sI S' m 0 = nI 0 → Q none S') : wpn (kX8_light Q) (f + 1) 64 lv [] S 0 0 := by
  have hM2 := MS_SM hM sh
  refine u_X8_light_64 ?_
  unfold bX8_light_64
  refine e_ldA l0 (And.intro hM2.1 (And.intro ⟨by decide, by decide⟩ (z_X8_isNotQuiet hM2 hI.1 (fun S3 s3 im3 => ?_))))
  obtain ⟨iv3, t3⟩ := IV_SM hI hM2 s3 im3 (by decide)
  exact e_rV (K S3 k g hk (SM.tr sh s3 (by decide)) iv3 (t3.trans hT) s3 ((s3.2.2.2.2.2 0 (by decide)).trans hx))
def LTM (S S' : MM) (A : Nat → Nat) (c b : Nat) : Prop := sI S' (A 11) = sI S (A 11) ∧ sI S' (A 22) = sI S (A 22) ∧ sI S' (A 24) = sI S (A 24) ∧ sI S' (A 25) = upd (sI S (A 25)) c (nI b)
theorem x_Mlight {Q : Option Value → MM → Prop} {S0 : MM} {m n b : Nat} {A : Nat → Nat} {v : Int32} (hb : b < 2) (hM : MS S0 m A) (hI : IV S0 m A n) (K1 : b8 v → ∀ S' k g, k ≤ n → SM WP m A S0 S' → IV S' m A k → TL S' A k = (TL S0 A n).filter g → SM [0] m A S0 S' → sI S' m 0 = nI 1 → Q none S') (K2 : ∀ c, c < 8 → v = nI c → (sI S0 (A 24) c = 0 ∨ sI S0 (A 25) c = nI b) → ∀ S' k g, k ≤ n → SM WP m A S0 S' → IV S' m A k → TL S' A k = (TL S0 A n).filter g → SM [0] m A S0 S' → sI S' m 0 = nI 2 → Q none S') (K : ∀ c, c < 8 → v = nI c → ¬ sI S0 (A 24) c = 0 → ¬ sI S0 (A 25) c = nI b → ∀ S' k g, k ≤ n → SM WP m A S0 S' → IV S' m A k → TL S' A k = (TL S0 A n).filter g → sI S' m 0 = nI 0 → LTM S0 S' A c b → Q none S') : wX8_light [.ref m, .int v, .int (nI b)] S0 Q := by
  refine Exists.intro 8 (u_X8_light_0 ?_)
  unfold bX8_light_0
  refine e_ldA rfl (e_ldI rfl (And.intro ⟨by decide, by decide⟩ (z_MisCable' (fun h => e_ifN (by decide) (fun _ => e_cN 1 rfl (x_light_bad (f := 6) (t := 1) hM hI (by decide) rfl (K1 h))) (fun q => absurd rfl q)) (fun c hc ec => e_ifN (by decide) (fun q => absurd q (by decide)) (fun _ => u_X8_light_12 ?_)))))
  have K2' := K2 c hc ec
  have K' := K c hc ec
  subst ec
  have bad : (sI S0 (A 24) c = 0 ∨ sI S0 (A 25) c = nI b) → wpn (kX8_light Q) 6 31 (lv_args 0 [.ref m, .int (nI c), .int (nI b)]) [.ref m] S0 0 0 := fun h => by
    refine u_X8_light_31 ?_
    unfold bX8_light_31
    exact e_cN 2 rfl (x_light_bad (f := 4) (t := 2) hM hI (by decide) rfl (K2' h))
  unfold bX8_light_12
  refine e_ldA rfl (e_gR hM.1 (hM.2.1 24 (by decide)).1 (e_ldI rfl (e_aI (N := 8) (kdA hM (by decide) rfl) (lnA hM (by decide) rfl) hc (by decide) (fun p hp => e_if0 (fun h0 => bad (Or.inl (hp.trans h0))) (fun h0 => ?_)))))
  refine e_ldA rfl (e_gR hM.1 (hM.2.1 25 (by decide)).1 (e_ldI rfl (e_aI (N := 8) (kdA hM (by decide) rfl) (lnA hM (by decide) rfl) hc (by decide) (fun u hu => e_ldI rfl ⟨fun h => bad (Or.inr (hu.trans h)), fun hn => u_X8_light_35 ?_⟩))))
  unfold bX8_light_35
  refine e_cI (u_X8_light_36 ?_)
  unfold bX8_light_36
  refine y_mI (W := [0]) hM SM.rf hI.1 (by decide) (fun N e => nomatch (show (none : Option Nat) = some N from e)) (fun S1 he sh im1 => ?_)
  obtain ⟨⟨j1, j2, j3, j4, j5⟩, h2⟩ := IV_SM hI hM sh im1 (by decide)
  have hM1 := MS_SM hM sh
  have v0 : sI S1 m 0 = 0 := by rw [he]; exact rd_s
  have P1 : sI S1 (A 24) c ≠ 0 := by rw [SM_a sh hM (k := 24) (by decide) (by decide), hp]; exact h0
  have shW : SM WP m A S0 S1 := SM.tr SM.rf sh (by decide)
  have b11 : sI S1 (A 11) = sI S0 (A 11) := SM_a sh hM (by decide) (by decide)
  have b22 : sI S1 (A 22) = sI S0 (A 22) := SM_a sh hM (by decide) (by decide)
  have b24 : sI S1 (A 24) = sI S0 (A 24) := SM_a sh hM (by decide) (by decide)
  have b25 : sI S1 (A 25) = sI S0 (A 25) := SM_a sh hM (by decide) (by decide)
  have K9 := K' (fun z => h0 (hp.symm.trans z)) (fun z => hn (hu.symm.trans z))
  refine e_ldA rfl (e_gV (v := 0) (SM_k sh hM.1) v0 ⟨fun _ => u_X8_light_47 ?_, fun z => absurd (by decide) z⟩)
  unfold bX8_light_47
  refine e_ldI rfl (e_ifN (by omega) (fun hb0 => u_X8_light_59 ?_) (fun hb0 => ?_))
  · subst hb0
    unfold bX8_light_59
    refine e_ldA rfl (e_ldI rfl (And.intro hM1.1 (And.intro ⟨by decide, by decide⟩ (z_f_isCut hM1 j1 hc j4 j3 (fun S2 k p0 p1 hk hp0 hp1 e0 e1 s2 im2 k32 kT a25 a7 a9 => ?_)))))
    have r2 : RV S2 A := by
      unfold RV
      rw [a7, a9, SM_a s2 hM1 (k := 11) (by decide) (by decide), SM_a s2 hM1 (k := 22) (by decide) (by decide), SM_a s2 hM1 (k := 23) (by decide) (by decide), SM_a s2 hM1 (k := 24) (by decide) (by decide), a25]
      exact RI_cut j2 hc hp0 hp1 e0 e1
    obtain ⟨ut, -⟩ := UT_filter hc j5 (Or.inr kT) (fun d hd => by rw [a25, pk_un hd])
    have hM2 := MS_SM hM1 s2
    exact x_light64 (f := 1) hM (SM.tr shW s2 (by decide)) ⟨im2, r2, k32, by omega, ut⟩ hk (kT.trans (by rw [h2])) rfl ((s2.2.2.2.2.2 0 (by decide)).trans v0) (fun S' k g hk s iv t s44 h0 => K9 S' k g hk s iv t h0 ⟨by rw [SM_a s44 hM2 (by decide) (by decide), SM_a s2 hM1 (by decide) (by decide), b11], by rw [SM_a s44 hM2 (by decide) (by decide), SM_a s2 hM1 (by decide) (by decide), b22], by rw [SM_a s44 hM2 (by decide) (by decide), SM_a s2 hM1 (by decide) (by decide), b24], by rw [SM_a s44 hM2 (by decide) (by decide), a25, b25]⟩)
  · have hb1 : b = 1 := by omega
    subst hb1
    refine e_ldA rfl (e_ldI rfl (And.intro hM1.1 (And.intro ⟨by decide, by decide⟩ (z_f_isUp hM1 j1 hc (fun S2 p0 p1 hp0 hp1 e0 e1 s2 im2 a25 a7 a9 => ?_)))))
    have r2 : RV S2 A := by
      unfold RV
      rw [a7, a9, SM_a s2 hM1 (k := 11) (by decide) (by decide), SM_a s2 hM1 (k := 22) (by decide) (by decide), SM_a s2 hM1 (k := 23) (by decide) (by decide), SM_a s2 hM1 (k := 24) (by decide) (by decide), a25]
      exact RI_up j2 hc P1 hp0 hp1 e0 e1
    have t2 : TL S2 A n = TL S1 A n := TL_c (fun j _ => th_SM s2 hM1 (by decide) j)
    have ut : UT S2 A n := fun q hq => by
      rw [t2] at hq
      obtain ⟨d, d1, d2, d3⟩ := j5 q hq
      refine ⟨d, d1, d2, ?_⟩
      rw [a25]
      by_cases hz : d = c
      · rw [hz, pk_us]; decide
      · rw [pk_un hz]; exact d3
    have hM2 := MS_SM hM1 s2
    exact x_light64 (f := 2) hM (SM.tr shW s2 (by decide)) ⟨im2, r2, (s2.2.2.2.2.2 32 (by decide)).trans j3, j4, ut⟩ (Nat.le_refl _) ((t2.trans h2).trans (all_true _)) rfl ((s2.2.2.2.2.2 0 (by decide)).trans v0) (fun S' k g hk s iv t s44 h0 => K9 S' k g hk s iv t h0 ⟨by rw [SM_a s44 hM2 (by decide) (by decide), SM_a s2 hM1 (by decide) (by decide), b11], by rw [SM_a s44 hM2 (by decide) (by decide), SM_a s2 hM1 (by decide) (by decide), b22], by rw [SM_a s44 hM2 (by decide) (by decide), SM_a s2 hM1 (by decide) (by decide), b24], by rw [SM_a s44 hM2 (by decide) (by decide), a25, b25]⟩)
theorem x_plug90M {Q : Option Value → MM → Prop} {S0 S1 : MM} {f m n k c a b d : Nat} {A : Nat → Nat} {lv : Lv} {g : Int32 × Int32 × Int32 × Int32 → Bool} (hM0 : MS S0 m A) (shW : SM WP m A S0 S1) (hI : IV S1 m A k) (hk : k ≤ n) (hT : TL S1 A k = (TL S0 A n).filter g) (hc : c < 8) (ha : a < 8) (hb : b < 8) (hd : 1 ≤ d) (hd2 : d ≤ 8) (hP : sI S1 (A 24) c = 0) (ea : sI S1 (A 11) (8 * 0 + a) = -1) (eb : sI S1 (A 11) (8 * 1 + b) = -1) (l0 : lvg lv 0 = some (.ref m)) (l1 : lvg lv 1 = some (.int (nI c))) (l2 : lvg lv 2 = some (.int (nI a))) (l3 : lvg lv 3 = some (.int (nI b))) (l4 : lvg lv 4 = some (.int (nI d))) (hx : sI S1 m 0 = nI 0) (K : ∀ S' k g, k ≤ n → SM WP m A S0 S' → IV S' m A k → TL S' A k = (TL S0 A n).filter g → sI S' m 0 = nI 0 → sI S' (A 11) = upd (upd (sI S1 (A 11)) a (nI c)) (8 + b) (nI c) → sI S' (A 22) = upd (upd (sI S1 (A 22)) (2 * c) (nI a)) (2 * c + 1) (nI b) → sI S' (A 24) = upd (sI S1 (A 24)) c (nI 1) → sI S' (A 25) = upd (sI S1 (A 25)) c (nI 1) → Q none S') : wpn (kX8_plug Q) (f + 1) 90 lv [] S1 0 0 := by
  have hM := MS_SM hM0 shW
  obtain ⟨im1, j2, j3, j4, j5⟩ := hI
  have sh1 : SM [11, 22, 23, 24] m A S1 S1 := SM.rf
  have hM1 := hM
  refine u_X8_plug_90 ?_
  unfold bX8_plug_90
  have f7_1 : sI S1 (A 7) = sI S1 (A 7) := rfl
  have f9_1 : sI S1 (A 9) = sI S1 (A 9) := rfl
  have f11_1 : sI S1 (A 11) = sI S1 (A 11) := rfl
  have f22_1 : sI S1 (A 22) = sI S1 (A 22) := rfl
  have f23_1 : sI S1 (A 23) = sI S1 (A 23) := rfl
  have f24_1 : sI S1 (A 24) = sI S1 (A 24) := rfl
  have f25_1 : sI S1 (A 25) = sI S1 (A 25) := rfl
  have f27_1 : sI S1 (A 27) = sI S1 (A 27) := rfl
  have f28_1 : sI S1 (A 28) = sI S1 (A 28) := rfl
  have f29_1 : sI S1 (A 29) = sI S1 (A 29) := rfl
  have f30_1 : sI S1 (A 30) = sI S1 (A 30) := rfl
  refine e_ldA l0 (e_gR hM1.1 (hM1.2.1 24 (by decide)).1 (e_ldI l1 (e_cN 1 rfl (y_mB (N := 8) hM sh1 im1 (by decide) rfl rfl hc (by decide) (by decide) (by decide) (fun N e => nomatch (show (none : Option Nat) = some N from e)) (fun e => absurd e (by decide)) (fun S2 he2 sh2 im2 => ?_)))))
  have hM2 := MS_SM hM sh2
  have f7_2 : sI S2 (A 7) = sI S1 (A 7) := fn_o he2 f7_1 (ne_A hM (by decide) (by decide) (by decide))
  have f9_2 : sI S2 (A 9) = sI S1 (A 9) := fn_o he2 f9_1 (ne_A hM (by decide) (by decide) (by decide))
  have f11_2 : sI S2 (A 11) = sI S1 (A 11) := fn_o he2 f11_1 (ne_A hM (by decide) (by decide) (by decide))
  have f22_2 : sI S2 (A 22) = sI S1 (A 22) := fn_o he2 f22_1 (ne_A hM (by decide) (by decide) (by decide))
  have f23_2 : sI S2 (A 23) = sI S1 (A 23) := fn_o he2 f23_1 (ne_A hM (by decide) (by decide) (by decide))
  have f24_2 : sI S2 (A 24) = upd (sI S1 (A 24)) c (nI 1) := fn_s he2 f24_1
  have f25_2 : sI S2 (A 25) = sI S1 (A 25) := fn_o he2 f25_1 (ne_A hM (by decide) (by decide) (by decide))
  have f27_2 : sI S2 (A 27) = sI S1 (A 27) := fn_o he2 f27_1 (ne_A hM (by decide) (by decide) (by decide))
  have f28_2 : sI S2 (A 28) = sI S1 (A 28) := fn_o he2 f28_1 (ne_A hM (by decide) (by decide) (by decide))
  have f29_2 : sI S2 (A 29) = sI S1 (A 29) := fn_o he2 f29_1 (ne_A hM (by decide) (by decide) (by decide))
  have f30_2 : sI S2 (A 30) = sI S1 (A 30) := fn_o he2 f30_1 (ne_A hM (by decide) (by decide) (by decide))
  refine e_ldA l0 (e_gR hM2.1 (hM2.2.1 22 (by decide)).1 (e_cN 2 rfl (e_ldI l1 (e_mul (e_ldI l2 (y_mA (N := 16) hM sh2 im2 (by decide) rfl rfl (show 2 * c < 16 by omega) (by decide) (by decide) (fun N e => by have e2 : some 8 = some N := e; cases e2; exact ⟨a, by omega, rfl⟩) (fun e => absurd e (by decide)) (fun S3 he3 sh3 im3 => ?_)))))))
  have hM3 := MS_SM hM sh3
  have f7_3 : sI S3 (A 7) = sI S1 (A 7) := fn_o he3 f7_2 (ne_A hM (by decide) (by decide) (by decide))
  have f9_3 : sI S3 (A 9) = sI S1 (A 9) := fn_o he3 f9_2 (ne_A hM (by decide) (by decide) (by decide))
  have f11_3 : sI S3 (A 11) = sI S1 (A 11) := fn_o he3 f11_2 (ne_A hM (by decide) (by decide) (by decide))
  have f22_3 : sI S3 (A 22) = upd (sI S1 (A 22)) (2 * c) (nI a) := fn_s he3 f22_2
  have f23_3 : sI S3 (A 23) = sI S1 (A 23) := fn_o he3 f23_2 (ne_A hM (by decide) (by decide) (by decide))
  have f24_3 : sI S3 (A 24) = upd (sI S1 (A 24)) c (nI 1) := fn_o he3 f24_2 (ne_A hM (by decide) (by decide) (by decide))
  have f25_3 : sI S3 (A 25) = sI S1 (A 25) := fn_o he3 f25_2 (ne_A hM (by decide) (by decide) (by decide))
  have f27_3 : sI S3 (A 27) = sI S1 (A 27) := fn_o he3 f27_2 (ne_A hM (by decide) (by decide) (by decide))
  have f28_3 : sI S3 (A 28) = sI S1 (A 28) := fn_o he3 f28_2 (ne_A hM (by decide) (by decide) (by decide))
  have f29_3 : sI S3 (A 29) = sI S1 (A 29) := fn_o he3 f29_2 (ne_A hM (by decide) (by decide) (by decide))
  have f30_3 : sI S3 (A 30) = sI S1 (A 30) := fn_o he3 f30_2 (ne_A hM (by decide) (by decide) (by decide))
  refine e_ldA l0 (e_gR hM3.1 (hM3.2.1 22 (by decide)).1 (e_cN 2 rfl (e_ldI l1 (e_mul (e_cN 1 rfl (e_add (e_ldI l3 (y_mA (N := 16) hM sh3 im3 (by decide) rfl rfl (show 2 * c + 1 < 16 by omega) (by decide) (by decide) (fun N e => by have e2 : some 8 = some N := e; cases e2; exact ⟨b, by omega, rfl⟩) (fun e => absurd e (by decide)) (fun S4 he4 sh4 im4 => ?_)))))))))
  have hM4 := MS_SM hM sh4
  have f7_4 : sI S4 (A 7) = sI S1 (A 7) := fn_o he4 f7_3 (ne_A hM (by decide) (by decide) (by decide))
  have f9_4 : sI S4 (A 9) = sI S1 (A 9) := fn_o he4 f9_3 (ne_A hM (by decide) (by decide) (by decide))
  have f11_4 : sI S4 (A 11) = sI S1 (A 11) := fn_o he4 f11_3 (ne_A hM (by decide) (by decide) (by decide))
  have f22_4 : sI S4 (A 22) = upd (upd (sI S1 (A 22)) (2 * c) (nI a)) (2 * c + 1) (nI b) := fn_s he4 f22_3
  have f23_4 : sI S4 (A 23) = sI S1 (A 23) := fn_o he4 f23_3 (ne_A hM (by decide) (by decide) (by decide))
  have f24_4 : sI S4 (A 24) = upd (sI S1 (A 24)) c (nI 1) := fn_o he4 f24_3 (ne_A hM (by decide) (by decide) (by decide))
  have f25_4 : sI S4 (A 25) = sI S1 (A 25) := fn_o he4 f25_3 (ne_A hM (by decide) (by decide) (by decide))
  have f27_4 : sI S4 (A 27) = sI S1 (A 27) := fn_o he4 f27_3 (ne_A hM (by decide) (by decide) (by decide))
  have f28_4 : sI S4 (A 28) = sI S1 (A 28) := fn_o he4 f28_3 (ne_A hM (by decide) (by decide) (by decide))
  have f29_4 : sI S4 (A 29) = sI S1 (A 29) := fn_o he4 f29_3 (ne_A hM (by decide) (by decide) (by decide))
  have f30_4 : sI S4 (A 30) = sI S1 (A 30) := fn_o he4 f30_3 (ne_A hM (by decide) (by decide) (by decide))
  refine e_ldA l0 (e_gR hM4.1 (hM4.2.1 23 (by decide)).1 (e_ldI l1 (e_ldI l4 (y_mA (N := 8) hM sh4 im4 (by decide) rfl rfl hc (by decide) (by decide) (fun N e => nomatch (show (none : Option Nat) = some N from e)) (fun e => absurd e (by decide)) (fun S5 he5 sh5 im5 => ?_)))))
  have hM5 := MS_SM hM sh5
  have f7_5 : sI S5 (A 7) = sI S1 (A 7) := fn_o he5 f7_4 (ne_A hM (by decide) (by decide) (by decide))
  have f9_5 : sI S5 (A 9) = sI S1 (A 9) := fn_o he5 f9_4 (ne_A hM (by decide) (by decide) (by decide))
  have f11_5 : sI S5 (A 11) = sI S1 (A 11) := fn_o he5 f11_4 (ne_A hM (by decide) (by decide) (by decide))
  have f22_5 : sI S5 (A 22) = upd (upd (sI S1 (A 22)) (2 * c) (nI a)) (2 * c + 1) (nI b) := fn_o he5 f22_4 (ne_A hM (by decide) (by decide) (by decide))
  have f23_5 : sI S5 (A 23) = upd (sI S1 (A 23)) c (nI d) := fn_s he5 f23_4
  have f24_5 : sI S5 (A 24) = upd (sI S1 (A 24)) c (nI 1) := fn_o he5 f24_4 (ne_A hM (by decide) (by decide) (by decide))
  have f25_5 : sI S5 (A 25) = sI S1 (A 25) := fn_o he5 f25_4 (ne_A hM (by decide) (by decide) (by decide))
  have f27_5 : sI S5 (A 27) = sI S1 (A 27) := fn_o he5 f27_4 (ne_A hM (by decide) (by decide) (by decide))
  have f28_5 : sI S5 (A 28) = sI S1 (A 28) := fn_o he5 f28_4 (ne_A hM (by decide) (by decide) (by decide))
  have f29_5 : sI S5 (A 29) = sI S1 (A 29) := fn_o he5 f29_4 (ne_A hM (by decide) (by decide) (by decide))
  have f30_5 : sI S5 (A 30) = sI S1 (A 30) := fn_o he5 f30_4 (ne_A hM (by decide) (by decide) (by decide))
  refine e_ldA l0 (e_gR hM5.1 (hM5.2.1 11 (by decide)).1 (e_ldI l2 (e_ldI l1 (y_mA (N := 16) hM sh5 im5 (by decide) rfl rfl (show a < 16 by omega) (by decide) (by decide) (fun N e => nomatch (show (none : Option Nat) = some N from e)) (fun e => absurd e (by decide)) (fun S6 he6 sh6 im6 => ?_)))))
  have hM6 := MS_SM hM sh6
  have f7_6 : sI S6 (A 7) = sI S1 (A 7) := fn_o he6 f7_5 (ne_A hM (by decide) (by decide) (by decide))
  have f9_6 : sI S6 (A 9) = sI S1 (A 9) := fn_o he6 f9_5 (ne_A hM (by decide) (by decide) (by decide))
  have f11_6 : sI S6 (A 11) = upd (sI S1 (A 11)) a (nI c) := fn_s he6 f11_5
  have f22_6 : sI S6 (A 22) = upd (upd (sI S1 (A 22)) (2 * c) (nI a)) (2 * c + 1) (nI b) := fn_o he6 f22_5 (ne_A hM (by decide) (by decide) (by decide))
  have f23_6 : sI S6 (A 23) = upd (sI S1 (A 23)) c (nI d) := fn_o he6 f23_5 (ne_A hM (by decide) (by decide) (by decide))
  have f24_6 : sI S6 (A 24) = upd (sI S1 (A 24)) c (nI 1) := fn_o he6 f24_5 (ne_A hM (by decide) (by decide) (by decide))
  have f25_6 : sI S6 (A 25) = sI S1 (A 25) := fn_o he6 f25_5 (ne_A hM (by decide) (by decide) (by decide))
  have f27_6 : sI S6 (A 27) = sI S1 (A 27) := fn_o he6 f27_5 (ne_A hM (by decide) (by decide) (by decide))
  have f28_6 : sI S6 (A 28) = sI S1 (A 28) := fn_o he6 f28_5 (ne_A hM (by decide) (by decide) (by decide))
  have f29_6 : sI S6 (A 29) = sI S1 (A 29) := fn_o he6 f29_5 (ne_A hM (by decide) (by decide) (by decide))
  have f30_6 : sI S6 (A 30) = sI S1 (A 30) := fn_o he6 f30_5 (ne_A hM (by decide) (by decide) (by decide))
  refine e_ldA l0 (e_gR hM6.1 (hM6.2.1 11 (by decide)).1 (e_cN 8 rfl (e_ldI l3 (e_add (e_ldI l1 (y_mA (N := 16) hM sh6 im6 (by decide) rfl rfl (show 8 + b < 16 by omega) (by decide) (by decide) (fun N e => nomatch (show (none : Option Nat) = some N from e)) (fun e => absurd e (by decide)) (fun S7 he7 sh7 im7 => ?_)))))))
  have hM7 := MS_SM hM sh7
  have f7_7 : sI S7 (A 7) = sI S1 (A 7) := fn_o he7 f7_6 (ne_A hM (by decide) (by decide) (by decide))
  have f9_7 : sI S7 (A 9) = sI S1 (A 9) := fn_o he7 f9_6 (ne_A hM (by decide) (by decide) (by decide))
  have f11_7 : sI S7 (A 11) = upd (upd (sI S1 (A 11)) a (nI c)) (8 + b) (nI c) := fn_s he7 f11_6
  have f22_7 : sI S7 (A 22) = upd (upd (sI S1 (A 22)) (2 * c) (nI a)) (2 * c + 1) (nI b) := fn_o he7 f22_6 (ne_A hM (by decide) (by decide) (by decide))
  have f23_7 : sI S7 (A 23) = upd (sI S1 (A 23)) c (nI d) := fn_o he7 f23_6 (ne_A hM (by decide) (by decide) (by decide))
  have f24_7 : sI S7 (A 24) = upd (sI S1 (A 24)) c (nI 1) := fn_o he7 f24_6 (ne_A hM (by decide) (by decide) (by decide))
  have f25_7 : sI S7 (A 25) = sI S1 (A 25) := fn_o he7 f25_6 (ne_A hM (by decide) (by decide) (by decide))
  have f27_7 : sI S7 (A 27) = sI S1 (A 27) := fn_o he7 f27_6 (ne_A hM (by decide) (by decide) (by decide))
  have f28_7 : sI S7 (A 28) = sI S1 (A 28) := fn_o he7 f28_6 (ne_A hM (by decide) (by decide) (by decide))
  have f29_7 : sI S7 (A 29) = sI S1 (A 29) := fn_o he7 f29_6 (ne_A hM (by decide) (by decide) (by decide))
  have f30_7 : sI S7 (A 30) = sI S1 (A 30) := fn_o he7 f30_6 (ne_A hM (by decide) (by decide) (by decide))
  have r7 : RV S7 A := by
    unfold RV
    rw [f7_7, f9_7, f11_7, f22_7, f23_7, f24_7, f25_7]
    have q := RI_plug j2 hc hP ha hb ea eb hd hd2
    rw [Nat.mul_zero, Nat.zero_add, Nat.mul_one] at q
    exact q
  have t7 : TL S7 A k = TL S1 A k := TL_c (fun j _ => by unfold th; rw [f27_7, f28_7, f29_7, f30_7])
  have P7 : sI S7 (A 24) c ≠ 0 := by rw [f24_7, pk_us]; decide
  have m32 : sI S7 m 32 = nI k := (sh7.2.2.2.2.2 32 (by decide)).trans j3
  refine e_ldA l0 (e_ldI l1 (And.intro hM7.1 (And.intro ⟨by decide, by decide⟩ (z_f_isUp hM7 im7 hc (fun S8 p0 p1 hp0 hp1 e0 e1 s8 im8 a25 a7 a9 => ?_)))))
  have hM8 := MS_SM hM7 s8
  have r8 : RV S8 A := by
    unfold RV
    rw [a7, a9, SM_a s8 hM7 (k := 11) (by decide) (by decide), SM_a s8 hM7 (k := 22) (by decide) (by decide), SM_a s8 hM7 (k := 23) (by decide) (by decide), SM_a s8 hM7 (k := 24) (by decide) (by decide), a25]
    exact RI_up r7 hc P7 hp0 hp1 e0 e1
  have t8 : TL S8 A k = TL S1 A k := (TL_c (fun j _ => th_SM s8 hM7 (by decide) j)).trans t7
  have ut : UT S8 A k := fun q hq => by
    rw [t8] at hq
    obtain ⟨w, d1, d2, d3⟩ := j5 q hq
    refine ⟨w, d1, d2, ?_⟩
    rw [a25, f25_7]
    by_cases hz : w = c
    · rw [hz, pk_us]; decide
    · rw [pk_un hz]; exact d3
  have iv8 : IV S8 m A k := ⟨im8, r8, (s8.2.2.2.2.2 32 (by decide)).trans m32, j4, ut⟩
  refine e_ldA l0 (And.intro hM8.1 (And.intro ⟨by decide, by decide⟩ (z_X8_isNotQuiet hM8 im8 (fun S9 s9 im9 => ?_))))
  obtain ⟨iv9, t9⟩ := IV_SM iv8 hM8 s9 im9 (by decide)
  exact e_rV (K S9 k g hk (SM.tr (SM.tr (SM.tr shW sh7 (by decide)) s8 (by decide)) s9 (by decide)) iv9 (t9.trans (t8.trans hT)) ((s9.2.2.2.2.2 0 (by decide)).trans ((s8.2.2.2.2.2 0 (by decide)).trans ((sh7.2.2.2.2.2 0 (by decide)).trans hx))) (by rw [SM_a s9 hM8 (by decide) (by decide), SM_a s8 hM7 (by decide) (by decide), f11_7]) (by rw [SM_a s9 hM8 (by decide) (by decide), SM_a s8 hM7 (by decide) (by decide), f22_7]) (by rw [SM_a s9 hM8 (by decide) (by decide), SM_a s8 hM7 (by decide) (by decide), f24_7]) (by rw [SM_a s9 hM8 (by decide) (by decide), a25, f25_7]))
theorem x_f_isAnother {Q : Option Value → MM → Prop} {S0 : MM} {m x c : Nat} {A : Nat → Nat} (hM : MS S0 m A) (hx : x < 16) (K0 : sI S0 (A 11) x = -1 ∨ sI S0 (A 11) x = nI c → Q (some (.int (nI 0))) S0) (K1 : ¬ (sI S0 (A 11) x = -1 ∨ sI S0 (A 11) x = nI c) → Q (some (.int (nI 1))) S0) : wX8_isAnother [.ref m, .int (nI x), .int (nI c)] S0 Q := by
  have no : (sI S0 (A 11) x = -1 ∨ sI S0 (A 11) x = nI c) → ∀ lv, wpn (kX8_isAnother Q) 3 24 lv [] S0 0 0 := fun h lv => by
    refine u_X8_isAnother_24 ?_
    unfold bX8_isAnother_24
    refine e_cN 0 rfl (u_X8_isAnother_25 ?_)
    unfold bX8_isAnother_25
    exact e_rZ (by decide) (K0 h)
  refine Exists.intro 4 (u_X8_isAnother_0 ?_)
  unfold bX8_isAnother_0
  refine e_ldA rfl (e_gR hM.1 (hM.2.1 11 (by decide)).1 (e_ldI rfl (e_aI (N := 16) (kdA hM (by decide) rfl) (lnA hM (by decide) rfl) hx (by decide) (fun v hv => e_cI ⟨fun h => no (Or.inl (hv.trans h)) _, fun nv => ?_⟩))))
  refine e_ldA rfl (e_gR hM.1 (hM.2.1 11 (by decide)).1 (e_ldI rfl (e_aI (N := 16) (kdA hM (by decide) rfl) (lnA hM (by decide) rfl) hx (by decide) (fun w hw => e_ldI rfl ⟨fun h => no (Or.inr (hw.trans h)) _, fun nw => e_cN 1 rfl (u_X8_isAnother_25 ?_)⟩))))
  unfold bX8_isAnother_25
  exact e_rZ (by decide) (K1 (fun z => z.elim (fun y => nv (hv.symm.trans y)) (fun y => nw (hw.symm.trans y))))
def PGM (S S' : MM) (A : Nat → Nat) (c a b : Nat) : Prop := ∃ I Po P U, ((sI S (A 24) c = 0 ∧ I = sI S (A 11) ∧ Po = sI S (A 22) ∧ P = sI S (A 24) ∧ U = sI S (A 25)) ∨ (sI S (A 24) c ≠ 0 ∧ Po = sI S (A 22) ∧ P = upd (sI S (A 24)) c (nI 0) ∧ (∀ d, d ≠ c → U d = sI S (A 25) d) ∧ U c = 0 ∧ ∃ p0 p1, p0 < 8 ∧ p1 < 8 ∧ sI S (A 22) (2 * c + 0) = nI p0 ∧ sI S (A 22) (2 * c + 1) = nI p1 ∧ I = upd (upd (sI S (A 11)) (8 * 0 + p0) (-1)) (8 * 1 + p1) (-1))) ∧ sI S' (A 11) = upd (upd I a (nI c)) (8 + b) (nI c) ∧ sI S' (A 22) = upd (upd Po (2 * c) (nI a)) (2 * c + 1) (nI b) ∧ sI S' (A 24) = upd P c (nI 1) ∧ sI S' (A 25) = upd U c (nI 1)
theorem x_plug64 {Q : Option Value → MM → Prop} {S0 : MM} {f m n c a b d : Nat} {A : Nat → Nat} {lv : Lv} (hM : MS S0 m A) (hI : IV S0 m A n) (hc : c < 8) (ha : a < 8) (hb : b < 8) (hd : 1 ≤ d) (hd2 : d ≤ 8) (xa : sI S0 (A 11) a = -1 ∨ sI S0 (A 11) a = nI c) (xb : sI S0 (A 11) (8 + b) = -1 ∨ sI S0 (A 11) (8 + b) = nI c) (l0 : lvg lv 0 = some (.ref m)) (l1 : lvg lv 1 = some (.int (nI c))) (l2 : lvg lv 2 = some (.int (nI a))) (l3 : lvg lv 3 = some (.int (nI b))) (l4 : lvg lv 4 = some (.int (nI d))) (K : ∀ S' k g, k ≤ n → SM WP m A S0 S' → IV S' m A k → TL S' A k = (TL S0 A n).filter g → sI S' m 0 = nI 0 → PGM S0 S' A c a b → Q none S') : wpn (kX8_plug Q) (f + 4) 64 lv [.ref m] S0 0 0 := by
  refine u_X8_plug_64 ?_
  unfold bX8_plug_64
  refine e_cI (u_X8_plug_65 ?_)
  unfold bX8_plug_65
  refine y_mI (W := [0]) hM SM.rf hI.1 (by decide) (fun N e => nomatch (show (none : Option Nat) = some N from e)) (fun S1 he sh im1 => ?_)
  obtain ⟨iv1, h2⟩ := IV_SM hI hM sh im1 (by decide)
  have iv1' := iv1
  obtain ⟨j1, j2, j3, j4, j5⟩ := iv1'
  have hM1 := MS_SM hM sh
  have shW : SM WP m A S0 S1 := SM.tr SM.rf sh (by decide)
  have i11 : sI S1 (A 11) = sI S0 (A 11) := SM_a sh hM (by decide) (by decide)
  have i22 : sI S1 (A 22) = sI S0 (A 22) := SM_a sh hM (by decide) (by decide)
  have i24 : sI S1 (A 24) = sI S0 (A 24) := SM_a sh hM (by decide) (by decide)
  have i25 : sI S1 (A 25) = sI S0 (A 25) := SM_a sh hM (by decide) (by decide)
  have v0 : sI S1 m 0 = 0 := by rw [he]; exact rd_s
  have ya : sI S1 (A 11) (8 * 0 + a) = -1 ∨ sI S1 (A 11) (8 * 0 + a) = nI c := by rw [i11, Nat.mul_zero, Nat.zero_add]; exact xa
  have yb : sI S1 (A 11) (8 * 1 + b) = -1 ∨ sI S1 (A 11) (8 * 1 + b) = nI c := by rw [i11, Nat.mul_one]; exact xb
  refine e_ldA l0 (e_gV (v := 0) (SM_k sh hM.1) (by rw [he]; exact rd_s) ⟨fun _ => u_X8_plug_76 ?_, fun z => absurd (by decide) z⟩)
  unfold bX8_plug_76
  refine e_ldA l0 (e_gR hM1.1 (hM1.2.1 24 (by decide)).1 (e_ldI l1 (e_aI (N := 8) (kdA hM1 (by decide) rfl) (lnA hM1 (by decide) rfl) hc (by decide) (fun p hp => e_if0 (fun h0 => ?_) (fun h0 => ?_)))))
  · have hP : sI S1 (A 24) c = 0 := hp.trans h0
    exact x_plug90M (f := f) hM shW iv1 (Nat.le_refl _) (h2.trans (all_true _)) hc ha hb hd hd2 hP (freeM j2 hc hP (by decide) ha ya) (freeM j2 hc hP (by decide) hb yb) l0 l1 l2 l3 l4 v0 (fun S' k g hk s iv t h0 x11 x22 x24 x25 => K S' k g hk s iv t h0 ⟨_, _, _, _, Or.inl ⟨by rw [← i24]; exact hP, rfl, rfl, rfl, rfl⟩, by rw [x11, i11], by rw [x22, i22], by rw [x24, i24], by rw [x25, i25]⟩)
  · refine e_ldA l0 (e_ldI l1 (And.intro hM1.1 (And.intro ⟨by decide, by decide⟩ (x_f_isPulled hM1 j1 hc j4 j3 j2 (by rw [hp]; exact h0) (fun S2 k hk s2 im2 r2 k32 kT a24 a25 u25 a11 => ?_)))))
    obtain ⟨ut, -⟩ := UT_filter hc j5 kT a25
    obtain ⟨y0, y1, z0, z1, w0, w1, w2⟩ := a11
    have c22 : sI S2 (A 22) = sI S1 (A 22) := SM_a s2 hM1 (by decide) (by decide)
    have hP : sI S2 (A 24) c = 0 := by rw [a24, pk_us]; rfl
    have fl : ∃ g, TL S2 A k = (TL S1 A n).filter g := by
      rcases kT with ⟨q, -⟩ | q
      · exact ⟨_, q.trans (all_true _)⟩
      · exact ⟨_, q⟩
    obtain ⟨g, eg⟩ := fl
    have za : sI S2 (A 11) (8 * 0 + a) = -1 ∨ sI S2 (A 11) (8 * 0 + a) = nI c := by
      rcases (show sI S2 (A 11) (8 * 0 + a) = -1 ∨ sI S2 (A 11) (8 * 0 + a) = sI S1 (A 11) (8 * 0 + a) from by rw [w2]; by_cases hz : 8 * 0 + a = 8 * 0 + y0 ∨ 8 * 0 + a = 8 * 1 + y1; exact Or.inl (upd2_in hz); exact Or.inr (upd2 (fun z => hz (Or.inl z)) (fun z => hz (Or.inr z)))) with q | q
      · exact Or.inl q
      · rw [q]; exact ya
    have zb : sI S2 (A 11) (8 * 1 + b) = -1 ∨ sI S2 (A 11) (8 * 1 + b) = nI c := by
      rcases (show sI S2 (A 11) (8 * 1 + b) = -1 ∨ sI S2 (A 11) (8 * 1 + b) = sI S1 (A 11) (8 * 1 + b) from by rw [w2]; by_cases hz : 8 * 1 + b = 8 * 0 + y0 ∨ 8 * 1 + b = 8 * 1 + y1; exact Or.inl (upd2_in hz); exact Or.inr (upd2 (fun z => hz (Or.inl z)) (fun z => hz (Or.inr z)))) with q | q
      · exact Or.inl q
      · rw [q]; exact yb
    exact x_plug90M (f := f) hM (SM.tr shW s2 (by decide)) ⟨im2, r2, k32, by omega, ut⟩ hk (eg.trans (by rw [h2])) hc ha hb hd hd2 hP (freeM r2 hc hP (by decide) ha za) (freeM r2 hc hP (by decide) hb zb) l0 l1 l2 l3 l4 ((s2.2.2.2.2.2 0 (by decide)).trans v0) (fun S' k g hk s iv t h9 x11 x22 x24 x25 => K S' k g hk s iv t h9 ⟨_, _, _, sI S2 (A 25), Or.inr ⟨fun z => h0 (hp.symm.trans (by rw [i24]; exact z)), rfl, rfl, fun d hd => by rw [a25 d hd, i25], u25, y0, y1, z0, z1, by rw [← i22]; exact w0, by rw [← i22]; exact w1, rfl⟩, by rw [x11, w2, i11], by rw [x22, c22, i22], by rw [x24, a24, i24], x25⟩)
theorem x_Mplug {Q : Option Value → MM → Prop} {S0 : MM} {m n : Nat} {A : Nat → Nat} {v wa wb t : Int32} (hM : MS S0 m A) (hI : IV S0 m A n) (K1 : PGB v wa wb t → ∀ S' k g, k ≤ n → SM WP m A S0 S' → IV S' m A k → TL S' A k = (TL S0 A n).filter g → SM [0] m A S0 S' → sI S' m 0 = nI 1 → Q none S') (K2 : ∀ c a b, c < 8 → a < 8 → b < 8 → v = nI c → wa = nI a → wb = nI b → ¬ PGB v wa wb t → ¬ ((sI S0 (A 11) a = -1 ∨ sI S0 (A 11) a = nI c) ∧ (sI S0 (A 11) (8 + b) = -1 ∨ sI S0 (A 11) (8 + b) = nI c)) → ∀ S' k g, k ≤ n → SM WP m A S0 S' → IV S' m A k → TL S' A k = (TL S0 A n).filter g → SM [0] m A S0 S' → sI S' m 0 = nI 2 → Q none S') (K : ∀ c a b, c < 8 → a < 8 → b < 8 → v = nI c → wa = nI a → wb = nI b → ¬ PGB v wa wb t → (sI S0 (A 11) a = -1 ∨ sI S0 (A 11) a = nI c) → (sI S0 (A 11) (8 + b) = -1 ∨ sI S0 (A 11) (8 + b) = nI c) → ∀ S' k g, k ≤ n → SM WP m A S0 S' → IV S' m A k → TL S' A k = (TL S0 A n).filter g → sI S' m 0 = nI 0 → PGM S0 S' A c a b → Q none S') : wX8_plug [.ref m, .int v, .int wa, .int wb, .int t] S0 Q := by
  have bad : PGB v wa wb t → wpn (kX8_plug Q) 9 35 (lv_args 0 [.ref m, .int v, .int wa, .int wb, .int t]) [.ref m] S0 0 0 := fun h => by
    refine u_X8_plug_35 ?_
    unfold bX8_plug_35
    exact e_cN 1 rfl (x_plug_bad (f := 7) (t := 1) hM hI (by decide) rfl (K1 h))
  refine Exists.intro 10 (u_X8_plug_0 ?_)
  unfold bX8_plug_0
  refine e_ldA rfl (e_ldI rfl (And.intro ⟨by decide, by decide⟩ (z_MisCable' (fun h => e_ifN (by decide) (fun _ => bad (Or.inl h)) (fun q => absurd rfl q)) (fun c hc ec => e_ifN (by decide) (fun q => absurd q (by decide)) (fun _ => ?_)))))
  refine e_ldI rfl (And.intro ⟨by decide, by decide⟩ (z_MisPort' (fun h => e_ifN (by decide) (fun _ => bad (Or.inr (Or.inl h))) (fun q => absurd rfl q)) (fun a ha ea => e_ifN (by decide) (fun q => absurd q (by decide)) (fun _ => ?_))))
  refine e_ldI rfl (And.intro ⟨by decide, by decide⟩ (z_MisPort' (fun h => e_ifN (by decide) (fun _ => bad (Or.inr (Or.inr (Or.inl h)))) (fun q => absurd rfl q)) (fun b hb eb => e_ifN (by decide) (fun q => absurd q (by decide)) (fun _ => ?_))))
  refine e_ldI rfl (e_cI ⟨fun h => bad (Or.inr (Or.inr (Or.inr (Or.inl h)))), fun t0 => e_ldI rfl (e_cI ⟨fun t1 => u_X8_plug_39 ?_, fun h => bad (Or.inr (Or.inr (Or.inr (Or.inr h))))⟩)⟩)
  have nb : ¬ PGB v wa wb t := fun q => by
    rcases q with q | q | q | q | q
    · exact nb8 hc (ec ▸ q)
    · exact nb8 ha (ea ▸ q)
    · exact nb8 hb (eb ▸ q)
    · exact t0 q
    · exact q t1
  have hd : ∃ d, 1 ≤ d ∧ d ≤ 8 ∧ t = nI d := by
    have q1 : ¬ t.toInt < 1 := fun z => t0 (by
      show t < 1
      rw [Int32.lt_iff_toInt_lt, show (1 : Int32).toInt = 1 from by decide]
      exact z)
    have q2 : t.toInt ≤ 8 := by
      have := Int32.le_iff_toInt_le.mp (show t ≤ 8 from t1)
      rw [show (8 : Int32).toInt = 8 from by decide] at this
      exact this
    refine ⟨t.toInt.toNat, by omega, by omega, Int32.toInt_inj.mp ?_⟩
    rw [nI_toInt (by omega)]
    omega
  obtain ⟨d, hd1, hd2, ed⟩ := hd
  have K2' := K2 c a b hc ha hb ec ea eb nb
  have K' := K c a b hc ha hb ec ea eb nb
  subst ec ea eb ed
  have bad2 : ¬ ((sI S0 (A 11) a = -1 ∨ sI S0 (A 11) a = nI c) ∧ (sI S0 (A 11) (8 + b) = -1 ∨ sI S0 (A 11) (8 + b) = nI c)) → wpn (kX8_plug Q) 8 60 (lv_args 0 [.ref m, .int (nI c), .int (nI a), .int (nI b), .int (nI d)]) [.ref m] S0 0 0 := fun h => by
    refine u_X8_plug_60 ?_
    unfold bX8_plug_60
    exact e_cN 2 rfl (x_plug_bad (f := 6) (t := 2) hM hI (by decide) rfl (K2' h))
  unfold bX8_plug_39
  refine e_ldA rfl (e_ldI rfl (e_ldI rfl (And.intro hM.1 (And.intro ⟨by decide, by decide⟩ (x_f_isAnother hM (show a < 16 by omega) (fun xa => e_ifN (by decide) (fun _ => ?_) (fun q => absurd rfl q)) (fun xa => e_ifN (by decide) (fun q => absurd q (by decide)) (fun _ => bad2 (fun z => xa z.1))))))))
  refine e_ldA rfl (e_cN 8 rfl (e_ldI rfl (e_add (e_ldI rfl (And.intro hM.1 (And.intro ⟨by decide, by decide⟩ (x_f_isAnother hM (show 8 + b < 16 by omega) (fun xb => e_ifN (by decide) (fun _ => ?_) (fun q => absurd rfl q)) (fun xb => e_ifN (by decide) (fun q => absurd q (by decide)) (fun _ => bad2 (fun z => xb z.2))))))))))
  exact x_plug64 (f := 4) hM hI hc ha hb hd1 hd2 xa xb rfl rfl rfl rfl rfl (K' xa xb)
