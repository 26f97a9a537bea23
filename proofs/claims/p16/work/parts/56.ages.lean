theorem RV_7 {S S' : MM} {m x : Nat} {A : Nat → Nat} {v : Int32} (hM : MS S m A) (he : S' = pI S (A 7) x v) (h : RV S A) (hx : x < 16) (hl : ∃ c, c < 8 ∧ sI S (A 11) x = nI c ∧ sI S (A 25) c ≠ 0) : RV S' A := by
  obtain ⟨c, hc, h1, h2⟩ := hl
  have e : 8 * (x / 8) + x % 8 = x := by omega
  unfold RV
  rw [fn_s he rfl, fn_o (a := A 9) he rfl (ne_A hM (by decide) (by decide) (by decide)), fn_o (a := A 11) he rfl (ne_A hM (by decide) (by decide) (by decide)), fn_o (a := A 22) he rfl (ne_A hM (by decide) (by decide) (by decide)), fn_o (a := A 23) he rfl (ne_A hM (by decide) (by decide) (by decide)), fn_o (a := A 24) he rfl (ne_A hM (by decide) (by decide) (by decide)), fn_o (a := A 25) he rfl (ne_A hM (by decide) (by decide) (by decide))]
  have q := RI_view (v := v) (e := x / 8) (p := x % 8) h (by omega) (by omega) hc (by rw [e]; exact h1) h2
  rw [e] at q
  exact q
theorem q_ages20 {Q : Option Value → MM → Prop} {S0 : MM} {f m x : Nat} {A : Nat → Nat} {lv : Lv} (hM : MS S0 m A) (im : IM S0 m A) (hR : RV S0 A) (hx : x < 16) (hl : ∃ c, c < 8 ∧ sI S0 (A 11) x = nI c ∧ sI S0 (A 25) c ≠ 0) (l0 : lvg lv 0 = some (.ref m)) (l1 : lvg lv 1 = some (.int (nI x))) (K : ∀ S', SM [7, 8, 18] m A S0 S' → IM S' m A → RV S' A → Q none S') : wpn (kX8_ages Q) (f + 5) 20 lv [] S0 0 0 := by
  refine u_X8_ages_20 ?_
  unfold bX8_ages_20
  refine e_ldA l0 (e_gR hM.1 (hM.2.1 15 (by decide)).1 (e_ldI l1 (e_aI (N := 16) (kdA hM (by decide) rfl) (lnA hM (by decide) rfl) hx (by decide) (fun g _ => e_ifz (u_X8_ages_30 ?_) (u_X8_ages_29 ?_)))))
  · unfold bX8_ages_30
    refine e_ldA l0 (e_gR hM.1 (hM.2.1 8 (by decide)).1 (e_ldI l1 (e_du2 (e_aI (N := 16) (kdA hM (by decide) rfl) (lnA hM (by decide) rfl) hx (by decide) (fun t _ => e_cI (e_bopU (fun r => y_mA (N := 16) (W := [7, 8, 18]) hM SM.rf im (by decide) rfl rfl hx (by decide) (by decide) (fun N e => nomatch (show (none : Option Nat) = some N from e)) (fun e => absurd e (by decide)) (fun S1 he1 sh1 im1 => ?_))))))))
    have s1 : SM [8] m A S0 S1 := by rw [he1]; exact SM.wa SM.rf (ne_m hM (by decide)) (by decide)
    have r1 : RV S1 A := RV_SM hR hM s1 (by decide)
    have hM1 := MS_SM hM sh1
    have hl1 : ∃ c, c < 8 ∧ sI S1 (A 11) x = nI c ∧ sI S1 (A 25) c ≠ 0 := by rw [SM_a s1 hM (k := 11) (by decide) (by decide), SM_a s1 hM (k := 25) (by decide) (by decide)]; exact hl
    refine e_ldA l0 (e_gR hM1.1 (hM1.2.1 8 (by decide)).1 (e_ldI l1 (e_aI (N := 16) (kdA hM1 (by decide) rfl) (lnA hM1 (by decide) rfl) hx (by decide) (fun t2 _ => e_ifz (u_X8_ages_50 ?_) (e_rV (K S1 sh1 im1 r1))))))
    unfold bX8_ages_50
    refine e_ldA l0 (e_gR hM1.1 (hM1.2.1 7 (by decide)).1 (e_ldI l1 (e_aI (N := 16) (kdA hM1 (by decide) rfl) (lnA hM1 (by decide) rfl) hx (by decide) (fun w _ => e_cI (e_ifc ?_ (u_X8_ages_82 ?_))))))
    · refine e_ldA l0 (e_gR hM1.1 (hM1.2.1 7 (by decide)).1 (e_ldI l1 (e_cI (y_mA (N := 16) hM sh1 im1 (by decide) rfl rfl hx (by decide) (by decide) (fun N e => nomatch (show (none : Option Nat) = some N from e)) (fun e => absurd e (by decide)) (fun S2 he2 sh2 im2 => ?_)))))
      have r2 : RV S2 A := RV_7 hM1 he2 r1 hx hl1
      have hM2 := MS_SM hM sh2
      refine e_ldA l0 (e_gR hM2.1 (hM2.2.1 8 (by decide)).1 (e_ldI l1 (e_cI (y_mA (N := 16) hM sh2 im2 (by decide) rfl rfl hx (by decide) (by decide) (fun N e => nomatch (show (none : Option Nat) = some N from e)) (fun e => absurd e (by decide)) (fun S3 he3 sh3 im3 => ?_)))))
      have s3 : SM [8] m A S2 S3 := by rw [he3]; exact SM.wa SM.rf (ne_m hM (by decide)) (by decide)
      have r3 : RV S3 A := RV_SM r2 hM2 s3 (by decide)
      have hM3 := MS_SM hM sh3
      refine e_ldA l0 (e_ldI l1 (And.intro hM3.1 (And.intro ⟨by decide, by decide⟩ (z_X8_partnerStops hM3 im3 hx (fun S4 s4 im4 => u_X8_ages_94 ?_)))))
      unfold bX8_ages_94
      exact e_rV (K S4 (SM.tr sh3 s4 (by decide)) im4 (RV_SM r3 hM3 s4 (by decide)))
    · unfold bX8_ages_82
      refine e_ldA l0 (e_gR hM1.1 (hM1.2.1 7 (by decide)).1 (e_ldI l1 (e_cI (y_mA (N := 16) hM sh1 im1 (by decide) rfl rfl hx (by decide) (by decide) (fun N e => nomatch (show (none : Option Nat) = some N from e)) (fun e => absurd e (by decide)) (fun S2 he2 sh2 im2 => ?_)))))
      have r2 : RV S2 A := RV_7 hM1 he2 r1 hx hl1
      have hM2 := MS_SM hM sh2
      refine e_ldA l0 (e_ldI l1 (And.intro hM2.1 (And.intro ⟨by decide, by decide⟩ (z_X8_forgets hM2 im2 hx (fun S4 s4 im4 => u_X8_ages_94 ?_)))))
      unfold bX8_ages_94
      exact e_rV (K S4 (SM.tr sh2 s4 (by decide)) im4 (RV_SM r2 hM2 s4 (by decide)))
  · unfold bX8_ages_29
    exact e_rV (K S0 SM.rf im hR)
theorem z_f_ages {Q : Option Value → MM → Prop} {S0 : MM} {m x : Nat} {A : Nat → Nat} (hM : MS S0 m A) (im : IM S0 m A) (hR : RV S0 A) (hx : x < 16) (K : ∀ S', SM [7, 8, 18] m A S0 S' → IM S' m A → RV S' A → Q none S') : wX8_ages [.ref m, .int (nI x)] S0 Q := by
  refine Exists.intro 7 (u_X8_ages_0 ?_)
  unfold bX8_ages_0
  refine e_ldA rfl (e_gR hM.1 (hM.2.1 7 (by decide)).1 (e_ldI rfl (e_aI (N := 16) (kdA hM (by decide) rfl) (lnA hM (by decide) rfl) hx (by decide) (fun v hv => e_cI ⟨fun h => ?_, fun _ => ?_⟩))))
  · exact q_ages20 (f := 1) hM im hR hx (RI_lit hR hx (Or.inl (by rw [hv, show v = 1 from h]; decide))) rfl rfl K
  · refine e_ldA rfl (e_gR hM.1 (hM.2.1 7 (by decide)).1 (e_ldI rfl (e_aI (N := 16) (kdA hM (by decide) rfl) (lnA hM (by decide) rfl) hx (by decide) (fun w hw => e_cI ⟨fun h => ?_, fun _ => u_X8_ages_29 ?_⟩))))
    · exact q_ages20 (f := 1) hM im hR hx (RI_lit hR hx (Or.inl (by rw [hw, show w = 2 from h]; decide))) rfl rfl K
    · unfold bX8_ages_29
      exact e_rV (K S0 SM.rf im hR)
