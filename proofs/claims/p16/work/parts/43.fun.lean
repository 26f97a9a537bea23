/-! THE REFERENCE'S ARRAYS AS FUNCTIONS: what a method makes of those that the invariant speaks of -/
theorem fn_s {S S' : MM} {a j : Nat} {v : Int32} {F : Nat → Int32} (he : S' = pI S a j v) (h : sI S a = F) : sI S' a = upd F j v := by
  funext i
  rw [he, sI_pI]
  by_cases hi : i = j
  · rw [hi, up2_self, pk_us]
  · rw [up2_ne (fun z => hi z.2), pk_un hi, h]
theorem fn_o {S S' : MM} {a b j : Nat} {v : Int32} {F : Nat → Int32} (he : S' = pI S b j v) (h : sI S a = F) (hn : a ≠ b) : sI S' a = F := by rw [he, sI_pI, up2_row hn]; exact h
theorem ne_A {S : MM} {m : Nat} {A : Nat → Nat} {k k' : Nat} (hM : MS S m A) (h : k ∈ DM) (h' : k' ∈ DM) (hn : k ≠ k') : A k ≠ A k' := fun z => hn (hM.2.2.1 k h k' h' z)
theorem ne_m {S : MM} {m : Nat} {A : Nat → Nat} {k : Nat} (hM : MS S m A) (h : k ∈ DM) : A k ≠ m := (hM.2.1 k h).2.2.2
theorem SM_a {W : List Nat} {m : Nat} {A : Nat → Nat} {S S' : MM} {k : Nat} (e : SM W m A S S') (hM : MS S m A) (hk : k ∈ DM) (hw : k ∉ W) : sI S' (A k) = sI S (A k) := by
  refine e.2.2.2.2.1 (A k) (ne_m hM hk) (fun k' hk' => ?_)
  by_cases hd : k' ∈ DM
  · exact ne_A hM hk hd (fun z => hw (by rw [z]; exact hk'))
  · rw [hM.2.2.2 k' hd]
    exact ne_m hM hk
theorem z_f_goesTo {Q : Option Value → MM → Prop} {S0 : MM} {m : Nat} {A : Nat → Nat} {i1 : Nat} {w2 : Int32} (hM : MS S0 m A) (im : IM S0 m A) (h1 : i1 < 16) (K : ∀ S', SM [9, 40] m A S0 S' → IM S' m A → sI S' (A 9) = (upd (sI S0 (A 9)) i1 w2) → Q none S') : wX8_goesTo [.ref m, .int (nI i1), .int w2] S0 Q := by
  have sh : SM [9, 40] m A S0 S0 := SM.rf
  refine Exists.intro 60 (u_X8_goesTo_0 ?_)
  unfold bX8_goesTo_0
  refine e_ldI rfl ?_
  refine e_ldA rfl ?_
  refine e_gR (SM_k sh hM.1) (SM_r sh (hM.2.1 9 (by decide)).1) ?_
  refine e_ldI rfl ?_
  refine e_aI (N := 16) (SM_k sh (hM.2.1 9 (by decide)).2.1) (SM_n sh (hM.2.1 9 (by decide)).2.2.1) (by omega) (by decide) (fun v1 hv2 => ?_)
  refine e_ifc ?_ ?_
  · refine u_X8_goesTo_38 ?_
    unfold bX8_goesTo_38
    refine e_ldA rfl ?_
    refine e_gR (SM_k sh hM.1) (SM_r sh (hM.2.1 9 (by decide)).1) ?_
    refine e_ldI rfl ?_
    refine e_ldI rfl ?_
    refine y_mA (N := 16) hM sh im (by decide) rfl rfl (by omega) (by decide) (by decide) (fun N e => nomatch (show (none : Option Nat) = some N from e)) (fun e => absurd e (by decide)) (fun S3 he4 sh5 ir6 => ?_)
    exact e_rV (K _ sh5 ir6 (fn_s he4 rfl))
  · refine e_ldI rfl ?_
    refine e_cN 4 rfl ?_
    refine e_ifc ?_ ?_
    · refine u_X8_goesTo_25 ?_
      unfold bX8_goesTo_25
      refine e_ldA rfl ?_
      refine e_gR (SM_k sh hM.1) (SM_r sh (hM.2.1 40 (by decide)).1) ?_
      refine e_ldI rfl ?_
      refine e_cN 8 rfl ?_
      refine e_div (by omega) (by decide) (by decide) ?_
      refine e_du2 ?_
      refine e_aI (N := 2) (SM_k sh (hM.2.1 40 (by decide)).2.1) (SM_n sh (hM.2.1 40 (by decide)).2.2.1) (by omega) (by decide) (fun v7 hv8 => ?_)
      refine e_cN 1 rfl ?_
      refine e_bopU (fun r9 => ?_)
      refine y_mA (N := 2) hM sh im (by decide) rfl rfl (by omega) (by decide) (by decide) (fun N e => nomatch (show (none : Option Nat) = some N from e)) (fun e => absurd e (by decide)) (fun S10 he11 sh12 ir13 => ?_)
      refine u_X8_goesTo_38 ?_
      unfold bX8_goesTo_38
      refine e_ldA rfl ?_
      refine e_gR (SM_k sh12 hM.1) (SM_r sh12 (hM.2.1 9 (by decide)).1) ?_
      refine e_ldI rfl ?_
      refine e_ldI rfl ?_
      refine y_mA (N := 16) hM sh12 ir13 (by decide) rfl rfl (by omega) (by decide) (by decide) (fun N e => nomatch (show (none : Option Nat) = some N from e)) (fun e => absurd e (by decide)) (fun S14 he15 sh16 ir17 => ?_)
      exact e_rV (K _ sh16 ir17 (fn_s he15 (fn_o he11 rfl (ne_A hM (by decide) (by decide) (by decide)))))
    · refine e_ldA rfl ?_
      refine e_gR (SM_k sh hM.1) (SM_r sh (hM.2.1 9 (by decide)).1) ?_
      refine e_ldI rfl ?_
      refine e_aI (N := 16) (SM_k sh (hM.2.1 9 (by decide)).2.1) (SM_n sh (hM.2.1 9 (by decide)).2.2.1) (by omega) (by decide) (fun v18 hv19 => ?_)
      refine e_cN 4 rfl ?_
      refine e_ifc ?_ ?_
      · refine u_X8_goesTo_25 ?_
        unfold bX8_goesTo_25
        refine e_ldA rfl ?_
        refine e_gR (SM_k sh hM.1) (SM_r sh (hM.2.1 40 (by decide)).1) ?_
        refine e_ldI rfl ?_
        refine e_cN 8 rfl ?_
        refine e_div (by omega) (by decide) (by decide) ?_
        refine e_du2 ?_
        refine e_aI (N := 2) (SM_k sh (hM.2.1 40 (by decide)).2.1) (SM_n sh (hM.2.1 40 (by decide)).2.2.1) (by omega) (by decide) (fun v20 hv21 => ?_)
        refine e_cN 1 rfl ?_
        refine e_bopU (fun r22 => ?_)
        refine y_mA (N := 2) hM sh im (by decide) rfl rfl (by omega) (by decide) (by decide) (fun N e => nomatch (show (none : Option Nat) = some N from e)) (fun e => absurd e (by decide)) (fun S23 he24 sh25 ir26 => ?_)
        refine u_X8_goesTo_38 ?_
        unfold bX8_goesTo_38
        refine e_ldA rfl ?_
        refine e_gR (SM_k sh25 hM.1) (SM_r sh25 (hM.2.1 9 (by decide)).1) ?_
        refine e_ldI rfl ?_
        refine e_ldI rfl ?_
        refine y_mA (N := 16) hM sh25 ir26 (by decide) rfl rfl (by omega) (by decide) (by decide) (fun N e => nomatch (show (none : Option Nat) = some N from e)) (fun e => absurd e (by decide)) (fun S27 he28 sh29 ir30 => ?_)
        exact e_rV (K _ sh29 ir30 (fn_s he28 (fn_o he24 rfl (ne_A hM (by decide) (by decide) (by decide)))))
      · refine u_X8_goesTo_38 ?_
        unfold bX8_goesTo_38
        refine e_ldA rfl ?_
        refine e_gR (SM_k sh hM.1) (SM_r sh (hM.2.1 9 (by decide)).1) ?_
        refine e_ldI rfl ?_
        refine e_ldI rfl ?_
        refine y_mA (N := 16) hM sh im (by decide) rfl rfl (by omega) (by decide) (by decide) (fun N e => nomatch (show (none : Option Nat) = some N from e)) (fun e => absurd e (by decide)) (fun S31 he32 sh33 ir34 => ?_)
        exact e_rV (K _ sh33 ir34 (fn_s he32 rfl))
theorem z_f_isLitNow {Q : Option Value → MM → Prop} {S0 : MM} {m : Nat} {A : Nat → Nat} {i1 : Nat} (hM : MS S0 m A) (im : IM S0 m A) (h1 : i1 < 16) (K : ∀ S', SM [7, 8, 9, 14, 18, 21, 40] m A S0 S' → IM S' m A → sI S' (A 7) = (upd (sI S0 (A 7)) i1 (nI 1)) → sI S' (A 9) = (upd (sI S0 (A 9)) i1 (nI 0)) → Q none S') : wX8_isLitNow [.ref m, .int (nI i1)] S0 Q := by
  have sh : SM [7, 8, 9, 14, 18, 21, 40] m A S0 S0 := SM.rf
  refine Exists.intro 60 (u_X8_isLitNow_0 ?_)
  unfold bX8_isLitNow_0
  refine e_ldA rfl ?_
  refine e_gR (SM_k sh hM.1) (SM_r sh (hM.2.1 7 (by decide)).1) ?_
  refine e_ldI rfl ?_
  refine e_cN 1 rfl ?_
  refine y_mA (N := 16) hM sh im (by decide) rfl rfl (by omega) (by decide) (by decide) (fun N e => nomatch (show (none : Option Nat) = some N from e)) (fun e => absurd e (by decide)) (fun S1 he2 sh3 ir4 => ?_)
  refine e_ldA rfl ?_
  refine e_gR (SM_k sh3 hM.1) (SM_r sh3 (hM.2.1 8 (by decide)).1) ?_
  refine e_ldI rfl ?_
  refine e_cN 3 rfl ?_
  refine y_mA (N := 16) hM sh3 ir4 (by decide) rfl rfl (by omega) (by decide) (by decide) (fun N e => nomatch (show (none : Option Nat) = some N from e)) (fun e => absurd e (by decide)) (fun S5 he6 sh7 ir8 => ?_)
  refine e_ldA rfl ?_
  refine e_ldI rfl ?_
  refine And.intro (SM_k sh7 hM.1) (And.intro ⟨by decide, by decide⟩ (z_X8_partnerStops (MS_SM hM sh7) ir8 (show i1 < 16 by omega) (fun S9 s10 ir11 => ?_)))
  have sh12 := SM.tr sh7 s10 (by decide)
  refine e_ldA rfl ?_
  refine e_ldI rfl ?_
  refine e_cN 0 rfl ?_
  refine And.intro (SM_k sh12 hM.1) (And.intro ⟨by decide, by decide⟩ (z_f_goesTo (MS_SM hM sh12) ir11 (show i1 < 16 by omega) (fun S14 s15 ir16 hf13 => ?_)))
  have sh17 := SM.tr sh12 s15 (by decide)
  refine e_ldA rfl ?_
  refine e_gR (SM_k sh17 hM.1) (SM_r sh17 (hM.2.1 14 (by decide)).1) ?_
  refine e_ldI rfl ?_
  refine e_cN 0 rfl ?_
  refine y_mB (N := 16) hM sh17 ir16 (by decide) rfl rfl (by omega) (by decide) (by omega) (by decide) (fun N e => nomatch (show (none : Option Nat) = some N from e)) (fun e => absurd e (by decide)) (fun S18 he19 sh20 ir21 => ?_)
  refine e_ldA rfl ?_
  refine e_gR (SM_k sh20 hM.1) (SM_r sh20 (hM.2.1 21 (by decide)).1) ?_
  refine e_ldI rfl ?_
  refine e_cI ?_
  refine y_mA (N := 16) hM sh20 ir21 (by decide) rfl rfl (by omega) (by decide) (by decide) (fun N e => nomatch (show (none : Option Nat) = some N from e)) (fun e => absurd e (by decide)) (fun S22 he23 sh24 ir25 => ?_)
  exact e_rV (K _ sh24 ir25 (fn_o he23 (fn_o he19 ((SM_a s15 (MS_SM hM sh12) (by decide) (by decide)).trans ((SM_a s10 (MS_SM hM sh7) (by decide) (by decide)).trans (fn_o he6 (fn_s he2 rfl) (ne_A hM (by decide) (by decide) (by decide))))) (ne_A hM (by decide) (by decide) (by decide))) (ne_A hM (by decide) (by decide) (by decide))) (fn_o he23 (fn_o he19 (hf13.trans (by rw [((SM_a s10 (MS_SM hM sh7) (by decide) (by decide)).trans (fn_o he6 (fn_o he2 rfl (ne_A hM (by decide) (by decide) (by decide))) (ne_A hM (by decide) (by decide) (by decide))))])) (ne_A hM (by decide) (by decide) (by decide))) (ne_A hM (by decide) (by decide) (by decide))))
theorem z_f_isDarkNow {Q : Option Value → MM → Prop} {S0 : MM} {m : Nat} {A : Nat → Nat} {i1 : Nat} (hM : MS S0 m A) (im : IM S0 m A) (h1 : i1 < 16) (K : ∀ S', SM [7, 8, 9, 12, 13, 14, 18, 21, 40] m A S0 S' → IM S' m A → sI S' (A 7) = (upd (sI S0 (A 7)) i1 (nI 0)) → sI S' (A 9) = (upd (sI S0 (A 9)) i1 (nI 0)) → Q none S') : wX8_isDarkNow [.ref m, .int (nI i1)] S0 Q := by
  have sh : SM [7, 8, 9, 12, 13, 14, 18, 21, 40] m A S0 S0 := SM.rf
  refine Exists.intro 60 (u_X8_isDarkNow_0 ?_)
  unfold bX8_isDarkNow_0
  refine e_ldA rfl ?_
  refine e_gR (SM_k sh hM.1) (SM_r sh (hM.2.1 7 (by decide)).1) ?_
  refine e_ldI rfl ?_
  refine e_cN 0 rfl ?_
  refine y_mA (N := 16) hM sh im (by decide) rfl rfl (by omega) (by decide) (by decide) (fun N e => nomatch (show (none : Option Nat) = some N from e)) (fun e => absurd e (by decide)) (fun S1 he2 sh3 ir4 => ?_)
  refine e_ldA rfl ?_
  refine e_gR (SM_k sh3 hM.1) (SM_r sh3 (hM.2.1 8 (by decide)).1) ?_
  refine e_ldI rfl ?_
  refine e_cN 0 rfl ?_
  refine y_mA (N := 16) hM sh3 ir4 (by decide) rfl rfl (by omega) (by decide) (by decide) (fun N e => nomatch (show (none : Option Nat) = some N from e)) (fun e => absurd e (by decide)) (fun S5 he6 sh7 ir8 => ?_)
  refine e_ldA rfl ?_
  refine e_ldI rfl ?_
  refine e_cN 0 rfl ?_
  refine And.intro (SM_k sh7 hM.1) (And.intro ⟨by decide, by decide⟩ (z_f_goesTo (MS_SM hM sh7) ir8 (show i1 < 16 by omega) (fun S10 s11 ir12 hf9 => ?_)))
  have sh13 := SM.tr sh7 s11 (by decide)
  refine e_ldA rfl ?_
  refine e_ldI rfl ?_
  refine And.intro (SM_k sh13 hM.1) (And.intro ⟨by decide, by decide⟩ (z_X8_forgets (MS_SM hM sh13) ir12 (show i1 < 16 by omega) (fun S14 s15 ir16 => ?_)))
  have sh17 := SM.tr sh13 s15 (by decide)
  refine e_ldA rfl ?_
  refine e_gR (SM_k sh17 hM.1) (SM_r sh17 (hM.2.1 12 (by decide)).1) ?_
  refine e_ldI rfl ?_
  refine e_cI ?_
  refine y_mA (N := 16) hM sh17 ir16 (by decide) rfl rfl (by omega) (by decide) (by decide) (fun N e => nomatch (show (none : Option Nat) = some N from e)) (fun e => absurd e (by decide)) (fun S18 he19 sh20 ir21 => ?_)
  refine e_ldA rfl ?_
  refine e_gR (SM_k sh20 hM.1) (SM_r sh20 (hM.2.1 13 (by decide)).1) ?_
  refine e_ldI rfl ?_
  refine e_cN 0 rfl ?_
  refine y_mB (N := 16) hM sh20 ir21 (by decide) rfl rfl (by omega) (by decide) (by omega) (by decide) (fun N e => nomatch (show (none : Option Nat) = some N from e)) (fun e => absurd e (by decide)) (fun S22 he23 sh24 ir25 => ?_)
  refine e_ldA rfl ?_
  refine e_gR (SM_k sh24 hM.1) (SM_r sh24 (hM.2.1 14 (by decide)).1) ?_
  refine e_ldI rfl ?_
  refine e_cN 0 rfl ?_
  refine y_mB (N := 16) hM sh24 ir25 (by decide) rfl rfl (by omega) (by decide) (by omega) (by decide) (fun N e => nomatch (show (none : Option Nat) = some N from e)) (fun e => absurd e (by decide)) (fun S26 he27 sh28 ir29 => ?_)
  refine e_ldA rfl ?_
  refine e_gR (SM_k sh28 hM.1) (SM_r sh28 (hM.2.1 21 (by decide)).1) ?_
  refine e_ldI rfl ?_
  refine e_cI ?_
  refine y_mA (N := 16) hM sh28 ir29 (by decide) rfl rfl (by omega) (by decide) (by decide) (fun N e => nomatch (show (none : Option Nat) = some N from e)) (fun e => absurd e (by decide)) (fun S30 he31 sh32 ir33 => ?_)
  exact e_rV (K _ sh32 ir33 (fn_o he31 (fn_o he27 (fn_o he23 (fn_o he19 ((SM_a s15 (MS_SM hM sh13) (by decide) (by decide)).trans ((SM_a s11 (MS_SM hM sh7) (by decide) (by decide)).trans (fn_o he6 (fn_s he2 rfl) (ne_A hM (by decide) (by decide) (by decide))))) (ne_A hM (by decide) (by decide) (by decide))) (ne_A hM (by decide) (by decide) (by decide))) (ne_A hM (by decide) (by decide) (by decide))) (ne_A hM (by decide) (by decide) (by decide))) (fn_o he31 (fn_o he27 (fn_o he23 (fn_o he19 ((SM_a s15 (MS_SM hM sh13) (by decide) (by decide)).trans (hf9.trans (by rw [(fn_o he6 (fn_o he2 rfl (ne_A hM (by decide) (by decide) (by decide))) (ne_A hM (by decide) (by decide) (by decide)))]))) (ne_A hM (by decide) (by decide) (by decide))) (ne_A hM (by decide) (by decide) (by decide))) (ne_A hM (by decide) (by decide) (by decide))) (ne_A hM (by decide) (by decide) (by decide))))
