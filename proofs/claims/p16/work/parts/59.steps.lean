theorem z_f_isLit {Q : Option Value → MM → Prop} {S0 : MM} {m x : Nat} {A : Nat → Nat} (hM : MS S0 m A) (hx : x < 16) (K0 : Q (some (.int (nI 0))) S0) (K1 : sI S0 (A 7) x ≠ 0 → Q (some (.int (nI 1))) S0) : wX8_isLit [.ref m, .int (nI x)] S0 Q := by
  refine Exists.intro 3 (u_X8_isLit_0 ?_)
  unfold bX8_isLit_0
  refine e_ldA rfl (e_gR hM.1 (hM.2.1 7 (by decide)).1 (e_ldI rfl (e_aI (N := 16) (kdA hM (by decide) rfl) (lnA hM (by decide) rfl) hx (by decide) (fun v hv => e_if0 (fun h => u_X8_isLit_13 ?_) (fun h => e_cN 1 rfl (u_X8_isLit_14 ?_))))))
  · unfold bX8_isLit_13
    refine e_cN 0 rfl (u_X8_isLit_14 ?_)
    unfold bX8_isLit_14
    exact e_rZ (by decide) K0
  · unfold bX8_isLit_14
    exact e_rZ (by decide) (K1 (by rw [hv]; exact h))
theorem RV_9 {S S' : MM} {m x : Nat} {A : Nat → Nat} {v : Int32} (hM : MS S m A) (e : SM [9, 40] m A S S') (he : sI S' (A 9) = upd (sI S (A 9)) x v) (h : RV S A) (hx : x < 16) (hl : ∃ c, c < 8 ∧ sI S (A 11) x = nI c ∧ sI S (A 25) c ≠ 0) : RV S' A := by
  obtain ⟨c, hc, h1, h2⟩ := hl
  have ex : 8 * (x / 8) + x % 8 = x := by omega
  unfold RV
  rw [he, SM_a e hM (k := 7) (by decide) (by decide), SM_a e hM (k := 11) (by decide) (by decide), SM_a e hM (k := 22) (by decide) (by decide), SM_a e hM (k := 23) (by decide) (by decide), SM_a e hM (k := 24) (by decide) (by decide), SM_a e hM (k := 25) (by decide) (by decide)]
  have q := RI_stage (v := v) (e := x / 8) (p := x % 8) h (by omega) (by omega) hc (by rw [ex]; exact h1) h2
  rw [ex] at q
  exact q
theorem lit_SM {W : List Nat} {S S' : MM} {m x : Nat} {A : Nat → Nat} (hl : ∃ c, c < 8 ∧ sI S (A 11) x = nI c ∧ sI S (A 25) c ≠ 0) (hM : MS S m A) (e : SM W m A S S') (h1 : 11 ∉ W) (h2 : 25 ∉ W) : ∃ c, c < 8 ∧ sI S' (A 11) x = nI c ∧ sI S' (A 25) c ≠ 0 := by rw [SM_a e hM (k := 11) (by decide) h1, SM_a e hM (k := 25) (by decide) h2]; exact hl
theorem SM_one {S S' : MM} {m k j : Nat} {A : Nat → Nat} {v : Int32} (he : S' = pI S (A k) j v) (hn : A k ≠ m) : SM [k] m A S S' := by rw [he]; exact SM.wa SM.rf hn (by simp)
theorem z_f_steps {Q : Option Value → MM → Prop} {S0 : MM} {m : Nat} {A : Nat → Nat} {i1 : Nat} (hM : MS S0 m A) (hR : RV S0 A) (im : IM S0 m A) (h1 : i1 < 16) (K : ∀ S', SM [9, 10, 19, 40] m A S0 S' → IM S' m A → RV S' A → Q none S') : wX8_steps [.ref m, .int (nI i1)] S0 Q := by
  have sh : SM [9, 10, 19, 40] m A S0 S0 := SM.rf
  refine Exists.intro 60 (u_X8_steps_0 ?_)
  unfold bX8_steps_0
  refine e_ldA rfl ?_
  refine e_ldI rfl ?_
  refine And.intro (SM_k sh hM.1) (And.intro ⟨by decide, by decide⟩ (z_f_isLit (MS_SM hM sh) (show i1 < 16 by omega) ?_ (fun h1 => ?_)))
  · refine e_ifN (by omega) (fun h3 => ?_) (fun h3 => ?_)
    · exact e_rV (K _ sh im hR)
    · exact absurd rfl h3
  · have hl2 := RI_lit hR (show i1 < 16 by omega) (Or.inl h1)
    refine e_ifN (by omega) (fun h4 => ?_) (fun h4 => ?_)
    · exact absurd h4 (by decide)
    · refine u_X8_steps_9 ?_
      unfold bX8_steps_9
      refine e_ldA rfl ?_
      refine e_gR (SM_k sh hM.1) (SM_r sh (hM.2.1 13 (by decide)).1) ?_
      refine e_ldI rfl ?_
      refine e_aI (N := 16) (SM_k sh (hM.2.1 13 (by decide)).2.1) (SM_n sh (hM.2.1 13 (by decide)).2.2.1) (by omega) (by decide) (fun v5 hv6 => ?_)
      refine e_if0 (fun h7 => ?_) (fun h7 => ?_)
      · refine u_X8_steps_26 ?_
        unfold bX8_steps_26
        refine e_ldA rfl ?_
        refine e_ldI rfl ?_
        refine e_cN 0 rfl ?_
        refine And.intro (SM_k sh hM.1) (And.intro ⟨by decide, by decide⟩ (z_f_goesTo (MS_SM hM sh) im (show i1 < 16 by omega) (fun S8 s9 ir10 hf12 => ?_)))
        have sh11 := SM.tr sh s9 (by decide)
        have rv13 := RV_9 (MS_SM hM sh) s9 hf12 hR (show i1 < 16 by omega) (lit_SM hl2 hM sh (by decide) (by decide))
        exact e_rV (K _ sh11 ir10 rv13)
      · refine e_ldA rfl ?_
        refine e_ldI rfl ?_
        refine And.intro (SM_k sh hM.1) (And.intro ⟨by decide, by decide⟩ (z_X8_isOther (MS_SM hM sh) im (show i1 < 16 by omega) (fun n18 S14 s15 ir16 hn19 => ?_)))
        have sh17 := SM.tr sh s15 (by decide)
        have rv20 := RV_SM hR (MS_SM hM sh) s15 (by decide)
        refine e_ifN (by omega) (fun h21 => ?_) (fun h21 => ?_)
        · refine u_X8_steps_33 ?_
          unfold bX8_steps_33
          refine e_ldA rfl ?_
          refine e_ldI rfl ?_
          refine e_cN 8 rfl ?_
          refine And.intro (SM_k sh17 hM.1) (And.intro ⟨by decide, by decide⟩ (z_X8_isPartner (MS_SM hM sh17) ir16 (show i1 < 16 by omega) (fun n26 S22 s23 ir24 hn27 => ?_)))
          have sh25 := SM.tr sh17 s23 (by decide)
          have rv28 := RV_SM rv20 (MS_SM hM sh17) s23 (by decide)
          refine e_stI ?_
          refine e_ldA (lvg_ne rfl rfl (by decide)) ?_
          refine e_ldI (lvg_ne rfl rfl (by decide)) ?_
          refine e_cN 16 rfl ?_
          refine And.intro (SM_k sh25 hM.1) (And.intro ⟨by decide, by decide⟩ (z_X8_isPartner (MS_SM hM sh25) ir24 (show i1 < 16 by omega) (fun n33 S29 s30 ir31 hn34 => ?_)))
          have sh32 := SM.tr sh25 s30 (by decide)
          have rv35 := RV_SM rv28 (MS_SM hM sh25) s30 (by decide)
          refine e_stI ?_
          refine e_ldA (lvg_ne (lvg_ne rfl rfl (by decide)) rfl (by decide)) ?_
          refine e_gR (SM_k sh32 hM.1) (SM_r sh32 (hM.2.1 9 (by decide)).1) ?_
          refine e_ldI (lvg_ne (lvg_ne rfl rfl (by decide)) rfl (by decide)) ?_
          refine e_aI (N := 16) (SM_k sh32 (hM.2.1 9 (by decide)).2.1) (SM_n sh32 (hM.2.1 9 (by decide)).2.2.1) (by omega) (by decide) (fun v36 hv37 => ?_)
          refine e_sw0 (by decide) ?_ (fun j38 h39 e40 => ?_)
          · refine u_X8_steps_219 ?_
            unfold bX8_steps_219
            refine e_ldI (lvg_ne lvg_self rfl (by decide)) ?_
            refine e_ifN (by omega) (fun h41 => ?_) (fun h41 => ?_)
            · refine e_ldA (lvg_ne (lvg_ne rfl rfl (by decide)) rfl (by decide)) ?_
              refine e_ldI (lvg_ne (lvg_ne rfl rfl (by decide)) rfl (by decide)) ?_
              refine e_cN 2 rfl ?_
              refine And.intro (SM_k sh32 hM.1) (And.intro ⟨by decide, by decide⟩ (z_f_goesTo (MS_SM hM sh32) ir31 (show i1 < 16 by omega) (fun S42 s43 ir44 hf46 => ?_)))
              have sh45 := SM.tr sh32 s43 (by decide)
              have rv47 := RV_9 (MS_SM hM sh32) s43 hf46 rv35 (show i1 < 16 by omega) (lit_SM hl2 hM sh32 (by decide) (by decide))
              refine u_X8_steps_242 ?_
              unfold bX8_steps_242
              exact e_rV (K _ sh45 ir44 rv47)
            · refine u_X8_steps_232 ?_
              unfold bX8_steps_232
              refine e_ldI lvg_self ?_
              refine e_ifN (by omega) (fun h48 => ?_) (fun h48 => ?_)
              · refine e_ldA (lvg_ne (lvg_ne rfl rfl (by decide)) rfl (by decide)) ?_
                refine e_ldI (lvg_ne (lvg_ne rfl rfl (by decide)) rfl (by decide)) ?_
                refine e_cN 3 rfl ?_
                refine And.intro (SM_k sh32 hM.1) (And.intro ⟨by decide, by decide⟩ (z_f_goesTo (MS_SM hM sh32) ir31 (show i1 < 16 by omega) (fun S49 s50 ir51 hf53 => ?_)))
                have sh52 := SM.tr sh32 s50 (by decide)
                have rv54 := RV_9 (MS_SM hM sh32) s50 hf53 rv35 (show i1 < 16 by omega) (lit_SM hl2 hM sh32 (by decide) (by decide))
                refine u_X8_steps_242 ?_
                unfold bX8_steps_242
                exact e_rV (K _ sh52 ir51 rv54)
              · refine u_X8_steps_242 ?_
                unfold bX8_steps_242
                exact e_rV (K _ sh32 ir31 rv35)
          · match j38, h39, e40 with
            | 0, _, e40 =>
              subst e40
              refine u_X8_steps_84 ?_
              unfold bX8_steps_84
              refine e_ldA (lvg_ne (lvg_ne rfl rfl (by decide)) rfl (by decide)) ?_
              refine e_ldI (lvg_ne (lvg_ne rfl rfl (by decide)) rfl (by decide)) ?_
              refine e_cN 1 rfl ?_
              refine And.intro (SM_k sh32 hM.1) (And.intro ⟨by decide, by decide⟩ (z_f_goesTo (MS_SM hM sh32) ir31 (show i1 < 16 by omega) (fun S55 s56 ir57 hf59 => ?_)))
              have sh58 := SM.tr sh32 s56 (by decide)
              have rv60 := RV_9 (MS_SM hM sh32) s56 hf59 rv35 (show i1 < 16 by omega) (lit_SM hl2 hM sh32 (by decide) (by decide))
              refine e_ldA (lvg_ne (lvg_ne rfl rfl (by decide)) rfl (by decide)) ?_
              refine e_gR (SM_k sh58 hM.1) (SM_r sh58 (hM.2.1 10 (by decide)).1) ?_
              refine e_ldI (lvg_ne (lvg_ne rfl rfl (by decide)) rfl (by decide)) ?_
              refine e_cN 2 rfl ?_
              refine y_mA (N := 16) hM sh58 ir57 (by decide) rfl rfl (by omega) (by decide) (by decide) (fun N e => nomatch (show (none : Option Nat) = some N from e)) (fun e => absurd e (by decide)) (fun S61 he62 sh63 ir64 => ?_)
              have rv65 := RV_SM rv60 (MS_SM hM sh58) (SM_one he62 (ne_m hM (by decide))) (by decide)
              refine e_ldA (lvg_ne (lvg_ne rfl rfl (by decide)) rfl (by decide)) ?_
              refine e_gR (SM_k sh63 hM.1) (SM_r sh63 (hM.2.1 19 (by decide)).1) ?_
              refine e_cN 3 rfl ?_
              refine e_ldI (lvg_ne (lvg_ne rfl rfl (by decide)) rfl (by decide)) ?_
              refine e_mul ?_
              refine e_ldA (lvg_ne (lvg_ne rfl rfl (by decide)) rfl (by decide)) ?_
              refine e_gR (SM_k sh63 hM.1) (SM_r sh63 (hM.2.1 3 (by decide)).1) ?_
              refine e_ldI (lvg_ne (lvg_ne rfl rfl (by decide)) rfl (by decide)) ?_
              refine e_aI (N := 16) (SM_k sh63 (hM.2.1 3 (by decide)).2.1) (SM_n sh63 (hM.2.1 3 (by decide)).2.2.1) (by omega) (by decide) (fun v66 hv67 => ?_)
              refine y_mA (N := 48) hM sh63 ir64 (by decide) rfl rfl (by omega) (by decide) (by decide) (fun N e => nomatch (show (none : Option Nat) = some N from e)) (fun e => absurd e (by decide)) (fun S68 he69 sh70 ir71 => ?_)
              have rv72 := RV_SM rv65 (MS_SM hM sh63) (SM_one he69 (ne_m hM (by decide))) (by decide)
              refine e_ldA (lvg_ne (lvg_ne rfl rfl (by decide)) rfl (by decide)) ?_
              refine e_gR (SM_k sh70 hM.1) (SM_r sh70 (hM.2.1 19 (by decide)).1) ?_
              refine e_cN 3 rfl ?_
              refine e_ldI (lvg_ne (lvg_ne rfl rfl (by decide)) rfl (by decide)) ?_
              refine e_mul ?_
              refine e_cN 1 rfl ?_
              refine e_add ?_
              refine e_ldA (lvg_ne (lvg_ne rfl rfl (by decide)) rfl (by decide)) ?_
              refine e_gR (SM_k sh70 hM.1) (SM_r sh70 (hM.2.1 18 (by decide)).1) ?_
              refine e_cN 5 rfl ?_
              refine e_ldI (lvg_ne (lvg_ne rfl rfl (by decide)) rfl (by decide)) ?_
              refine e_mul ?_
              refine e_aI (N := 80) (SM_k sh70 (hM.2.1 18 (by decide)).2.1) (SM_n sh70 (hM.2.1 18 (by decide)).2.2.1) (by omega) (by decide) (fun v73 hv74 => ?_)
              refine y_mA (N := 48) hM sh70 ir71 (by decide) rfl rfl (by omega) (by decide) (by decide) (fun N e => nomatch (show (none : Option Nat) = some N from e)) (fun e => absurd e (by decide)) (fun S75 he76 sh77 ir78 => ?_)
              have rv79 := RV_SM rv72 (MS_SM hM sh70) (SM_one he76 (ne_m hM (by decide))) (by decide)
              refine e_ldA (lvg_ne (lvg_ne rfl rfl (by decide)) rfl (by decide)) ?_
              refine e_gR (SM_k sh77 hM.1) (SM_r sh77 (hM.2.1 19 (by decide)).1) ?_
              refine e_cN 3 rfl ?_
              refine e_ldI (lvg_ne (lvg_ne rfl rfl (by decide)) rfl (by decide)) ?_
              refine e_mul ?_
              refine e_cN 2 rfl ?_
              refine e_add ?_
              refine e_ldA (lvg_ne (lvg_ne rfl rfl (by decide)) rfl (by decide)) ?_
              refine e_gR (SM_k sh77 hM.1) (SM_r sh77 (hM.2.1 18 (by decide)).1) ?_
              refine e_cN 5 rfl ?_
              refine e_ldI (lvg_ne (lvg_ne rfl rfl (by decide)) rfl (by decide)) ?_
              refine e_mul ?_
              refine u_X8_steps_145 ?_
              unfold bX8_steps_145
              refine e_cN 1 rfl ?_
              refine e_add ?_
              refine e_aI (N := 80) (SM_k sh77 (hM.2.1 18 (by decide)).2.1) (SM_n sh77 (hM.2.1 18 (by decide)).2.2.1) (by omega) (by decide) (fun v80 hv81 => ?_)
              refine y_mA (N := 48) hM sh77 ir78 (by decide) rfl rfl (by omega) (by decide) (by decide) (fun N e => nomatch (show (none : Option Nat) = some N from e)) (fun e => absurd e (by decide)) (fun S82 he83 sh84 ir85 => ?_)
              have rv86 := RV_SM rv79 (MS_SM hM sh77) (SM_one he83 (ne_m hM (by decide))) (by decide)
              refine u_X8_steps_242 ?_
              unfold bX8_steps_242
              exact e_rV (K _ sh84 ir85 rv86)
            | 1, _, e40 =>
              subst e40
              refine u_X8_steps_152 ?_
              unfold bX8_steps_152
              refine e_ldA (lvg_ne (lvg_ne rfl rfl (by decide)) rfl (by decide)) ?_
              refine e_gR (SM_k sh32 hM.1) (SM_r sh32 (hM.2.1 10 (by decide)).1) ?_
              refine e_ldI (lvg_ne (lvg_ne rfl rfl (by decide)) rfl (by decide)) ?_
              refine e_du2 ?_
              refine e_aI (N := 16) (SM_k sh32 (hM.2.1 10 (by decide)).2.1) (SM_n sh32 (hM.2.1 10 (by decide)).2.2.1) (by omega) (by decide) (fun v87 hv88 => ?_)
              refine e_cN 1 rfl ?_
              refine e_bopU (fun r89 => ?_)
              refine y_mA (N := 16) hM sh32 ir31 (by decide) rfl rfl (by omega) (by decide) (by decide) (fun N e => nomatch (show (none : Option Nat) = some N from e)) (fun e => absurd e (by decide)) (fun S90 he91 sh92 ir93 => ?_)
              have rv94 := RV_SM rv35 (MS_SM hM sh32) (SM_one he91 (ne_m hM (by decide))) (by decide)
              refine e_ldA (lvg_ne (lvg_ne rfl rfl (by decide)) rfl (by decide)) ?_
              refine e_gR (SM_k sh92 hM.1) (SM_r sh92 (hM.2.1 10 (by decide)).1) ?_
              refine e_ldI (lvg_ne (lvg_ne rfl rfl (by decide)) rfl (by decide)) ?_
              refine e_aI (N := 16) (SM_k sh92 (hM.2.1 10 (by decide)).2.1) (SM_n sh92 (hM.2.1 10 (by decide)).2.2.1) (by omega) (by decide) (fun v95 hv96 => ?_)
              refine e_if0 (fun h97 => ?_) (fun h97 => ?_)
              · refine e_ldA (lvg_ne (lvg_ne rfl rfl (by decide)) rfl (by decide)) ?_
                refine e_ldI (lvg_ne (lvg_ne rfl rfl (by decide)) rfl (by decide)) ?_
                refine e_cN 2 rfl ?_
                refine And.intro (SM_k sh92 hM.1) (And.intro ⟨by decide, by decide⟩ (z_f_goesTo (MS_SM hM sh92) ir93 (show i1 < 16 by omega) (fun S98 s99 ir100 hf102 => ?_)))
                have sh101 := SM.tr sh92 s99 (by decide)
                have rv103 := RV_9 (MS_SM hM sh92) s99 hf102 rv94 (show i1 < 16 by omega) (lit_SM hl2 hM sh92 (by decide) (by decide))
                refine u_X8_steps_242 ?_
                unfold bX8_steps_242
                exact e_rV (K _ sh101 ir100 rv103)
              · refine u_X8_steps_242 ?_
                unfold bX8_steps_242
                exact e_rV (K _ sh92 ir93 rv94)
            | 2, _, e40 =>
              subst e40
              refine u_X8_steps_180 ?_
              unfold bX8_steps_180
              refine e_ldI (lvg_ne lvg_self rfl (by decide)) ?_
              refine e_ifN (by omega) (fun h104 => ?_) (fun h104 => ?_)
              · refine u_X8_steps_242 ?_
                unfold bX8_steps_242
                exact e_rV (K _ sh32 ir31 rv35)
              · refine e_ldA (lvg_ne (lvg_ne rfl rfl (by decide)) rfl (by decide)) ?_
                refine e_ldI (lvg_ne (lvg_ne rfl rfl (by decide)) rfl (by decide)) ?_
                refine e_cN 3 rfl ?_
                refine And.intro (SM_k sh32 hM.1) (And.intro ⟨by decide, by decide⟩ (z_f_goesTo (MS_SM hM sh32) ir31 (show i1 < 16 by omega) (fun S105 s106 ir107 hf109 => ?_)))
                have sh108 := SM.tr sh32 s106 (by decide)
                have rv110 := RV_9 (MS_SM hM sh32) s106 hf109 rv35 (show i1 < 16 by omega) (lit_SM hl2 hM sh32 (by decide) (by decide))
                refine u_X8_steps_242 ?_
                unfold bX8_steps_242
                exact e_rV (K _ sh108 ir107 rv110)
            | 3, _, e40 =>
              subst e40
              refine u_X8_steps_193 ?_
              unfold bX8_steps_193
              refine e_ldI (lvg_ne lvg_self rfl (by decide)) ?_
              refine e_ifN (by omega) (fun h111 => ?_) (fun h111 => ?_)
              · refine e_ldA (lvg_ne (lvg_ne rfl rfl (by decide)) rfl (by decide)) ?_
                refine e_ldI (lvg_ne (lvg_ne rfl rfl (by decide)) rfl (by decide)) ?_
                refine e_cN 2 rfl ?_
                refine And.intro (SM_k sh32 hM.1) (And.intro ⟨by decide, by decide⟩ (z_f_goesTo (MS_SM hM sh32) ir31 (show i1 < 16 by omega) (fun S112 s113 ir114 hf116 => ?_)))
                have sh115 := SM.tr sh32 s113 (by decide)
                have rv117 := RV_9 (MS_SM hM sh32) s113 hf116 rv35 (show i1 < 16 by omega) (lit_SM hl2 hM sh32 (by decide) (by decide))
                refine u_X8_steps_242 ?_
                unfold bX8_steps_242
                exact e_rV (K _ sh115 ir114 rv117)
              · refine u_X8_steps_206 ?_
                unfold bX8_steps_206
                refine e_ldI lvg_self ?_
                refine e_ifN (by omega) (fun h118 => ?_) (fun h118 => ?_)
                · refine u_X8_steps_242 ?_
                  unfold bX8_steps_242
                  exact e_rV (K _ sh32 ir31 rv35)
                · refine e_ldA (lvg_ne (lvg_ne rfl rfl (by decide)) rfl (by decide)) ?_
                  refine e_ldI (lvg_ne (lvg_ne rfl rfl (by decide)) rfl (by decide)) ?_
                  refine e_cN 4 rfl ?_
                  refine And.intro (SM_k sh32 hM.1) (And.intro ⟨by decide, by decide⟩ (z_f_goesTo (MS_SM hM sh32) ir31 (show i1 < 16 by omega) (fun S119 s120 ir121 hf123 => ?_)))
                  have sh122 := SM.tr sh32 s120 (by decide)
                  have rv124 := RV_9 (MS_SM hM sh32) s120 hf123 rv35 (show i1 < 16 by omega) (lit_SM hl2 hM sh32 (by decide) (by decide))
                  refine u_X8_steps_242 ?_
                  unfold bX8_steps_242
                  exact e_rV (K _ sh122 ir121 rv124)
            | nn + 4, hh, _ => exact absurd hh (by omega)
        · refine u_X8_steps_26 ?_
          unfold bX8_steps_26
          refine e_ldA rfl ?_
          refine e_ldI rfl ?_
          refine e_cN 0 rfl ?_
          refine And.intro (SM_k sh17 hM.1) (And.intro ⟨by decide, by decide⟩ (z_f_goesTo (MS_SM hM sh17) ir16 (show i1 < 16 by omega) (fun S125 s126 ir127 hf129 => ?_)))
          have sh128 := SM.tr sh17 s126 (by decide)
          have rv130 := RV_9 (MS_SM hM sh17) s126 hf129 rv20 (show i1 < 16 by omega) (lit_SM hl2 hM sh17 (by decide) (by decide))
          exact e_rV (K _ sh128 ir127 rv130)
