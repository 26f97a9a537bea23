/-! SIMULATION 105: give of the class, as the counters see it -/
def CHx (S0 S' : MM) (a E b q : Nat) (w2 : Int32) : Prop := sI S' a 2 = w2 ∧ sI S' a 4 = sI S0 E 8 ∧ sI S' a 5 = sI S0 E 7 ∧ sI S' a 6 = nI 0 ∧ sI S' E 7 = sI S0 E 7 + nI 1 ∧ sI S' b 7 = sI S0 b 7 + nI (if f_X6_has (sI S0) q (nI 16) = 0 then 1 else 0)
theorem chx_i {S1 S' : MM} {a E b : Nat} {v0 v1 v2 v3 v4 r v5 v6 : Int32} (h : sI S' = up2 (up2 (up2 (up2 (up2 (up2 (up2 (up2 (sI S1) a 0 v0) a 1 v1) a 2 v2) a 3 v3) a 4 v4) E 7 r) a 5 v5) a 6 v6) (naE : a ≠ E) (nab : a ≠ b) (nEb : E ≠ b) : sI S' a 2 = v2 ∧ sI S' a 4 = v4 ∧ sI S' a 5 = v5 ∧ sI S' a 6 = v6 ∧ sI S' E 7 = r ∧ sI S' b 7 = sI S1 b 7 := by
  refine ⟨?_, ?_, ?_, ?_, ?_, ?_⟩
  · rw [h, up2_jn (by decide), up2_jn (by decide), up2_row naE, up2_jn (by decide), up2_jn (by decide), up2_self]
  · rw [h, up2_jn (by decide), up2_jn (by decide), up2_row naE, up2_self]
  · rw [h, up2_jn (by decide), up2_self]
  · rw [h, up2_self]
  · rw [h, up2_row (Ne.symm naE), up2_row (Ne.symm naE), up2_self]
  · rw [h, up2_row (Ne.symm nab), up2_row (Ne.symm nab), up2_row (Ne.symm nEb), up2_row (Ne.symm nab), up2_row (Ne.symm nab), up2_row (Ne.symm nab), up2_row (Ne.symm nab), up2_row (Ne.symm nab)]
theorem w_X7_giveh {Q : Option Value → MM → Prop} {X : String → MM → Prop} {S0 : MM} {x0 : Nat} {w1 : Int32} {w2 : Int32} {w3 : Int32} {w4 : Int32} (hT : TY S0) (ir : IR S0) (k0 : sK S0 x0 = 8) (XB : GVB w1 w3 → X eI S0) (KN : ∀ e cv, e < 2 → cv < 256 → w1 = nI e → w3 = nI cv → GNo (sI S0) (sR S0) x0 e cv w2 → Q (some (.int (-1))) S0) (KA : ∀ e cv j c nf a S1 S' r, e < 2 → cv < 256 → w1 = nI e → w3 = nI cv → GYs (sI S0) (sR S0) x0 e cv w2 j c nf → AF S0 S1 (Ln (sR S0) x0 c e) a nf → CHn S1 S' a (En (sR S0) x0 e) x0 (nI cv) w4 (sI S0 x0 2 + sI S0 (Cb (sR S0) x0 c) 2) → CHx S0 S' a (En (sR S0) x0 e) x0 (Pa (sR S0) x0 e j) w2 → GV S0 S' → TY S' → IR S' → r = sI S' (Ow (sR S0) x0 e j) 3 → Q (some (.int r)) S') : wX7_give [.ref x0, .int w1, .int w2, .int w3, .int w4] S0 Q X := by
  have hL : LY S0 x0 := ⟨hT, k0⟩
  have sh : SH [2, 3, 4, 8] S0 S0 := SH.rf
  have vsh : VC S0 S0 := VC.rf
  refine Exists.intro 40 (u_X7_give_0 ?_)
  unfold bX7_give_0
  refine e_ldI rfl ?_
  refine And.intro ⟨by decide, by decide⟩ (z_isEnd' (fun hbE => ?_) (fun j1 hj2 e3 => ?_))
  · refine e_ifN (by omega) (fun h4 => ?_) (fun h4 => ?_)
    · refine u_X7_give_18 ?_
      unfold bX7_give_18
      exact And.intro ⟨by decide, by decide⟩ (XB (Or.inl hbE))
    · exact absurd rfl h4
  · subst e3
    refine e_ifN (by omega) (fun h5 => ?_) (fun h5 => ?_)
    · exact absurd h5 (by decide)
    · refine e_ldI rfl ?_
      refine ⟨fun hn0 => ?_, fun hn0 => ?_⟩
      · refine u_X7_give_18 ?_
        unfold bX7_give_18
        exact And.intro ⟨by decide, by decide⟩ (XB (Or.inr (Or.inl hn0)))
      · refine e_ldI rfl ?_
        refine e_cI ⟨fun hle => ?_, fun hle => ?_⟩
        · obtain ⟨cv, hcv, ecv⟩ := le255 hn0 hle
          subst ecv
          refine u_X7_give_28 ?_
          unfold bX7_give_28
          refine e_ldA rfl ?_
          obtain ⟨b6, rb7, kb8, nb9⟩ := hT.1 x0 8 0 13 2 k0 rfl
          refine e_gR (SH_k sh k0) (SH_r sh rb7) ?_
          refine e_ldI rfl ?_
          obtain ⟨b10, rb11, kb12, nb13⟩ := hT.2.1 b6 13 2 2 j1 kb8 nb9 rfl (by omega)
          refine e_aR (SH_k sh kb8) (SH_n sh nb9) (by omega) (by decide) (SH_r sh rb11) ?_
          refine e_ldI rfl ?_
          refine e_ldI rfl ?_
          have eE : b10 = En (sR S0) x0 j1 := by
            unfold En ead
            rw [rb7]
            show b10 = (sR S0 b6 j1).getD 0
            rw [rb11]
            rfl
          subst eE
          refine And.intro (SH_k sh kb12) (And.intro ⟨by decide, by decide⟩ (x_giverOf hL hj2 hcv (fun hz => ?_) (fun jj hjj gj gc => ?_)))
          · have sh17 := sh
            have vsh17 := vsh
            refine e_stN ?_
            refine e_ldN lvg_self ?_
            refine e_nnN ?_
            refine u_X7_give_57 ?_
            unfold bX7_give_57
            refine e_cI ?_
            exact e_rI (KN j1 cv hj2 hcv rfl rfl (Or.inl hz))
          · have sh17 := sh
            have vsh17 := vsh
            refine e_stA ?_
            refine e_ldA lvg_self ?_
            refine e_nnA ?_
            refine e_ldA lvg_self ?_
            refine e_gI (SH_k sh17 (ly_P hL hj2 hjj).2.1) (fun v20 hv21 => ?_)
            refine And.intro ⟨by decide, by decide⟩ (z_isCable' (fun hnc => ?_) (fun j22 hj23 e24 => ?_))
            · refine e_ifN (by omega) (fun h25 => ?_) (fun h25 => ?_)
              · refine u_X7_give_57 ?_
                unfold bX7_give_57
                refine e_cI ?_
                exact e_rI (KN j1 cv hj2 hcv rfl rfl (Or.inr ⟨jj, hjj, gj, gc, Or.inl (by rw [hv21]; exact hnc)⟩))
              · exact absurd rfl h25
            · subst e24
              refine e_ifN (by omega) (fun h26 => ?_) (fun h26 => ?_)
              · exact absurd h26 (by decide)
              · refine u_X7_give_59 ?_
                unfold bX7_give_59
                refine e_ldA (lvg_ne rfl rfl (by decide)) ?_
                obtain ⟨b27, rb28, kb29, nb30⟩ := hT.1 x0 8 1 12 8 k0 rfl
                refine e_gR (SH_k sh17 k0) (SH_r sh17 rb28) ?_
                refine e_ldA lvg_self ?_
                refine e_gV (v := nI j22) (SH_k sh17 (ly_P hL hj2 hjj).2.1) hv21 ?_
                obtain ⟨b31, rb32, kb33, nb34⟩ := hT.2.1 b27 12 8 1 j22 kb29 nb30 rfl (by omega)
                refine e_aR (SH_k sh17 kb29) (SH_n sh17 nb30) (by omega) (by decide) (SH_r sh17 rb32) ?_
                refine e_stA ?_
                refine e_ldA lvg_self ?_
                obtain ⟨b35, rb36, kb37, nb38⟩ := hT.1 b31 1 1 15 2 kb33 rfl
                refine e_gR (SH_k sh17 kb33) (SH_r sh17 rb36) ?_
                refine e_ldI (lvg_ne (lvg_ne rfl rfl (by decide)) rfl (by decide)) ?_
                obtain ⟨b39, rb40, kb41, nb42⟩ := hT.2.1 b35 15 2 4 j1 kb37 nb38 rfl (by omega)
                refine e_aR (SH_k sh17 kb37) (SH_n sh17 nb38) (by omega) (by decide) (SH_r sh17 rb40) ?_
                refine e_stA ?_
                refine e_ldA lvg_self ?_
                have eC : b31 = Cb (sR S0) x0 j22 := by
                  unfold Cb cad
                  rw [rb28]
                  show b31 = (sR S0 b27 j22).getD 0
                  rw [rb32]
                  rfl
                have eN : b39 = Ln (sR S0) x0 j22 j1 := by
                  unfold Ln lad
                  rw [← eC, rb36]
                  show b39 = (sR S0 b35 j1).getD 0
                  rw [rb40]
                  rfl
                subst eN
                refine And.intro (SH_k sh17 kb41) (And.intro ⟨by decide, by decide⟩ (w_isFull ir (SH_k sh17 kb41) (fun n43 hn44 vn45 => ?_) (fun hful => ?_)))
                · refine e_ifN (by omega) (fun h46 => ?_) (fun h46 => ?_)
                  · refine u_X7_give_90 ?_
                    unfold bX7_give_90
                    refine e_ldA lvg_self ?_
                    refine And.intro (SH_k sh17 kb41) (And.intro ⟨by decide, by decide⟩ (w_X3_addFrame (TY_SH hT sh17) ir (SH_k sh17 kb41) vn45 (by omega) (fun b52 S47 gl50 hT48 ir49 kq53 nq54 af => ?_)))
                    have sh55 : SH [2, 3, 4, 8] S47 S47 := SH.rf
                    have vsh55 : VC S47 S47 := VC.rf
                    have G56 := GV.tr (GV.sh sh17 (by decide) vsh17) gl50
                    have k57 := GL_k gl50.1 (SH_k sh17 k0) (by decide)
                    have k58 := GL_k gl50.1 (SH_k sh17 (ly_P hL hj2 hjj).2.1) (by decide)
                    have k59 := GL_k gl50.1 (SH_k sh17 kb33) (by decide)
                    have n60 := GL_n gl50.1 (SH_k sh17 kb33) (by decide) (SH_n sh17 nb34)
                    have k61 := GL_k gl50.1 (SH_k sh17 kb41) (by decide)
                    have n62 := GL_n gl50.1 (SH_k sh17 kb41) (by decide) (SH_n sh17 nb42)
                    refine e_stA ?_
                    refine e_ldA lvg_self ?_
                    refine e_ldI (lvg_ne (lvg_ne (lvg_ne (lvg_ne rfl rfl (by decide)) rfl (by decide)) rfl (by decide)) rfl (by decide)) ?_
                    refine y_tI (SH_k sh55 kq53) sh55 ir49 (by decide) (by decide) (fun N e => nomatch (show (none : Option Nat) = some N from e)) (fun S63 he64 sh65 ir66 => ?_)
                    have vsh65 := VC.w vsh55 he64 sh55 (SH_k sh55 kq53) (by omega)
                    refine e_ldA lvg_self ?_
                    refine e_ldI (lvg_ne (lvg_ne (lvg_ne (lvg_ne rfl rfl (by decide)) rfl (by decide)) rfl (by decide)) rfl (by decide)) ?_
                    refine y_tI (SH_k sh65 kq53) sh65 ir66 (by decide) (by decide) (fun N e => nomatch (show (none : Option Nat) = some N from e)) (fun S67 he68 sh69 ir70 => ?_)
                    have vsh69 := VC.w vsh65 he68 sh65 (SH_k sh65 kq53) (by omega)
                    refine e_ldA lvg_self ?_
                    refine e_ldI (lvg_ne (lvg_ne (lvg_ne (lvg_ne rfl rfl (by decide)) rfl (by decide)) rfl (by decide)) rfl (by decide)) ?_
                    refine y_tI (SH_k sh69 kq53) sh69 ir70 (by decide) (by decide) (fun N e => nomatch (show (none : Option Nat) = some N from e)) (fun S71 he72 sh73 ir74 => ?_)
                    have vsh73 := VC.w vsh69 he72 sh69 (SH_k sh69 kq53) (by omega)
                    refine e_ldA lvg_self ?_
                    refine e_ldA (lvg_ne (lvg_ne (lvg_ne (lvg_ne rfl rfl (by decide)) rfl (by decide)) rfl (by decide)) rfl (by decide)) ?_
                    refine e_gI (SH_k sh73 k57) (fun v75 hv76 => ?_)
                    refine e_ldA (lvg_ne (lvg_ne lvg_self rfl (by decide)) rfl (by decide)) ?_
                    refine e_gI (SH_k sh73 k59) (fun v77 hv78 => ?_)
                    refine e_bopE ?_
                    refine y_tI (SH_k sh73 kq53) sh73 ir74 (by decide) (by decide) (fun N e => nomatch (show (none : Option Nat) = some N from e)) (fun S80 he81 sh82 ir83 => ?_)
                    have vsh82 := VC.w vsh73 he81 sh73 (SH_k sh73 kq53) (by omega)
                    refine e_ldA lvg_self ?_
                    refine e_ldA (lvg_ne (lvg_ne (lvg_ne (lvg_ne rfl rfl (by decide)) rfl (by decide)) rfl (by decide)) rfl (by decide)) ?_
                    obtain ⟨b84, rb85, kb86, nb87⟩ := hT48.1 x0 8 0 13 2 k57 rfl
                    refine e_gR (SH_k sh82 k57) (SH_r sh82 rb85) ?_
                    refine e_ldI (lvg_ne (lvg_ne (lvg_ne (lvg_ne rfl rfl (by decide)) rfl (by decide)) rfl (by decide)) rfl (by decide)) ?_
                    obtain ⟨b88, rb89, kb90, nb91⟩ := hT48.2.1 b84 13 2 2 j1 kb86 nb87 rfl (by omega)
                    refine e_aR (SH_k sh82 kb86) (SH_n sh82 nb87) (by omega) (by decide) (SH_r sh82 rb89) ?_
                    refine e_gI (SH_k sh82 kb90) (fun v92 hv93 => ?_)
                    refine y_tI (SH_k sh82 kq53) sh82 ir83 (by decide) (by decide) (fun N e => nomatch (show (none : Option Nat) = some N from e)) (fun S94 he95 sh96 ir97 => ?_)
                    have vsh96 := VC.w vsh82 he95 sh82 (SH_k sh82 kq53) (by omega)
                    refine e_ldA lvg_self ?_
                    refine e_ldA (lvg_ne (lvg_ne (lvg_ne (lvg_ne rfl rfl (by decide)) rfl (by decide)) rfl (by decide)) rfl (by decide)) ?_
                    refine e_gR (SH_k sh96 k57) (SH_r sh96 rb85) ?_
                    refine e_ldI (lvg_ne (lvg_ne (lvg_ne (lvg_ne rfl rfl (by decide)) rfl (by decide)) rfl (by decide)) rfl (by decide)) ?_
                    refine e_aR (SH_k sh96 kb86) (SH_n sh96 nb87) (by omega) (by decide) (SH_r sh96 rb89) ?_
                    refine e_duA ?_
                    refine e_gI (SH_k sh96 kb90) (fun v98 hv99 => ?_)
                    refine e_dux ?_
                    refine e_cN 1 rfl ?_
                    refine e_bopE ?_
                    refine y_tI (SH_k sh96 kb90) sh96 ir97 (by decide) (by decide) (fun N e => nomatch (show (none : Option Nat) = some N from e)) (fun S101 he102 sh103 ir104 => ?_)
                    have vsh103 := VC.w vsh96 he102 sh96 (SH_k sh96 kb90) (by omega)
                    refine y_tI (SH_k sh103 kq53) sh103 ir104 (by decide) (by decide) (fun N e => nomatch (show (none : Option Nat) = some N from e)) (fun S105 he106 sh107 ir108 => ?_)
                    have vsh107 := VC.w vsh103 he106 sh103 (SH_k sh103 kq53) (by omega)
                    refine e_ldA lvg_self ?_
                    refine e_cN 0 rfl ?_
                    refine y_tZ (SH_k sh107 kq53) (by omega) sh107 ir108 (by decide) (by decide) (fun N e => nomatch (show (none : Option Nat) = some N from e)) (fun S109 he110 sh111 ir112 => ?_)
                    have vsh111 := VC.w vsh107 he110 sh107 (SH_k sh107 kq53) (by omega)
                    refine e_ldA (lvg_ne (lvg_ne (lvg_ne lvg_self rfl (by decide)) rfl (by decide)) rfl (by decide)) ?_
                    obtain ⟨b113, rb114, kb115, nb116⟩ := hT48.1 (Pt (sR S0) x0 j1 jj) 6 1 7 0 k58 rfl
                    refine e_gR (SH_k sh111 k58) (SH_r sh111 rb114) ?_
                    refine e_cN 16 rfl ?_
                    refine And.intro (SH_k sh111 kb115) (And.intro ⟨by decide, by decide⟩ (x_X6_has (SH_k sh111 kb115) (KP_i ?_)))
                    have s118 : SH [] S109 S109 := SH.rf
                    have ir119 := ir112
                    have sh120 := sh111
                    have x47 := (gl50.1 x0 (by rw [k0]; decide)).2.2.2.2 (Or.inr (rc_0 k0 (by decide) (by decide)))
                    have e84 : b84 = b6 := by rw [x47, rb7] at rb85; exact (Option.some.inj rb85).symm
                    have y47 := (gl50.1 b6 (by rw [kb8]; decide)).2.2.2.2 (Or.inr (rc_0 kb8 (by decide) (by decide)))
                    have eE2 : b88 = En (sR S0) x0 j1 := by rw [e84, y47, rb11] at rb89; exact (Option.some.inj rb89).symm
                    have nab : b52 ≠ x0 := ne_k kq53 k57 (by decide)
                    have nac : b52 ≠ b31 := ne_k kq53 k59 (by decide)
                    have naE : b52 ≠ En (sR S0) x0 j1 := by rw [← eE2]; exact ne_k kq53 kb90 (by decide)
                    have nEb : En (sR S0) x0 j1 ≠ x0 := by rw [← eE2]; exact ne_k kb90 k57 (by decide)
                    have d1 : v75 = sI S0 x0 2 := by
                      rw [← hv76, he72, sI_pI, up2_row (Ne.symm nab), he68, sI_pI, up2_row (Ne.symm nab), he64, sI_pI, up2_row (Ne.symm nab)]
                      exact (gl50.2.1 x0 (by rw [k0]; decide)).2.2.2.2 k0
                    have d2 : v77 = sI S0 (Cb (sR S0) x0 j22) 2 := by
                      rw [← eC, ← hv78, he72, sI_pI, up2_row (Ne.symm nac), he68, sI_pI, up2_row (Ne.symm nac), he64, sI_pI, up2_row (Ne.symm nac)]
                      exact (gl50.2.1 b31 (by rw [kb33]; decide)).2.2.1 kb33 2 (Or.inl rfl)
                    have chn : CHn S47 S109 b52 (En (sR S0) x0 j1) x0 (nI cv) w4 (sI S0 x0 2 + sI S0 (Cb (sR S0) x0 j22) 2) := by
                      refine chn_i (v2 := w2) (v4 := v92) (r := v98 + nI 1) (v5 := v98) (v6 := nI 0) sh111.1 sh111.2.2.1 ?_ naE nab nEb
                      rw [he110, sI_pI, he106, sI_pI, he102, sI_pI, he95, sI_pI, he81, sI_pI, he72, sI_pI, he68, sI_pI, he64, sI_pI, eE2, d1, d2]
                    have gys : GYs (sI S0) (sR S0) x0 j1 cv w2 jj j22 n43 := ⟨hjj, gj, gc, hj23, hv21, hn44, vn45⟩
                    have hI : sI S109 = up2 (up2 (up2 (up2 (up2 (up2 (up2 (up2 (sI S47) b52 0 (nI cv)) b52 1 w4) b52 2 w2) b52 3 (v75 + v77)) b52 4 v92) (En (sR S0) x0 j1) 7 (v98 + nI 1)) b52 5 v98) b52 6 (nI 0) := by
                      rw [he110, sI_pI, he106, sI_pI, he102, sI_pI, he95, sI_pI, he81, sI_pI, he72, sI_pI, he68, sI_pI, he64, sI_pI, eE2]
                    obtain ⟨fq, hfq, _, _, ii, _, _, _⟩ := AF_f hL hj23 hj2 af
                    have kEn := (ly_E hL hj2).2.1
                    have kPa := (ly_Q hL hj2 hjj).2.1
                    have kNn := (ly_N hL hj23 hj2).2.1
                    have i47E := ii _ (by rw [kEn]; decide) (ne_k kEn kNn (by decide))
                    have i47b := ii x0 (by rw [k0]; decide) (ne_k k0 kNn (by decide))
                    have i47P := ii _ (by rw [kPa]; decide) (ne_k kPa kNn (by decide))
                    have x92 : v92 = sI S0 (En (sR S0) x0 j1) 8 := by
                      rw [← hv93, eE2, he81, sI_pI, up2_row (Ne.symm naE), he72, sI_pI, up2_row (Ne.symm naE), he68, sI_pI, up2_row (Ne.symm naE), he64, sI_pI, up2_row (Ne.symm naE), i47E]
                    have x98 : v98 = sI S0 (En (sR S0) x0 j1) 7 := by
                      rw [← hv99, eE2, he95, sI_pI, up2_row (Ne.symm naE), he81, sI_pI, up2_row (Ne.symm naE), he72, sI_pI, up2_row (Ne.symm naE), he68, sI_pI, up2_row (Ne.symm naE), he64, sI_pI, up2_row (Ne.symm naE), i47E]
                    obtain ⟨c1, c2, c3, c4, c5, c6⟩ := chx_i hI naE nab nEb
                    rw [x92] at c2
                    rw [x98] at c3 c5
                    rw [i47b] at c6
                    have y59 := (gl50.1 (Pt (sR S0) x0 j1 jj) (by rw [(ly_P hL hj2 hjj).2.1]; decide)).2.2.2.2 (Or.inr (rc_0 (ly_P hL hj2 hjj).2.1 (by decide) (by decide)))
                    have ePa : b113 = Pa (sR S0) x0 j1 jj := by
                      unfold Pa
                      rw [← y59, rb114]
                      rfl
                    have kPa47 : sK S47 (Pa (sR S0) x0 j1 jj) = 7 := by rw [← ePa]; exact kb115
                    have hasE : f_X6_has (sI S109) b113 (nI 16) = f_X6_has (sI S0) (Pa (sR S0) x0 j1 jj) (nI 16) := by
                      unfold f_X6_has
                      rw [ePa, chn.2.2.1 _ (ne_k kPa47 kq53 (by decide)) (ne_k kPa kEn (by decide)) (ne_k kPa k0 (by decide)), i47P]
                    have vsh120 := vsh111
                    have y58 := (gl50.1 (Pt (sR S0) x0 j1 jj) (by rw [(ly_P hL hj2 hjj).2.1]; decide)).2.2.2.2 (Or.inr (rc_0 (ly_P hL hj2 hjj).2.1 (by decide) (by decide)))
                    have eOw : ∀ z, sR S47 (Pt (sR S0) x0 j1 jj) 0 = some z → z = Ow (sR S0) x0 j1 jj := fun z hz => by
                      unfold Ow
                      rw [← y58, hz]
                      rfl
                    refine u_X7_give_182 ?_
                    unfold bX7_give_182
                    refine ⟨fun h123 => ?_, fun h123 => ?_⟩
                    · refine e_ldA (lvg_ne (lvg_ne (lvg_ne (lvg_ne rfl rfl (by decide)) rfl (by decide)) rfl (by decide)) rfl (by decide)) ?_
                      refine e_duA ?_
                      refine e_gI (SH_k sh120 k57) (fun v124 hv125 => ?_)
                      refine e_cN 1 rfl ?_
                      refine e_bopE ?_
                      refine y_tI (SH_k sh120 k57) sh120 ir119 (by decide) (by decide) (fun N e => nomatch (show (none : Option Nat) = some N from e)) (fun S127 he128 sh129 ir130 => ?_)
                      have vsh129 := VC.w vsh120 he128 sh120 (SH_k sh120 k57) (by omega)
                      refine u_X7_give_195 ?_
                      unfold bX7_give_195
                      refine e_ldA (lvg_ne (lvg_ne (lvg_ne lvg_self rfl (by decide)) rfl (by decide)) rfl (by decide)) ?_
                      obtain ⟨b131, rb132, kb133, nb134⟩ := hT48.1 (Pt (sR S0) x0 j1 jj) 6 0 7 0 k58 rfl
                      refine e_gR (SH_k sh129 k58) (SH_r sh129 rb132) ?_
                      refine e_gI (SH_k sh129 kb133) (fun v135 hv136 => ?_)
                      exact e_rI (KA j1 cv jj j22 n43 b52 S47 _ _ hj2 hcv rfl rfl gys af (chn_b (chn_s chn s118) he128 nab nEb) ⟨by rw [he128, sI_pI, up2_row nab]; exact c1, by rw [he128, sI_pI, up2_row nab]; exact c2, by rw [he128, sI_pI, up2_row nab]; exact c3, by rw [he128, sI_pI, up2_row nab]; exact c4, by rw [he128, sI_pI, up2_row nEb]; exact c5, by rw [he128, sI_pI, up2_self, ← hv125, c6, if_pos (hasE.symm.trans h123)]⟩ (GV.tr G56 (GV.sh sh129 (by decide) vsh129)) (TY_SH hT48 sh129) ir130 (by rw [← eOw _ rb132]; exact hv136.symm))
                    · refine u_X7_give_195 ?_
                      unfold bX7_give_195
                      refine e_ldA (lvg_ne (lvg_ne (lvg_ne lvg_self rfl (by decide)) rfl (by decide)) rfl (by decide)) ?_
                      obtain ⟨b137, rb138, kb139, nb140⟩ := hT48.1 (Pt (sR S0) x0 j1 jj) 6 0 7 0 k58 rfl
                      refine e_gR (SH_k sh120 k58) (SH_r sh120 rb138) ?_
                      refine e_gI (SH_k sh120 kb139) (fun v141 hv142 => ?_)
                      exact e_rI (KA j1 cv jj j22 n43 b52 S47 _ _ hj2 hcv rfl rfl gys af (chn_s chn s118) ⟨c1, c2, c3, c4, c5, by rw [c6, if_neg (fun y => h123 (hasE.trans y))]; exact (i_add0 _).symm⟩ (GV.tr G56 (GV.sh sh120 (by decide) vsh120)) (TY_SH hT48 sh120) ir119 (by rw [← eOw _ rb138]; exact hv142.symm))
                  · exact absurd rfl h46
                · refine e_ifN (by omega) (fun h143 => ?_) (fun h143 => ?_)
                  · exact absurd h143 (by decide)
                  · refine e_cI ?_
                    exact e_rI (KN j1 cv hj2 hcv rfl rfl (Or.inr ⟨jj, hjj, gj, gc, Or.inr ⟨j22, hj23, hv21, hful⟩⟩))
        · refine u_X7_give_18 ?_
          unfold bX7_give_18
          exact And.intro ⟨by decide, by decide⟩ (XB (Or.inr (Or.inr hle)))
theorem k_givexh {Q : Option Value → MM → Prop} {S : MM} {x m out i : Nat} {A : Nat → Nat} {v w u y : Int32} (hG : GN S x m out A i) (K0 : GVB v u → Q (some (.int (nI 1))) S) (KN : ∀ e cv, e < 2 → cv < 256 → v = nI e → u = nI cv → GNo (sI S) (sR S) x e cv w → Q (some (.int (nI 0))) (pJ S out 0 (-1 : Int32).toInt64)) (KA : ∀ e cv j c nf a S1 S', e < 2 → cv < 256 → v = nI e → u = nI cv → GYs (sI S) (sR S) x e cv w j c nf → AF S S1 (Ln (sR S) x c e) a nf → CHn S1 S' a (En (sR S) x e) x (nI cv) y (sI S x 2 + sI S (Cb (sR S) x c) 2) → CHx S S' a (En (sR S) x e) x (Pa (sR S) x e j) w → GV S S' → GH S S' x m out A → Q (some (.int (nI 0))) (pJ S' out 0 (nI j).toInt64)) : wL_give [.ref x, .int v, .int w, .int u, .int y, .ref out] S Q := by
  refine Exists.intro 3 (And.intro hG.2.2.1 (And.intro ⟨by decide, by decide⟩ (w_X7_giveh hG.1 hG.2.1 hG.2.2.1 (fun gb q => ?_) (fun e cv he hcv e1 e2 gn => ?_) (fun e cv j c nf a S1 S' r he hcv e1 e2 gy af ch chx gv ty ir er => ?_))))
  · rw [hd1_1]; exact K0 gb
  · exact And.intro hG.2.2.2.1 (And.intro (by show vp_in 0 (sN S out); rw [hG.2.2.2.2.1]; exact in_0 (by decide)) (KN e cv he hcv e1 e2 gn))
  · have gh := GH_g hG gv ty ir
    have hL := ly_of hG
    have hj : j < 8 := gy.1
    obtain ⟨g1, g2, g3, g4, g5, g6, g7, nt, F, cl, bi, n0, fr, hF, hc⟩ := id hG
    have er2 : r = nI j := by
      rw [er, (gv.2.1 _ (by rw [(ly_O hL he hj).2.1]; decide)).1 (Or.inr (Or.inr (ly_O hL he hj).2.1))]
      have q := (n0.1 (8 * e + j) (by omega)).1.1.2.2.2.2.2.2.2.2.2.2.2.1
      rw [show ox (sR S) x (8 * e + j) = Ow (sR S) x e j from by
        show Ow (sR S) x ((8 * e + j) / 8) ((8 * e + j) % 8) = _
        rw [show (8 * e + j) / 8 = e by omega, show (8 * e + j) % 8 = j by omega], show (8 * e + j) % 8 = j by omega] at q
      exact q
    subst er2
    exact And.intro gh.2.2.2.1 (And.intro (by show vp_in 0 (sN S' out); rw [gh.2.2.2.2.1]; exact in_0 (by decide)) (KA e cv j c nf a S1 S' he hcv e1 e2 gy af ch chx gv gh))
