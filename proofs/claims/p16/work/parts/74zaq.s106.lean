/-! SIMULATION 106: give of the reference, as the counters see it -/
def MYx (J J' : Mm) (m : Nat) (A : Nat → Nat) (F e x : Nat) (b : Int32) : Prop := J' (A 33) = upd (J (A 33)) F (nI e) ∧ J' (A 34) = upd (J (A 34)) F b ∧ J' (A 37) = upd (J (A 37)) F (J (A 40) e) ∧ J' (A 38) = upd (J (A 38)) F (nI 0) ∧ J' m 48 = J m 48 + nI (if f_X8_isPartner J m A x (nI 16) = 0 then 1 else 0)
theorem w_give183h {Q : Option Value → MM → Prop} {S0 : MM} {m : Nat} {A : Nat → Nat} {x c e F nt cv n : Nat} {b u : Int32} {lv : Lv} (hM : MS S0 m A) (im : IM S0 m A) (hx : x < 16) (hc : c < 8) (he : e < 2) (h11 : sI S0 (A 11) x = nI c) (e39 : sI S0 m 39 = nI F) (hF : F < 4200) (e32 : sI S0 m 32 = nI nt) (hnt : nt < 4000) (hcv : cv < 256) (K0 : ¬ gcB (fun t => isG c e (tg (sI S0) A t)) nt < 200 → Q (some (.int (-1))) S0) (K1 : ∀ S', SM [27, 28, 29, 30, 32, 33, 34, 35, 36, 37, 38, 39, 48] m A S0 S' → IM S' m A → sI S' m 32 = nI (nt + 1) → sI S' m 39 = nI (F + 1) → TL S' A (nt + 1) = TL S0 A nt ++ [(nI c, nI e, sI S0 m 43 + sI S0 (A 23) c, nI F)] → gcB (fun t => isG c e (tg (sI S0) A t)) nt < 200 → sI S' (A 35) = upd (sI S0 (A 35)) F (nI cv) → sI S' (A 36) = upd (sI S0 (A 36)) F u → MYx (sI S0) (sI S') m A F e x b → Q (some (.int (nI (x % 8)))) S') (hn : 12 ≤ n) (g0 : lvg lv 0 = some (.ref m)) (g1 : lvg lv 1 = some (.int (nI e))) (g2 : lvg lv 2 = some (.int b)) (g3 : lvg lv 3 = some (.int (nI cv))) (g4 : lvg lv 4 = some (.int u)) (g7 : lvg lv 7 = some (.int (nI x))) : wpn (kX8_give Q) n 183 lv [] S0 0 0 := by
  have sh : SM [33, 34, 35, 36, 37, 38, 48] m A S0 S0 := SM.rf
  obtain ⟨q1, rfl⟩ : ∃ q, n = q + 1 := ⟨n - 1, by omega⟩
  refine u_X8_give_183 ?_
  unfold bX8_give_183
  refine e_ldA g0 ?_
  refine e_gR (SM_k sh hM.1) (SM_r sh (hM.2.1 11 (by decide)).1) ?_
  refine e_ldI g7 ?_
  refine e_aV (N := 16) (v := nI c) (SM_k sh (hM.2.1 11 (by decide)).2.1) (SM_n sh (hM.2.1 11 (by decide)).2.2.1) (by omega) (by decide) (by rw [SM_a sh hM (by decide) (by decide)]; exact h11) ?_
  refine e_stI ?_
  refine e_ldA (lvg_ne g0 rfl (by decide)) ?_
  refine e_ldI lvg_self ?_
  refine e_ldI (lvg_ne g1 rfl (by decide)) ?_
  refine e_cN 0 rfl ?_
  refine And.intro (SM_k sh hM.1) (And.intro ⟨by decide, by decide⟩ (x_on hM e32 (by omega) ?_))
  have sh5 := sh
  have ir4 := im
  have gl := gcB_le (fun t => isG c e (tg (sI S0) A t)) nt
  refine e_cN 200 rfl (e_lt (by omega) (by decide) (fun hlt => ?_) (fun hlt => ?_))
  · obtain ⟨q7, rfl⟩ : ∃ q, q1 = q + 1 := ⟨q1 - 1, by omega⟩
    refine u_X8_give_208 ?_
    unfold bX8_give_208
    refine e_ldA (lvg_ne g0 rfl (by decide)) ?_
    refine e_duA ?_
    refine e_gI (SM_k sh5 hM.1) (fun v8 hv9 => ?_)
    refine e_ldA (lvg_ne g0 rfl (by decide)) ?_
    refine e_ldI (lvg_ne g7 rfl (by decide)) ?_
    refine e_cN 16 rfl ?_
    refine And.intro (SM_k sh5 hM.1) (And.intro ⟨by decide, by decide⟩ (x_X8_isPartner hM (show x < 16 by omega) im (KP_i ?_)))
    have sh13 := sh5
    have ir12 := im
    refine ⟨fun h16 => ?_, fun h16 => ?_⟩
    · obtain ⟨q17, rfl⟩ : ∃ q, q7 = q + 1 := ⟨q7 - 1, by omega⟩
      refine u_X8_give_228 ?_
      unfold bX8_give_228
      refine e_cN 1 rfl ?_
      obtain ⟨q18, rfl⟩ : ∃ q, q17 = q + 1 := ⟨q17 - 1, by omega⟩
      refine u_X8_give_229 ?_
      unfold bX8_give_229
      refine e_bopE ?_
      refine y_mI hM sh13 ir12 (by decide) (fun N e => nomatch (show (none : Option Nat) = some N from e)) (fun S20 he21 sh22 ir23 => ?_)
      refine e_ldA (lvg_ne g0 rfl (by decide)) ?_
      refine e_gR (SM_k sh22 hM.1) (SM_r sh22 (hM.2.1 33 (by decide)).1) ?_
      refine e_ldA (lvg_ne g0 rfl (by decide)) ?_
      refine e_gV (v := nI F) (SM_k sh22 hM.1) ((sh22.2.2.2.2.2 39 (by decide)).trans e39) ?_
      refine e_ldI (lvg_ne g1 rfl (by decide)) ?_
      refine y_mA (N := 4200) hM sh22 ir23 (by decide) rfl rfl (by omega) (by decide) (by decide) (fun N e => nomatch (show (none : Option Nat) = some N from e)) (fun e => absurd e (by decide)) (fun S24 he25 sh26 ir27 => ?_)
      refine e_ldA (lvg_ne g0 rfl (by decide)) ?_
      refine e_gR (SM_k sh26 hM.1) (SM_r sh26 (hM.2.1 34 (by decide)).1) ?_
      refine e_ldA (lvg_ne g0 rfl (by decide)) ?_
      refine e_gV (v := nI F) (SM_k sh26 hM.1) ((sh26.2.2.2.2.2 39 (by decide)).trans e39) ?_
      refine e_ldI (lvg_ne g2 rfl (by decide)) ?_
      refine y_mA (N := 4200) hM sh26 ir27 (by decide) rfl rfl (by omega) (by decide) (by decide) (fun N e => nomatch (show (none : Option Nat) = some N from e)) (fun e => absurd e (by decide)) (fun S28 he29 sh30 ir31 => ?_)
      refine e_ldA (lvg_ne g0 rfl (by decide)) ?_
      refine e_gR (SM_k sh30 hM.1) (SM_r sh30 (hM.2.1 35 (by decide)).1) ?_
      refine e_ldA (lvg_ne g0 rfl (by decide)) ?_
      refine e_gV (v := nI F) (SM_k sh30 hM.1) ((sh30.2.2.2.2.2 39 (by decide)).trans e39) ?_
      refine e_ldI (lvg_ne g3 rfl (by decide)) ?_
      refine y_mA (N := 4200) hM sh30 ir31 (by decide) rfl rfl (by omega) (by decide) (by decide) (fun N e => nomatch (show (none : Option Nat) = some N from e)) (fun e => absurd e (by decide)) (fun S32 he33 sh34 ir35 => ?_)
      refine e_ldA (lvg_ne g0 rfl (by decide)) ?_
      refine e_gR (SM_k sh34 hM.1) (SM_r sh34 (hM.2.1 36 (by decide)).1) ?_
      refine e_ldA (lvg_ne g0 rfl (by decide)) ?_
      refine e_gV (v := nI F) (SM_k sh34 hM.1) ((sh34.2.2.2.2.2 39 (by decide)).trans e39) ?_
      refine e_ldI (lvg_ne g4 rfl (by decide)) ?_
      refine y_mA (N := 4200) hM sh34 ir35 (by decide) rfl rfl (by omega) (by decide) (by decide) (fun N e => nomatch (show (none : Option Nat) = some N from e)) (fun e => absurd e (by decide)) (fun S36 he37 sh38 ir39 => ?_)
      refine e_ldA (lvg_ne g0 rfl (by decide)) ?_
      refine e_gR (SM_k sh38 hM.1) (SM_r sh38 (hM.2.1 37 (by decide)).1) ?_
      refine e_ldA (lvg_ne g0 rfl (by decide)) ?_
      refine e_gV (v := nI F) (SM_k sh38 hM.1) ((sh38.2.2.2.2.2 39 (by decide)).trans e39) ?_
      refine e_ldA (lvg_ne g0 rfl (by decide)) ?_
      refine e_gR (SM_k sh38 hM.1) (SM_r sh38 (hM.2.1 40 (by decide)).1) ?_
      refine e_ldI (lvg_ne g1 rfl (by decide)) ?_
      refine e_aI (N := 2) (SM_k sh38 (hM.2.1 40 (by decide)).2.1) (SM_n sh38 (hM.2.1 40 (by decide)).2.2.1) (by omega) (by decide) (fun v40 hv41 => ?_)
      refine y_mA (N := 4200) hM sh38 ir39 (by decide) rfl rfl (by omega) (by decide) (by decide) (fun N e => nomatch (show (none : Option Nat) = some N from e)) (fun e => absurd e (by decide)) (fun S42 he43 sh44 ir45 => ?_)
      refine e_ldA (lvg_ne g0 rfl (by decide)) ?_
      refine e_gR (SM_k sh44 hM.1) (SM_r sh44 (hM.2.1 38 (by decide)).1) ?_
      refine e_ldA (lvg_ne g0 rfl (by decide)) ?_
      refine e_gV (v := nI F) (SM_k sh44 hM.1) ((sh44.2.2.2.2.2 39 (by decide)).trans e39) ?_
      refine e_cN 0 rfl ?_
      refine y_mB (N := 4200) hM sh44 ir45 (by decide) rfl rfl (by omega) (by decide) (by omega) (by decide) (fun N e => nomatch (show (none : Option Nat) = some N from e)) (fun e => absurd e (by decide)) (fun S46 he47 sh48 ir49 => ?_)
      refine e_ldA (lvg_ne g0 rfl (by decide)) ?_
      refine e_ldI lvg_self ?_
      refine e_ldI (lvg_ne g1 rfl (by decide)) ?_
      refine e_ldA (lvg_ne g0 rfl (by decide)) ?_
      obtain ⟨q50, rfl⟩ : ∃ q, q18 = q + 1 := ⟨q18 - 1, by omega⟩
      refine u_X8_give_304 ?_
      unfold bX8_give_304
      refine e_gV (v := nI F) (SM_k sh48 hM.1) ((sh48.2.2.2.2.2 39 (by decide)).trans e39) ?_
      refine And.intro (SM_k sh48 hM.1) (And.intro ⟨by decide, by decide⟩ (z_f_comesOn (MS_SM hM sh48) ir49 hc he (Or.inr ⟨F, hF, rfl⟩) hnt ((sh48.2.2.2.2.2 32 (by decide)).trans e32) (fun S9 s9 im9 v9 t9 => ?_)))
      have sh9 : SM [27, 28, 29, 30, 32, 33, 34, 35, 36, 37, 38, 39, 48] m A S0 S9 := SM.tr (SM.tr SM.rf sh48 (by decide)) s9 (by decide)
      have f9 : sI S9 m 39 = nI F := (s9.2.2.2.2.2 39 (by decide)).trans ((sh48.2.2.2.2.2 39 (by decide)).trans e39)
      refine e_ldA (lvg_ne g0 rfl (by decide)) (e_duA (e_gV (v := nI F) (SM_k sh9 hM.1) f9 (e_cN 1 rfl (e_add (y_mI hM sh9 im9 (by decide) (fun N e => nomatch (show (none : Option Nat) = some N from e)) (fun S8 h8 sh8 im8 => e_ldI (lvg_ne g7 rfl (by decide)) (e_cN 8 rfl (e_rem (by omega) (by decide) (by decide) (e_rI (K1 S8 sh8 im8 ?_ ?_ ?_ hlt ?_ ?_ ⟨?_, ?_, ?_, ?_, ?_⟩)))))))))) 
      · rw [h8]; exact rd_k v9 (by decide)
      · rw [h8]; exact rd_s
      · have t8 : TL S8 A (nt + 1) = TL S9 A (nt + 1) := TL_c (fun j _ => by unfold th; rw [fn_o (a := A 27) h8 rfl (ne_m hM (by decide)), fn_o (a := A 28) h8 rfl (ne_m hM (by decide)), fn_o (a := A 29) h8 rfl (ne_m hM (by decide)), fn_o (a := A 30) h8 rfl (ne_m hM (by decide))])
        rw [t8, t9, TL_c (fun j _ => th_SM sh48 hM (by decide) j), sh48.2.2.2.2.2 43 (by decide), SM_a sh48 hM (k := 23) (by decide) (by decide)]
      · rw [h8, sI_pI, up2_row (ne_m hM (by decide)), SM_a s9 (MS_SM hM sh48) (by decide) (by decide), he47, sI_pI, up2_row (ne_A hM (by decide) (by decide) (by decide)), he43, sI_pI, up2_row (ne_A hM (by decide) (by decide) (by decide)), he37, sI_pI, up2_row (ne_A hM (by decide) (by decide) (by decide)), he33, sI_pI, up2_upd, he29, sI_pI, up2_row (ne_A hM (by decide) (by decide) (by decide)), he25, sI_pI, up2_row (ne_A hM (by decide) (by decide) (by decide)), he21, sI_pI, up2_row (ne_m hM (by decide))]
      · rw [h8, sI_pI, up2_row (ne_m hM (by decide)), SM_a s9 (MS_SM hM sh48) (by decide) (by decide), he47, sI_pI, up2_row (ne_A hM (by decide) (by decide) (by decide)), he43, sI_pI, up2_row (ne_A hM (by decide) (by decide) (by decide)), he37, sI_pI, up2_upd, he33, sI_pI, up2_row (ne_A hM (by decide) (by decide) (by decide)), he29, sI_pI, up2_row (ne_A hM (by decide) (by decide) (by decide)), he25, sI_pI, up2_row (ne_A hM (by decide) (by decide) (by decide)), he21, sI_pI, up2_row (ne_m hM (by decide))]
      · rw [h8, sI_pI, up2_row (ne_m hM (by decide)), SM_a s9 (MS_SM hM sh48) (by decide) (by decide), he47, sI_pI, up2_row (ne_A hM (by decide) (by decide) (by decide)), he43, sI_pI, up2_row (ne_A hM (by decide) (by decide) (by decide)), he37, sI_pI, up2_row (ne_A hM (by decide) (by decide) (by decide)), he33, sI_pI, up2_row (ne_A hM (by decide) (by decide) (by decide)), he29, sI_pI, up2_row (ne_A hM (by decide) (by decide) (by decide)), he25, sI_pI, up2_upd, he21, sI_pI, up2_row (ne_m hM (by decide))]
      · rw [h8, sI_pI, up2_row (ne_m hM (by decide)), SM_a s9 (MS_SM hM sh48) (by decide) (by decide), he47, sI_pI, up2_row (ne_A hM (by decide) (by decide) (by decide)), he43, sI_pI, up2_row (ne_A hM (by decide) (by decide) (by decide)), he37, sI_pI, up2_row (ne_A hM (by decide) (by decide) (by decide)), he33, sI_pI, up2_row (ne_A hM (by decide) (by decide) (by decide)), he29, sI_pI, up2_upd, he25, sI_pI, up2_row (ne_A hM (by decide) (by decide) (by decide)), he21, sI_pI, up2_row (ne_m hM (by decide))]
      · have e40 : v40 = sI S0 (A 40) e := by rw [← hv41, he37, sI_pI, up2_row (ne_A hM (by decide) (by decide) (by decide)), he33, sI_pI, up2_row (ne_A hM (by decide) (by decide) (by decide)), he29, sI_pI, up2_row (ne_A hM (by decide) (by decide) (by decide)), he25, sI_pI, up2_row (ne_A hM (by decide) (by decide) (by decide)), he21, sI_pI, up2_row (ne_m hM (by decide))]
        rw [h8, sI_pI, up2_row (ne_m hM (by decide)), SM_a s9 (MS_SM hM sh48) (by decide) (by decide), he47, sI_pI, up2_row (ne_A hM (by decide) (by decide) (by decide)), he43, sI_pI, up2_upd, he37, sI_pI, up2_row (ne_A hM (by decide) (by decide) (by decide)), he33, sI_pI, up2_row (ne_A hM (by decide) (by decide) (by decide)), he29, sI_pI, up2_row (ne_A hM (by decide) (by decide) (by decide)), he25, sI_pI, up2_row (ne_A hM (by decide) (by decide) (by decide)), he21, sI_pI, up2_row (ne_m hM (by decide)), e40]
      · rw [h8, sI_pI, up2_row (ne_m hM (by decide)), SM_a s9 (MS_SM hM sh48) (by decide) (by decide), he47, sI_pI, up2_upd, he43, sI_pI, up2_row (ne_A hM (by decide) (by decide) (by decide)), he37, sI_pI, up2_row (ne_A hM (by decide) (by decide) (by decide)), he33, sI_pI, up2_row (ne_A hM (by decide) (by decide) (by decide)), he29, sI_pI, up2_row (ne_A hM (by decide) (by decide) (by decide)), he25, sI_pI, up2_row (ne_A hM (by decide) (by decide) (by decide)), he21, sI_pI, up2_row (ne_m hM (by decide))]
      · rw [h8, sI_pI, up2_jn (by decide), s9.2.2.2.2.2 48 (by decide), he47, sI_pI, up2_row (Ne.symm (ne_m hM (by decide))), he43, sI_pI, up2_row (Ne.symm (ne_m hM (by decide))), he37, sI_pI, up2_row (Ne.symm (ne_m hM (by decide))), he33, sI_pI, up2_row (Ne.symm (ne_m hM (by decide))), he29, sI_pI, up2_row (Ne.symm (ne_m hM (by decide))), he25, sI_pI, up2_row (Ne.symm (ne_m hM (by decide))), he21, sI_pI, up2_self, ← hv9, if_pos (show f_X8_isPartner (sI S0) m A x (nI 16) = 0 from h16)]
    · refine e_cN 0 rfl ?_
      obtain ⟨q51, rfl⟩ : ∃ q, q7 = q + 1 := ⟨q7 - 1, by omega⟩
      refine u_X8_give_229 ?_
      unfold bX8_give_229
      refine e_bopE ?_
      refine y_mI hM sh13 ir12 (by decide) (fun N e => nomatch (show (none : Option Nat) = some N from e)) (fun S53 he54 sh55 ir56 => ?_)
      refine e_ldA (lvg_ne g0 rfl (by decide)) ?_
      refine e_gR (SM_k sh55 hM.1) (SM_r sh55 (hM.2.1 33 (by decide)).1) ?_
      refine e_ldA (lvg_ne g0 rfl (by decide)) ?_
      refine e_gV (v := nI F) (SM_k sh55 hM.1) ((sh55.2.2.2.2.2 39 (by decide)).trans e39) ?_
      refine e_ldI (lvg_ne g1 rfl (by decide)) ?_
      refine y_mA (N := 4200) hM sh55 ir56 (by decide) rfl rfl (by omega) (by decide) (by decide) (fun N e => nomatch (show (none : Option Nat) = some N from e)) (fun e => absurd e (by decide)) (fun S57 he58 sh59 ir60 => ?_)
      refine e_ldA (lvg_ne g0 rfl (by decide)) ?_
      refine e_gR (SM_k sh59 hM.1) (SM_r sh59 (hM.2.1 34 (by decide)).1) ?_
      refine e_ldA (lvg_ne g0 rfl (by decide)) ?_
      refine e_gV (v := nI F) (SM_k sh59 hM.1) ((sh59.2.2.2.2.2 39 (by decide)).trans e39) ?_
      refine e_ldI (lvg_ne g2 rfl (by decide)) ?_
      refine y_mA (N := 4200) hM sh59 ir60 (by decide) rfl rfl (by omega) (by decide) (by decide) (fun N e => nomatch (show (none : Option Nat) = some N from e)) (fun e => absurd e (by decide)) (fun S61 he62 sh63 ir64 => ?_)
      refine e_ldA (lvg_ne g0 rfl (by decide)) ?_
      refine e_gR (SM_k sh63 hM.1) (SM_r sh63 (hM.2.1 35 (by decide)).1) ?_
      refine e_ldA (lvg_ne g0 rfl (by decide)) ?_
      refine e_gV (v := nI F) (SM_k sh63 hM.1) ((sh63.2.2.2.2.2 39 (by decide)).trans e39) ?_
      refine e_ldI (lvg_ne g3 rfl (by decide)) ?_
      refine y_mA (N := 4200) hM sh63 ir64 (by decide) rfl rfl (by omega) (by decide) (by decide) (fun N e => nomatch (show (none : Option Nat) = some N from e)) (fun e => absurd e (by decide)) (fun S65 he66 sh67 ir68 => ?_)
      refine e_ldA (lvg_ne g0 rfl (by decide)) ?_
      refine e_gR (SM_k sh67 hM.1) (SM_r sh67 (hM.2.1 36 (by decide)).1) ?_
      refine e_ldA (lvg_ne g0 rfl (by decide)) ?_
      refine e_gV (v := nI F) (SM_k sh67 hM.1) ((sh67.2.2.2.2.2 39 (by decide)).trans e39) ?_
      refine e_ldI (lvg_ne g4 rfl (by decide)) ?_
      refine y_mA (N := 4200) hM sh67 ir68 (by decide) rfl rfl (by omega) (by decide) (by decide) (fun N e => nomatch (show (none : Option Nat) = some N from e)) (fun e => absurd e (by decide)) (fun S69 he70 sh71 ir72 => ?_)
      refine e_ldA (lvg_ne g0 rfl (by decide)) ?_
      refine e_gR (SM_k sh71 hM.1) (SM_r sh71 (hM.2.1 37 (by decide)).1) ?_
      refine e_ldA (lvg_ne g0 rfl (by decide)) ?_
      refine e_gV (v := nI F) (SM_k sh71 hM.1) ((sh71.2.2.2.2.2 39 (by decide)).trans e39) ?_
      refine e_ldA (lvg_ne g0 rfl (by decide)) ?_
      refine e_gR (SM_k sh71 hM.1) (SM_r sh71 (hM.2.1 40 (by decide)).1) ?_
      refine e_ldI (lvg_ne g1 rfl (by decide)) ?_
      refine e_aI (N := 2) (SM_k sh71 (hM.2.1 40 (by decide)).2.1) (SM_n sh71 (hM.2.1 40 (by decide)).2.2.1) (by omega) (by decide) (fun v73 hv74 => ?_)
      refine y_mA (N := 4200) hM sh71 ir72 (by decide) rfl rfl (by omega) (by decide) (by decide) (fun N e => nomatch (show (none : Option Nat) = some N from e)) (fun e => absurd e (by decide)) (fun S75 he76 sh77 ir78 => ?_)
      refine e_ldA (lvg_ne g0 rfl (by decide)) ?_
      refine e_gR (SM_k sh77 hM.1) (SM_r sh77 (hM.2.1 38 (by decide)).1) ?_
      refine e_ldA (lvg_ne g0 rfl (by decide)) ?_
      refine e_gV (v := nI F) (SM_k sh77 hM.1) ((sh77.2.2.2.2.2 39 (by decide)).trans e39) ?_
      refine e_cN 0 rfl ?_
      refine y_mB (N := 4200) hM sh77 ir78 (by decide) rfl rfl (by omega) (by decide) (by omega) (by decide) (fun N e => nomatch (show (none : Option Nat) = some N from e)) (fun e => absurd e (by decide)) (fun S79 he80 sh81 ir82 => ?_)
      refine e_ldA (lvg_ne g0 rfl (by decide)) ?_
      refine e_ldI lvg_self ?_
      refine e_ldI (lvg_ne g1 rfl (by decide)) ?_
      refine e_ldA (lvg_ne g0 rfl (by decide)) ?_
      obtain ⟨q83, rfl⟩ : ∃ q, q51 = q + 1 := ⟨q51 - 1, by omega⟩
      refine u_X8_give_304 ?_
      unfold bX8_give_304
      refine e_gV (v := nI F) (SM_k sh81 hM.1) ((sh81.2.2.2.2.2 39 (by decide)).trans e39) ?_
      refine And.intro (SM_k sh81 hM.1) (And.intro ⟨by decide, by decide⟩ (z_f_comesOn (MS_SM hM sh81) ir82 hc he (Or.inr ⟨F, hF, rfl⟩) hnt ((sh81.2.2.2.2.2 32 (by decide)).trans e32) (fun S9 s9 im9 v9 t9 => ?_)))
      have sh9 : SM [27, 28, 29, 30, 32, 33, 34, 35, 36, 37, 38, 39, 48] m A S0 S9 := SM.tr (SM.tr SM.rf sh81 (by decide)) s9 (by decide)
      have f9 : sI S9 m 39 = nI F := (s9.2.2.2.2.2 39 (by decide)).trans ((sh81.2.2.2.2.2 39 (by decide)).trans e39)
      refine e_ldA (lvg_ne g0 rfl (by decide)) (e_duA (e_gV (v := nI F) (SM_k sh9 hM.1) f9 (e_cN 1 rfl (e_add (y_mI hM sh9 im9 (by decide) (fun N e => nomatch (show (none : Option Nat) = some N from e)) (fun S8 h8 sh8 im8 => e_ldI (lvg_ne g7 rfl (by decide)) (e_cN 8 rfl (e_rem (by omega) (by decide) (by decide) (e_rI (K1 S8 sh8 im8 ?_ ?_ ?_ hlt ?_ ?_ ⟨?_, ?_, ?_, ?_, ?_⟩)))))))))) 
      · rw [h8]; exact rd_k v9 (by decide)
      · rw [h8]; exact rd_s
      · have t8 : TL S8 A (nt + 1) = TL S9 A (nt + 1) := TL_c (fun j _ => by unfold th; rw [fn_o (a := A 27) h8 rfl (ne_m hM (by decide)), fn_o (a := A 28) h8 rfl (ne_m hM (by decide)), fn_o (a := A 29) h8 rfl (ne_m hM (by decide)), fn_o (a := A 30) h8 rfl (ne_m hM (by decide))])
        rw [t8, t9, TL_c (fun j _ => th_SM sh81 hM (by decide) j), sh81.2.2.2.2.2 43 (by decide), SM_a sh81 hM (k := 23) (by decide) (by decide)]
      · rw [h8, sI_pI, up2_row (ne_m hM (by decide)), SM_a s9 (MS_SM hM sh81) (by decide) (by decide), he80, sI_pI, up2_row (ne_A hM (by decide) (by decide) (by decide)), he76, sI_pI, up2_row (ne_A hM (by decide) (by decide) (by decide)), he70, sI_pI, up2_row (ne_A hM (by decide) (by decide) (by decide)), he66, sI_pI, up2_upd, he62, sI_pI, up2_row (ne_A hM (by decide) (by decide) (by decide)), he58, sI_pI, up2_row (ne_A hM (by decide) (by decide) (by decide)), he54, sI_pI, up2_row (ne_m hM (by decide))]
      · rw [h8, sI_pI, up2_row (ne_m hM (by decide)), SM_a s9 (MS_SM hM sh81) (by decide) (by decide), he80, sI_pI, up2_row (ne_A hM (by decide) (by decide) (by decide)), he76, sI_pI, up2_row (ne_A hM (by decide) (by decide) (by decide)), he70, sI_pI, up2_upd, he66, sI_pI, up2_row (ne_A hM (by decide) (by decide) (by decide)), he62, sI_pI, up2_row (ne_A hM (by decide) (by decide) (by decide)), he58, sI_pI, up2_row (ne_A hM (by decide) (by decide) (by decide)), he54, sI_pI, up2_row (ne_m hM (by decide))]
      · rw [h8, sI_pI, up2_row (ne_m hM (by decide)), SM_a s9 (MS_SM hM sh81) (by decide) (by decide), he80, sI_pI, up2_row (ne_A hM (by decide) (by decide) (by decide)), he76, sI_pI, up2_row (ne_A hM (by decide) (by decide) (by decide)), he70, sI_pI, up2_row (ne_A hM (by decide) (by decide) (by decide)), he66, sI_pI, up2_row (ne_A hM (by decide) (by decide) (by decide)), he62, sI_pI, up2_row (ne_A hM (by decide) (by decide) (by decide)), he58, sI_pI, up2_upd, he54, sI_pI, up2_row (ne_m hM (by decide))]
      · rw [h8, sI_pI, up2_row (ne_m hM (by decide)), SM_a s9 (MS_SM hM sh81) (by decide) (by decide), he80, sI_pI, up2_row (ne_A hM (by decide) (by decide) (by decide)), he76, sI_pI, up2_row (ne_A hM (by decide) (by decide) (by decide)), he70, sI_pI, up2_row (ne_A hM (by decide) (by decide) (by decide)), he66, sI_pI, up2_row (ne_A hM (by decide) (by decide) (by decide)), he62, sI_pI, up2_upd, he58, sI_pI, up2_row (ne_A hM (by decide) (by decide) (by decide)), he54, sI_pI, up2_row (ne_m hM (by decide))]
      · have e40 : v73 = sI S0 (A 40) e := by rw [← hv74, he70, sI_pI, up2_row (ne_A hM (by decide) (by decide) (by decide)), he66, sI_pI, up2_row (ne_A hM (by decide) (by decide) (by decide)), he62, sI_pI, up2_row (ne_A hM (by decide) (by decide) (by decide)), he58, sI_pI, up2_row (ne_A hM (by decide) (by decide) (by decide)), he54, sI_pI, up2_row (ne_m hM (by decide))]
        rw [h8, sI_pI, up2_row (ne_m hM (by decide)), SM_a s9 (MS_SM hM sh81) (by decide) (by decide), he80, sI_pI, up2_row (ne_A hM (by decide) (by decide) (by decide)), he76, sI_pI, up2_upd, he70, sI_pI, up2_row (ne_A hM (by decide) (by decide) (by decide)), he66, sI_pI, up2_row (ne_A hM (by decide) (by decide) (by decide)), he62, sI_pI, up2_row (ne_A hM (by decide) (by decide) (by decide)), he58, sI_pI, up2_row (ne_A hM (by decide) (by decide) (by decide)), he54, sI_pI, up2_row (ne_m hM (by decide)), e40]
      · rw [h8, sI_pI, up2_row (ne_m hM (by decide)), SM_a s9 (MS_SM hM sh81) (by decide) (by decide), he80, sI_pI, up2_upd, he76, sI_pI, up2_row (ne_A hM (by decide) (by decide) (by decide)), he70, sI_pI, up2_row (ne_A hM (by decide) (by decide) (by decide)), he66, sI_pI, up2_row (ne_A hM (by decide) (by decide) (by decide)), he62, sI_pI, up2_row (ne_A hM (by decide) (by decide) (by decide)), he58, sI_pI, up2_row (ne_A hM (by decide) (by decide) (by decide)), he54, sI_pI, up2_row (ne_m hM (by decide))]
      · rw [h8, sI_pI, up2_jn (by decide), s9.2.2.2.2.2 48 (by decide), he80, sI_pI, up2_row (Ne.symm (ne_m hM (by decide))), he76, sI_pI, up2_row (Ne.symm (ne_m hM (by decide))), he70, sI_pI, up2_row (Ne.symm (ne_m hM (by decide))), he66, sI_pI, up2_row (Ne.symm (ne_m hM (by decide))), he62, sI_pI, up2_row (Ne.symm (ne_m hM (by decide))), he58, sI_pI, up2_row (Ne.symm (ne_m hM (by decide))), he54, sI_pI, up2_self, ← hv9, if_neg (show ¬ f_X8_isPartner (sI S0) m A x (nI 16) = 0 from h16)]
  · refine e_cI ?_
    exact e_rI (K0 (by omega))
theorem w_v_giveh {Q : Option Value → MM → Prop} {S0 : MM} {m nt F : Nat} {A : Nat → Nat} {v b w u : Int32} (hM : MS S0 m A) (hI : IV S0 m A nt) (hnt : nt < 4000) (e39 : sI S0 m 39 = nI F) (hF : F < 4200) (KB : GVB v w → ∀ r S', SM [0] m A S0 S' → IM S' m A → sI S' m 0 = 1 → Q (some (.int r)) S') (KN : ∀ e cv, e < 2 → cv < 256 → v = nI e → w = nI cv → ∀ S1, SM [0] m A S0 S1 → IM S1 m A → sI S1 m 0 = 0 → GNm S1 A nt e cv b → Q (some (.int (-1))) S1) (KA : ∀ e cv j c d S1 S', e < 2 → cv < 256 → v = nI e → w = nI cv → 1 ≤ d → d ≤ 8 → sI S0 (A 23) c = nI d → SM [0] m A S0 S1 → sI S1 m 0 = 0 → GYm S1 A nt e cv b j c → SM WG m A S0 S' → SM [27, 28, 29, 30, 32, 33, 34, 35, 36, 37, 38, 39, 48] m A S1 S' → IV S' m A (nt + 1) → sI S' m 39 = nI (F + 1) → TL S' A (nt + 1) = TL S0 A nt ++ [(nI c, nI e, sI S0 m 43 + nI d, nI F)] → sI S' (A 35) = upd (sI S1 (A 35)) F (nI cv) → sI S' (A 36) = upd (sI S1 (A 36)) F u → MYx (sI S1) (sI S') m A F e (8 * e + j) b → Q (some (.int (nI j))) S') : wX8_give [.ref m, .int v, .int b, .int w, .int u] S0 Q := by
  have bad : GVB v w → ∀ f, wpn (kX8_give Q) (f + 2) 19 (lv_args 0 [.ref m, .int v, .int b, .int w, .int u]) [.ref m] S0 0 0 := fun hbad f => by
    refine u_X8_give_19 ?_
    unfold bX8_give_19
    refine e_cI (u_X8_give_24 ?_)
    unfold bX8_give_24
    refine y_mI (W := [0]) hM SM.rf hI.1 (by decide) (fun N e => nomatch (show (none : Option Nat) = some N from e)) (fun S1 he sh im1 => ?_)
    obtain ⟨iv, tl⟩ := IV_SM hI hM sh im1 (by decide)
    exact e_ldA rfl (e_gV (v := 1) (SM_k sh hM.1) (by rw [he]; exact rd_s) ⟨fun z => absurd z (by decide), fun _ => e_cI (e_rI (KB hbad _ S1 sh im1 (by rw [he]; exact rd_s)))⟩)
  refine Exists.intro 200 (u_X8_give_0 ?_)
  unfold bX8_give_0
  refine e_ldA rfl (e_ldI rfl (And.intro ⟨by decide, by decide⟩ (z_MisEnd' (fun h => e_ifN (by decide) (fun _ => bad (Or.inl h) 197) (fun q => absurd rfl q)) (fun e he ee => e_ifN (by decide) (fun q => absurd q (by decide)) (fun _ => ?_)))))
  refine e_ldI rfl ⟨fun hn => bad (Or.inr (Or.inl hn)) 197, fun w0 => e_ldI rfl (e_cI ⟨fun w1 => ?_, fun hn => bad (Or.inr (Or.inr hn)) 197⟩)⟩
  obtain ⟨cv, hcv, ecv⟩ := nn_nat w0
  subst ee ecv
  have hcv2 : cv < 256 := by
    have q := Int32.le_iff_toInt_le.mp (show nI cv ≤ 255 from w1)
    rw [nI_toInt (by omega), show (255 : Int32).toInt = 255 from by decide] at q
    omega
  refine u_X8_give_23 ?_
  unfold bX8_give_23
  refine e_cI (u_X8_give_24 ?_)
  unfold bX8_give_24
  refine y_mI (W := [0]) hM SM.rf hI.1 (by decide) (fun N e => nomatch (show (none : Option Nat) = some N from e)) (fun S1 he1 sh im1 => ?_)
  have hM1 := MS_SM hM sh
  obtain ⟨iv, tl⟩ := IV_SM hI hM sh im1 (by decide)
  obtain ⟨j1, j2, j3, j4, j5⟩ := id iv
  have f39 : sI S1 m 39 = nI F := (sh.2.2.2.2.2 39 (by decide)).trans e39
  have z0 : sI S1 m 0 = 0 := by rw [he1]; exact rd_s
  refine e_ldA rfl (e_gV (v := 0) (SM_k sh hM.1) (by rw [he1]; exact rd_s) ⟨fun _ => u_X8_give_36 ?_, fun z => absurd (by decide) z⟩)
  unfold bX8_give_36
  have L0 : LG (lv_args 0 [.ref m, .int (nI e), .int b, .int (nI cv), .int u]) m e b cv u := ⟨rfl, rfl, rfl, rfl, rfl⟩
  refine e_cN 0 rfl (e_stI (e_cN 8 rfl (e_ldI (lvg_ne L0.2.1 rfl (by decide)) (e_mul (e_stI (q_gv45 (S := S1) (f0 := 100) hM1 he (fun f lv k hf hk h1 h2 L l5 => ?_) 8 0 0 196 _ rfl (by decide) (by decide) (fun _ => rfl) (fun _ => rfl) (LG_s (LG_s L0 (by decide)) (by decide)) (lvg_ne lvg_self rfl (by decide)) lvg_self))))))
  obtain ⟨g, rfl⟩ : ∃ g, f = g + 2 := ⟨f - 2, by omega⟩
  refine u_X8_give_99 ?_
  unfold bX8_give_99
  refine e_ldI l5 (e_ifN (by omega) (fun hk0 => e_cI (e_rI (KN e cv he hcv2 rfl rfl S1 sh im1 z0 (Or.inl (Classical.byContradiction (fun y => by
    have nb : ¬ b < 0 := fun q => y (Or.inl q)
    exact y (Or.inr ((h1 nb).symm.trans hk0)))))))) (fun hk0 => u_X8_give_106 ?_))
  have nb : ¬ b < 0 := fun z => hk0 (h2 z)
  have ek := h1 nb
  unfold bX8_give_106
  refine e_ldI L.2.2.2.1 (e_ldI l5 (e_rem (by omega) (by omega) (by omega) (e_stI (e_cN 8 rfl (e_ldI (lvg_ne L.2.1 rfl (by decide)) (e_mul (e_stI (w_gv118 (S := S1) (f0 := 20) (w0 := cv % k) (u := u) (cv := cv) hM1 he (by rw [← ek]; exact Nat.mod_lt _ (by omega)) (by have := Nat.mod_lt cv (show 0 < k by omega); omega) (fun f2 lv2 j hf2 hj h4 hgv hgc L2 l7 => ?_) 8 0 (cv % k) g _ rfl (by omega) (by show 0 + cv % k = cv % k; omega) (LG_s (LG_s L (by decide)) (by decide)) (lvg_ne lvg_self rfl (by decide)) lvg_self))))))))
  obtain ⟨c, hc, h11, h25⟩ := RI_lit j2 (show 8 * e + j < 16 by omega) (Or.inr h4)
  obtain ⟨d, hd1, hd2, hd⟩ := j2.2.2.1 c hc (j2.1 c hc h25)
  rw [ek] at hgc
  refine w_give183h (x := 8 * e + j) (F := F) (nt := nt) hM1 im1 (by omega) hc he h11 f39 hF j3 hnt hcv2 (fun hful => KN e cv he hcv2 rfl rfl S1 sh im1 z0 (Or.inr ⟨j, c, hj, hc, nb, hgv, hgc, h11, hful⟩)) (fun S' s i v32 v39 t hlt a35 a36 my => ?_) (by omega) L2.1 L2.2.1 L2.2.2.1 L2.2.2.2.1 L2.2.2.2.2 l7
  have t' : TL S' A (nt + 1) = TL S0 A nt ++ [(nI c, nI e, sI S0 m 43 + nI d, nI F)] := by rw [t, hd, tl, sh.2.2.2.2.2 43 (by decide)]
  rw [show (8 * e + j) % 8 = j by omega]
  refine KA e cv j c d S1 S' he hcv2 rfl rfl hd1 hd2 (by rw [← SM_a sh hM (k := 23) (by decide) (by decide)]; exact hd) sh z0 ⟨hj, hc, nb, hgv, hgc, h11, hlt⟩ (SM.tr (SM.tr SM.rf sh (by decide)) s (by decide)) s ⟨i, RV_SM j2 hM1 s (by decide), v32, by omega, fun q hq => ?_⟩ v39 t' a35 a36 my
  rw [t'] at hq
  rw [SM_a s hM1 (k := 25) (by decide) (by decide)]
  rcases List.mem_append.mp hq with z | z
  · exact j5 q (by rw [tl]; exact z)
  · have ez := List.mem_singleton.mp z
    subst ez
    exact ⟨c, hc, rfl, h25⟩
