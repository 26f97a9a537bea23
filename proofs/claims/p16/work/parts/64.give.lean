theorem u_X8_give_0 {Q : Option Value → MM → Prop} {n : Nat} {lv : Lv} {st : List Value} {S : MM} {c z : Nat} (h : bX8_give_0 Q (wpn (kX8_give Q) n) lv st S c z) : wpn (kX8_give Q) (n + 1) 0 lv st S c z := h
theorem u_X8_give_19 {Q : Option Value → MM → Prop} {n : Nat} {lv : Lv} {st : List Value} {S : MM} {c z : Nat} (h : bX8_give_19 Q (wpn (kX8_give Q) n) lv st S c z) : wpn (kX8_give Q) (n + 1) 19 lv st S c z := h
theorem u_X8_give_23 {Q : Option Value → MM → Prop} {n : Nat} {lv : Lv} {st : List Value} {S : MM} {c z : Nat} (h : bX8_give_23 Q (wpn (kX8_give Q) n) lv st S c z) : wpn (kX8_give Q) (n + 1) 23 lv st S c z := h
theorem u_X8_give_24 {Q : Option Value → MM → Prop} {n : Nat} {lv : Lv} {st : List Value} {S : MM} {c z : Nat} (h : bX8_give_24 Q (wpn (kX8_give Q) n) lv st S c z) : wpn (kX8_give Q) (n + 1) 24 lv st S c z := h
theorem u_X8_give_36 {Q : Option Value → MM → Prop} {n : Nat} {lv : Lv} {st : List Value} {S : MM} {c z : Nat} (h : bX8_give_36 Q (wpn (kX8_give Q) n) lv st S c z) : wpn (kX8_give Q) (n + 1) 36 lv st S c z := h
theorem u_X8_give_45 {Q : Option Value → MM → Prop} {n : Nat} {lv : Lv} {st : List Value} {S : MM} {c z : Nat} (h : bX8_give_45 Q (wpn (kX8_give Q) n) lv st S c z) : wpn (kX8_give Q) (n + 1) 45 lv st S c z := h
theorem u_X8_give_89 {Q : Option Value → MM → Prop} {n : Nat} {lv : Lv} {st : List Value} {S : MM} {c z : Nat} (h : bX8_give_89 Q (wpn (kX8_give Q) n) lv st S c z) : wpn (kX8_give Q) (n + 1) 89 lv st S c z := h
theorem u_X8_give_90 {Q : Option Value → MM → Prop} {n : Nat} {lv : Lv} {st : List Value} {S : MM} {c z : Nat} (h : bX8_give_90 Q (wpn (kX8_give Q) n) lv st S c z) : wpn (kX8_give Q) (n + 1) 90 lv st S c z := h
theorem u_X8_give_99 {Q : Option Value → MM → Prop} {n : Nat} {lv : Lv} {st : List Value} {S : MM} {c z : Nat} (h : bX8_give_99 Q (wpn (kX8_give Q) n) lv st S c z) : wpn (kX8_give Q) (n + 1) 99 lv st S c z := h
theorem u_X8_give_106 {Q : Option Value → MM → Prop} {n : Nat} {lv : Lv} {st : List Value} {S : MM} {c z : Nat} (h : bX8_give_106 Q (wpn (kX8_give Q) n) lv st S c z) : wpn (kX8_give Q) (n + 1) 106 lv st S c z := h
theorem u_X8_give_118 {Q : Option Value → MM → Prop} {n : Nat} {lv : Lv} {st : List Value} {S : MM} {c z : Nat} (h : bX8_give_118 Q (wpn (kX8_give Q) n) lv st S c z) : wpn (kX8_give Q) (n + 1) 118 lv st S c z := h
theorem u_X8_give_145 {Q : Option Value → MM → Prop} {n : Nat} {lv : Lv} {st : List Value} {S : MM} {c z : Nat} (h : bX8_give_145 Q (wpn (kX8_give Q) n) lv st S c z) : wpn (kX8_give Q) (n + 1) 145 lv st S c z := h
theorem u_X8_give_173 {Q : Option Value → MM → Prop} {n : Nat} {lv : Lv} {st : List Value} {S : MM} {c z : Nat} (h : bX8_give_173 Q (wpn (kX8_give Q) n) lv st S c z) : wpn (kX8_give Q) (n + 1) 173 lv st S c z := h
theorem u_X8_give_174 {Q : Option Value → MM → Prop} {n : Nat} {lv : Lv} {st : List Value} {S : MM} {c z : Nat} (h : bX8_give_174 Q (wpn (kX8_give Q) n) lv st S c z) : wpn (kX8_give Q) (n + 1) 174 lv st S c z := h
theorem u_X8_give_183 {Q : Option Value → MM → Prop} {n : Nat} {lv : Lv} {st : List Value} {S : MM} {c z : Nat} (h : bX8_give_183 Q (wpn (kX8_give Q) n) lv st S c z) : wpn (kX8_give Q) (n + 1) 183 lv st S c z := h
theorem u_X8_give_208 {Q : Option Value → MM → Prop} {n : Nat} {lv : Lv} {st : List Value} {S : MM} {c z : Nat} (h : bX8_give_208 Q (wpn (kX8_give Q) n) lv st S c z) : wpn (kX8_give Q) (n + 1) 208 lv st S c z := h
theorem u_X8_give_228 {Q : Option Value → MM → Prop} {n : Nat} {lv : Lv} {st : List Value} {S : MM} {c z : Nat} (h : bX8_give_228 Q (wpn (kX8_give Q) n) lv st S c z) : wpn (kX8_give Q) (n + 1) 228 lv st S c z := h
theorem u_X8_give_229 {Q : Option Value → MM → Prop} {n : Nat} {lv : Lv} {st : List Value} {S : MM} {c z : Nat} (h : bX8_give_229 Q (wpn (kX8_give Q) n) lv st S c z) : wpn (kX8_give Q) (n + 1) 229 lv st S c z := h
theorem u_X8_give_304 {Q : Option Value → MM → Prop} {n : Nat} {lv : Lv} {st : List Value} {S : MM} {c z : Nat} (h : bX8_give_304 Q (wpn (kX8_give Q) n) lv st S c z) : wpn (kX8_give Q) (n + 1) 304 lv st S c z := h
theorem q_give183 {Q : Option Value → MM → Prop} {S0 : MM} {m : Nat} {A : Nat → Nat} {x c e F nt cv n : Nat} {b u : Int32} {lv : Lv} (hM : MS S0 m A) (im : IM S0 m A) (hx : x < 16) (hc : c < 8) (he : e < 2) (h11 : sI S0 (A 11) x = nI c) (e39 : sI S0 m 39 = nI F) (hF : F < 4200) (e32 : sI S0 m 32 = nI nt) (hnt : nt < 4000) (hcv : cv < 256) (K0 : ∀ r S', SM [33, 34, 35, 36, 37, 38, 48] m A S0 S' → IM S' m A → Q (some (.int r)) S') (K1 : ∀ r S', SM [27, 28, 29, 30, 32, 33, 34, 35, 36, 37, 38, 39, 48] m A S0 S' → IM S' m A → sI S' m 32 = nI (nt + 1) → sI S' m 39 = nI (F + 1) → TL S' A (nt + 1) = TL S0 A nt ++ [(nI c, nI e, sI S0 m 43 + sI S0 (A 23) c, nI F)] → Q (some (.int r)) S') (hn : 12 ≤ n) (g0 : lvg lv 0 = some (.ref m)) (g1 : lvg lv 1 = some (.int (nI e))) (g2 : lvg lv 2 = some (.int b)) (g3 : lvg lv 3 = some (.int (nI cv))) (g4 : lvg lv 4 = some (.int u)) (g7 : lvg lv 7 = some (.int (nI x))) : wpn (kX8_give Q) n 183 lv [] S0 0 0 := by
  have sh : SM [33, 34, 35, 36, 37, 38, 48] m A S0 S0 := SM.rf
  obtain ⟨q1, rfl⟩ : ∃ q, n = q + 1 := ⟨n - 1, by omega⟩
  refine u_X8_give_183 ?_
  unfold bX8_give_183
  refine e_ldA g0 ?_
  refine e_gR (SM_k sh hM.1) (SM_r sh (hM.2.1 11 (by decide)).1) ?_
  refine e_ldI g7 ?_
  refine e_aV (N := 16) (v := nI c) (SM_k sh (hM.2.1 11 (by decide)).2.1) (SM_n sh (hM.2.1 11 (by decide)).2.2.1) (by omega) (by decide) (by rw [SM_a sh hM (by decide) (by decide)]; exact h11) ?_
  refine e_stI ?_
  refine e_ldA (lvg_ne g0 rfl (by decide)) ?_
  refine e_ldI lvg_self ?_
  refine e_ldI (lvg_ne g1 rfl (by decide)) ?_
  refine e_cN 0 rfl ?_
  refine And.intro (SM_k sh hM.1) (And.intro ⟨by decide, by decide⟩ (z_X8_on (MS_SM hM sh) im (show 0 < 2 by omega) (fun r6 S2 s3 ir4 => ?_)))
  have sh5 := SM.tr sh s3 (by decide)
  refine e_cN 200 rfl ?_
  refine e_ifc ?_ ?_
  · obtain ⟨q7, rfl⟩ : ∃ q, q1 = q + 1 := ⟨q1 - 1, by omega⟩
    refine u_X8_give_208 ?_
    unfold bX8_give_208
    refine e_ldA (lvg_ne g0 rfl (by decide)) ?_
    refine e_duA ?_
    refine e_gI (SM_k sh5 hM.1) (fun v8 hv9 => ?_)
    refine e_ldA (lvg_ne g0 rfl (by decide)) ?_
    refine e_ldI (lvg_ne g7 rfl (by decide)) ?_
    refine e_cN 16 rfl ?_
    refine And.intro (SM_k sh5 hM.1) (And.intro ⟨by decide, by decide⟩ (z_X8_isPartner (MS_SM hM sh5) ir4 (show x < 16 by omega) (fun n14 S10 s11 ir12 hn15 => ?_)))
    have sh13 := SM.tr sh5 s11 (by decide)
    refine e_ifN (by omega) (fun h16 => ?_) (fun h16 => ?_)
    · obtain ⟨q17, rfl⟩ : ∃ q, q7 = q + 1 := ⟨q7 - 1, by omega⟩
      refine u_X8_give_228 ?_
      unfold bX8_give_228
      refine e_cN 1 rfl ?_
      obtain ⟨q18, rfl⟩ : ∃ q, q17 = q + 1 := ⟨q17 - 1, by omega⟩
      refine u_X8_give_229 ?_
      unfold bX8_give_229
      refine e_bopU (fun r19 => ?_)
      refine y_mI hM sh13 ir12 (by decide) (fun N e => nomatch (show (none : Option Nat) = some N from e)) (fun S20 he21 sh22 ir23 => ?_)
      refine e_ldA (lvg_ne g0 rfl (by decide)) ?_
      refine e_gR (SM_k sh22 hM.1) (SM_r sh22 (hM.2.1 33 (by decide)).1) ?_
      refine e_ldA (lvg_ne g0 rfl (by decide)) ?_
      refine e_gV (v := nI F) (SM_k sh22 hM.1) ((sh22.2.2.2.2.2 39 (by decide)).trans e39) ?_
      refine e_ldI (lvg_ne g1 rfl (by decide)) ?_
      refine y_mA (N := 4200) hM sh22 ir23 (by decide) rfl rfl (by omega) (by decide) (by decide) (fun N e => nomatch (show (none : Option Nat) = some N from e)) (fun e => absurd e (by decide)) (fun S24 he25 sh26 ir27 => ?_)
      refine e_ldA (lvg_ne g0 rfl (by decide)) ?_
      refine e_gR (SM_k sh26 hM.1) (SM_r sh26 (hM.2.1 34 (by decide)).1) ?_
      refine e_ldA (lvg_ne g0 rfl (by decide)) ?_
      refine e_gV (v := nI F) (SM_k sh26 hM.1) ((sh26.2.2.2.2.2 39 (by decide)).trans e39) ?_
      refine e_ldI (lvg_ne g2 rfl (by decide)) ?_
      refine y_mA (N := 4200) hM sh26 ir27 (by decide) rfl rfl (by omega) (by decide) (by decide) (fun N e => nomatch (show (none : Option Nat) = some N from e)) (fun e => absurd e (by decide)) (fun S28 he29 sh30 ir31 => ?_)
      refine e_ldA (lvg_ne g0 rfl (by decide)) ?_
      refine e_gR (SM_k sh30 hM.1) (SM_r sh30 (hM.2.1 35 (by decide)).1) ?_
      refine e_ldA (lvg_ne g0 rfl (by decide)) ?_
      refine e_gV (v := nI F) (SM_k sh30 hM.1) ((sh30.2.2.2.2.2 39 (by decide)).trans e39) ?_
      refine e_ldI (lvg_ne g3 rfl (by decide)) ?_
      refine y_mA (N := 4200) hM sh30 ir31 (by decide) rfl rfl (by omega) (by decide) (by decide) (fun N e => nomatch (show (none : Option Nat) = some N from e)) (fun e => absurd e (by decide)) (fun S32 he33 sh34 ir35 => ?_)
      refine e_ldA (lvg_ne g0 rfl (by decide)) ?_
      refine e_gR (SM_k sh34 hM.1) (SM_r sh34 (hM.2.1 36 (by decide)).1) ?_
      refine e_ldA (lvg_ne g0 rfl (by decide)) ?_
      refine e_gV (v := nI F) (SM_k sh34 hM.1) ((sh34.2.2.2.2.2 39 (by decide)).trans e39) ?_
      refine e_ldI (lvg_ne g4 rfl (by decide)) ?_
      refine y_mA (N := 4200) hM sh34 ir35 (by decide) rfl rfl (by omega) (by decide) (by decide) (fun N e => nomatch (show (none : Option Nat) = some N from e)) (fun e => absurd e (by decide)) (fun S36 he37 sh38 ir39 => ?_)
      refine e_ldA (lvg_ne g0 rfl (by decide)) ?_
      refine e_gR (SM_k sh38 hM.1) (SM_r sh38 (hM.2.1 37 (by decide)).1) ?_
      refine e_ldA (lvg_ne g0 rfl (by decide)) ?_
      refine e_gV (v := nI F) (SM_k sh38 hM.1) ((sh38.2.2.2.2.2 39 (by decide)).trans e39) ?_
      refine e_ldA (lvg_ne g0 rfl (by decide)) ?_
      refine e_gR (SM_k sh38 hM.1) (SM_r sh38 (hM.2.1 40 (by decide)).1) ?_
      refine e_ldI (lvg_ne g1 rfl (by decide)) ?_
      refine e_aI (N := 2) (SM_k sh38 (hM.2.1 40 (by decide)).2.1) (SM_n sh38 (hM.2.1 40 (by decide)).2.2.1) (by omega) (by decide) (fun v40 hv41 => ?_)
      refine y_mA (N := 4200) hM sh38 ir39 (by decide) rfl rfl (by omega) (by decide) (by decide) (fun N e => nomatch (show (none : Option Nat) = some N from e)) (fun e => absurd e (by decide)) (fun S42 he43 sh44 ir45 => ?_)
      refine e_ldA (lvg_ne g0 rfl (by decide)) ?_
      refine e_gR (SM_k sh44 hM.1) (SM_r sh44 (hM.2.1 38 (by decide)).1) ?_
      refine e_ldA (lvg_ne g0 rfl (by decide)) ?_
      refine e_gV (v := nI F) (SM_k sh44 hM.1) ((sh44.2.2.2.2.2 39 (by decide)).trans e39) ?_
      refine e_cN 0 rfl ?_
      refine y_mB (N := 4200) hM sh44 ir45 (by decide) rfl rfl (by omega) (by decide) (by omega) (by decide) (fun N e => nomatch (show (none : Option Nat) = some N from e)) (fun e => absurd e (by decide)) (fun S46 he47 sh48 ir49 => ?_)
      refine e_ldA (lvg_ne g0 rfl (by decide)) ?_
      refine e_ldI lvg_self ?_
      refine e_ldI (lvg_ne g1 rfl (by decide)) ?_
      refine e_ldA (lvg_ne g0 rfl (by decide)) ?_
      obtain ⟨q50, rfl⟩ : ∃ q, q18 = q + 1 := ⟨q18 - 1, by omega⟩
      refine u_X8_give_304 ?_
      unfold bX8_give_304
      refine e_gV (v := nI F) (SM_k sh48 hM.1) ((sh48.2.2.2.2.2 39 (by decide)).trans e39) ?_
      refine And.intro (SM_k sh48 hM.1) (And.intro ⟨by decide, by decide⟩ (z_f_comesOn (MS_SM hM sh48) ir49 hc he (Or.inr ⟨F, hF, rfl⟩) hnt ((sh48.2.2.2.2.2 32 (by decide)).trans e32) (fun S9 s9 im9 v9 t9 => ?_)))
      have sh9 : SM [27, 28, 29, 30, 32, 33, 34, 35, 36, 37, 38, 39, 48] m A S0 S9 := SM.tr (SM.tr SM.rf sh48 (by decide)) s9 (by decide)
      have f9 : sI S9 m 39 = nI F := (s9.2.2.2.2.2 39 (by decide)).trans ((sh48.2.2.2.2.2 39 (by decide)).trans e39)
      refine e_ldA (lvg_ne g0 rfl (by decide)) (e_duA (e_gV (v := nI F) (SM_k sh9 hM.1) f9 (e_cN 1 rfl (e_add (y_mI hM sh9 im9 (by decide) (fun N e => nomatch (show (none : Option Nat) = some N from e)) (fun S8 h8 sh8 im8 => e_ldI (lvg_ne g7 rfl (by decide)) (e_cN 8 rfl (e_rem (by omega) (by decide) (by decide) (e_rI (K1 _ S8 sh8 im8 ?_ ?_ ?_)))))))))) 
      · rw [h8]; exact rd_k v9 (by decide)
      · rw [h8]; exact rd_s
      · have t8 : TL S8 A (nt + 1) = TL S9 A (nt + 1) := TL_c (fun j _ => by unfold th; rw [fn_o (a := A 27) h8 rfl (ne_m hM (by decide)), fn_o (a := A 28) h8 rfl (ne_m hM (by decide)), fn_o (a := A 29) h8 rfl (ne_m hM (by decide)), fn_o (a := A 30) h8 rfl (ne_m hM (by decide))])
        rw [t8, t9, TL_c (fun j _ => th_SM sh48 hM (by decide) j), sh48.2.2.2.2.2 43 (by decide), SM_a sh48 hM (k := 23) (by decide) (by decide)]
    · refine e_cN 0 rfl ?_
      obtain ⟨q51, rfl⟩ : ∃ q, q7 = q + 1 := ⟨q7 - 1, by omega⟩
      refine u_X8_give_229 ?_
      unfold bX8_give_229
      refine e_bopU (fun r52 => ?_)
      refine y_mI hM sh13 ir12 (by decide) (fun N e => nomatch (show (none : Option Nat) = some N from e)) (fun S53 he54 sh55 ir56 => ?_)
      refine e_ldA (lvg_ne g0 rfl (by decide)) ?_
      refine e_gR (SM_k sh55 hM.1) (SM_r sh55 (hM.2.1 33 (by decide)).1) ?_
      refine e_ldA (lvg_ne g0 rfl (by decide)) ?_
      refine e_gV (v := nI F) (SM_k sh55 hM.1) ((sh55.2.2.2.2.2 39 (by decide)).trans e39) ?_
      refine e_ldI (lvg_ne g1 rfl (by decide)) ?_
      refine y_mA (N := 4200) hM sh55 ir56 (by decide) rfl rfl (by omega) (by decide) (by decide) (fun N e => nomatch (show (none : Option Nat) = some N from e)) (fun e => absurd e (by decide)) (fun S57 he58 sh59 ir60 => ?_)
      refine e_ldA (lvg_ne g0 rfl (by decide)) ?_
      refine e_gR (SM_k sh59 hM.1) (SM_r sh59 (hM.2.1 34 (by decide)).1) ?_
      refine e_ldA (lvg_ne g0 rfl (by decide)) ?_
      refine e_gV (v := nI F) (SM_k sh59 hM.1) ((sh59.2.2.2.2.2 39 (by decide)).trans e39) ?_
      refine e_ldI (lvg_ne g2 rfl (by decide)) ?_
      refine y_mA (N := 4200) hM sh59 ir60 (by decide) rfl rfl (by omega) (by decide) (by decide) (fun N e => nomatch (show (none : Option Nat) = some N from e)) (fun e => absurd e (by decide)) (fun S61 he62 sh63 ir64 => ?_)
      refine e_ldA (lvg_ne g0 rfl (by decide)) ?_
      refine e_gR (SM_k sh63 hM.1) (SM_r sh63 (hM.2.1 35 (by decide)).1) ?_
      refine e_ldA (lvg_ne g0 rfl (by decide)) ?_
      refine e_gV (v := nI F) (SM_k sh63 hM.1) ((sh63.2.2.2.2.2 39 (by decide)).trans e39) ?_
      refine e_ldI (lvg_ne g3 rfl (by decide)) ?_
      refine y_mA (N := 4200) hM sh63 ir64 (by decide) rfl rfl (by omega) (by decide) (by decide) (fun N e => nomatch (show (none : Option Nat) = some N from e)) (fun e => absurd e (by decide)) (fun S65 he66 sh67 ir68 => ?_)
      refine e_ldA (lvg_ne g0 rfl (by decide)) ?_
      refine e_gR (SM_k sh67 hM.1) (SM_r sh67 (hM.2.1 36 (by decide)).1) ?_
      refine e_ldA (lvg_ne g0 rfl (by decide)) ?_
      refine e_gV (v := nI F) (SM_k sh67 hM.1) ((sh67.2.2.2.2.2 39 (by decide)).trans e39) ?_
      refine e_ldI (lvg_ne g4 rfl (by decide)) ?_
      refine y_mA (N := 4200) hM sh67 ir68 (by decide) rfl rfl (by omega) (by decide) (by decide) (fun N e => nomatch (show (none : Option Nat) = some N from e)) (fun e => absurd e (by decide)) (fun S69 he70 sh71 ir72 => ?_)
      refine e_ldA (lvg_ne g0 rfl (by decide)) ?_
      refine e_gR (SM_k sh71 hM.1) (SM_r sh71 (hM.2.1 37 (by decide)).1) ?_
      refine e_ldA (lvg_ne g0 rfl (by decide)) ?_
      refine e_gV (v := nI F) (SM_k sh71 hM.1) ((sh71.2.2.2.2.2 39 (by decide)).trans e39) ?_
      refine e_ldA (lvg_ne g0 rfl (by decide)) ?_
      refine e_gR (SM_k sh71 hM.1) (SM_r sh71 (hM.2.1 40 (by decide)).1) ?_
      refine e_ldI (lvg_ne g1 rfl (by decide)) ?_
      refine e_aI (N := 2) (SM_k sh71 (hM.2.1 40 (by decide)).2.1) (SM_n sh71 (hM.2.1 40 (by decide)).2.2.1) (by omega) (by decide) (fun v73 hv74 => ?_)
      refine y_mA (N := 4200) hM sh71 ir72 (by decide) rfl rfl (by omega) (by decide) (by decide) (fun N e => nomatch (show (none : Option Nat) = some N from e)) (fun e => absurd e (by decide)) (fun S75 he76 sh77 ir78 => ?_)
      refine e_ldA (lvg_ne g0 rfl (by decide)) ?_
      refine e_gR (SM_k sh77 hM.1) (SM_r sh77 (hM.2.1 38 (by decide)).1) ?_
      refine e_ldA (lvg_ne g0 rfl (by decide)) ?_
      refine e_gV (v := nI F) (SM_k sh77 hM.1) ((sh77.2.2.2.2.2 39 (by decide)).trans e39) ?_
      refine e_cN 0 rfl ?_
      refine y_mB (N := 4200) hM sh77 ir78 (by decide) rfl rfl (by omega) (by decide) (by omega) (by decide) (fun N e => nomatch (show (none : Option Nat) = some N from e)) (fun e => absurd e (by decide)) (fun S79 he80 sh81 ir82 => ?_)
      refine e_ldA (lvg_ne g0 rfl (by decide)) ?_
      refine e_ldI lvg_self ?_
      refine e_ldI (lvg_ne g1 rfl (by decide)) ?_
      refine e_ldA (lvg_ne g0 rfl (by decide)) ?_
      obtain ⟨q83, rfl⟩ : ∃ q, q51 = q + 1 := ⟨q51 - 1, by omega⟩
      refine u_X8_give_304 ?_
      unfold bX8_give_304
      refine e_gV (v := nI F) (SM_k sh81 hM.1) ((sh81.2.2.2.2.2 39 (by decide)).trans e39) ?_
      refine And.intro (SM_k sh81 hM.1) (And.intro ⟨by decide, by decide⟩ (z_f_comesOn (MS_SM hM sh81) ir82 hc he (Or.inr ⟨F, hF, rfl⟩) hnt ((sh81.2.2.2.2.2 32 (by decide)).trans e32) (fun S9 s9 im9 v9 t9 => ?_)))
      have sh9 : SM [27, 28, 29, 30, 32, 33, 34, 35, 36, 37, 38, 39, 48] m A S0 S9 := SM.tr (SM.tr SM.rf sh81 (by decide)) s9 (by decide)
      have f9 : sI S9 m 39 = nI F := (s9.2.2.2.2.2 39 (by decide)).trans ((sh81.2.2.2.2.2 39 (by decide)).trans e39)
      refine e_ldA (lvg_ne g0 rfl (by decide)) (e_duA (e_gV (v := nI F) (SM_k sh9 hM.1) f9 (e_cN 1 rfl (e_add (y_mI hM sh9 im9 (by decide) (fun N e => nomatch (show (none : Option Nat) = some N from e)) (fun S8 h8 sh8 im8 => e_ldI (lvg_ne g7 rfl (by decide)) (e_cN 8 rfl (e_rem (by omega) (by decide) (by decide) (e_rI (K1 _ S8 sh8 im8 ?_ ?_ ?_)))))))))) 
      · rw [h8]; exact rd_k v9 (by decide)
      · rw [h8]; exact rd_s
      · have t8 : TL S8 A (nt + 1) = TL S9 A (nt + 1) := TL_c (fun j _ => by unfold th; rw [fn_o (a := A 27) h8 rfl (ne_m hM (by decide)), fn_o (a := A 28) h8 rfl (ne_m hM (by decide)), fn_o (a := A 29) h8 rfl (ne_m hM (by decide)), fn_o (a := A 30) h8 rfl (ne_m hM (by decide))])
        rw [t8, t9, TL_c (fun j _ => th_SM sh81 hM (by decide) j), sh81.2.2.2.2.2 43 (by decide), SM_a sh81 hM (k := 23) (by decide) (by decide)]
  · refine e_cI ?_
    exact e_rI (K0 _ _ sh5 ir4)
def gv (S : MM) (A : Nat → Nat) (e : Nat) (b : Int32) (j : Nat) : Bool := decide (sI S (A 12) (8 * e + j) = b) && decide (sI S (A 9) (8 * e + j) = 4)
def gc (S : MM) (A : Nat → Nat) (e : Nat) (b : Int32) : Nat → Nat
  | 0 => 0
  | j + 1 => gc S A e b j + if gv S A e b j = true then 1 else 0
theorem gc_s {S : MM} {A : Nat → Nat} {e j : Nat} {b : Int32} : gc S A e b (j + 1) = gc S A e b j + if gv S A e b j = true then 1 else 0 := rfl
def LG (lv : Lv) (m e : Nat) (b : Int32) (cv : Nat) (u : Int32) : Prop := lvg lv 0 = some (.ref m) ∧ lvg lv 1 = some (.int (nI e)) ∧ lvg lv 2 = some (.int b) ∧ lvg lv 3 = some (.int (nI cv)) ∧ lvg lv 4 = some (.int u)
theorem LG_s {lv : Lv} {m e cv i : Nat} {b u : Int32} {w : Value} (h : LG lv m e b cv u) (hi : 4 < i) : LG (lvs lv i w) m e b cv u := ⟨lvg_ne h.1 rfl (by omega), lvg_ne h.2.1 rfl (by omega), lvg_ne h.2.2.1 rfl (by omega), lvg_ne h.2.2.2.1 rfl (by omega), lvg_ne h.2.2.2.2 rfl (by omega)⟩
theorem q_gv45 {Q : Option Value → MM → Prop} {S : MM} {m e cv f0 : Nat} {A : Nat → Nat} {b u : Int32} (hM : MS S m A) (he : e < 2) (K : ∀ f lv k, f0 ≤ f → k ≤ 8 → (¬ b < 0 → k = gc S A e b 8) → (b < 0 → k = 0) → LG lv m e b cv u → lvg lv 5 = some (.int (nI k)) → wpn (kX8_give Q) f 99 lv [] S 0 0) : ∀ (r j k f : Nat) (lv : Lv), j + r = 8 → f0 + 4 * r + 1 ≤ f → k ≤ j → (¬ b < 0 → k = gc S A e b j) → (b < 0 → k = 0) → LG lv m e b cv u → lvg lv 5 = some (.int (nI k)) → lvg lv 6 = some (.int (nI (8 * e + j))) → wpn (kX8_give Q) f 45 lv [] S 0 0 := by
  intro r
  induction r with
  | zero =>
    intro j k f lv hj hf hk h1 h2 L l5 l6
    have ej : j = 8 := by omega
    subst ej
    obtain ⟨g, rfl⟩ : ∃ g, f = g + 1 := ⟨f - 1, by omega⟩
    refine u_X8_give_45 ?_
    unfold bX8_give_45
    exact e_ldI l6 (e_cN 8 rfl (e_ldI L.2.1 (e_mul (e_cN 8 rfl (e_add (e_ge (by omega) (by omega) (fun _ => K g lv k (by omega) hk h1 h2 L l5) (fun h => absurd h (by omega))))))))
  | succ r ih =>
    intro j k f lv hj hf hk h1 h2 L l5 l6
    obtain ⟨g, rfl⟩ : ∃ g, f = g + 3 := ⟨f - 3, by omega⟩
    have s90 : ∀ a f', a < 2 → g ≤ f' → (¬ b < 0 → k + a = gc S A e b (j + 1)) → (b < 0 → k + a = 0) → wpn (kX8_give Q) (f' + 1) 90 lv [.int (nI a), .int (nI k)] S 0 0 := fun a f' ha hf' a1 a2 => by
      refine u_X8_give_90 ?_
      unfold bX8_give_90
      exact e_add (e_stI (e_inc (lvg_ne l6 rfl (by decide)) (ih (j + 1) (k + a) f' _ (by omega) (by omega) (by omega) a1 a2 (LG_s (LG_s L (by decide)) (by decide)) (lvg_ne lvg_self rfl (by decide)) lvg_self)))
    have s89 : (¬ b < 0 → gv S A e b j = false) → wpn (kX8_give Q) (g + 2) 89 lv [.int (nI k)] S 0 0 := fun hg => by
      refine u_X8_give_89 ?_
      unfold bX8_give_89
      refine e_cN 0 rfl (s90 0 g (by decide) (Nat.le_refl _) (fun hb => ?_) (fun hb => by rw [h2 hb]))
      rw [gc_s, hg hb, ← h1 hb]
      rfl
    refine u_X8_give_45 ?_
    unfold bX8_give_45
    refine e_ldI l6 (e_cN 8 rfl (e_ldI L.2.1 (e_mul (e_cN 8 rfl (e_add (e_ge (by omega) (by omega) (fun h => absurd h (by omega)) (fun _ => e_ldI l5 (e_ldI L.2.2.1 ⟨fun hb => s89 (fun z => absurd hb z), fun hb => ?_⟩))))))))
    refine e_ldA L.1 (e_gR hM.1 (hM.2.1 12 (by decide)).1 (e_ldI l6 (e_aI (N := 16) (kdA hM (by decide) rfl) (lnA hM (by decide) rfl) (by omega) (by decide) (fun v12 h12 => e_ldI L.2.2.1 ⟨fun hq => ?_, fun hq => s89 (fun _ => by unfold gv; rw [h12]; simp [show ¬ v12 = b from hq])⟩))))
    refine e_ldA L.1 (e_gR hM.1 (hM.2.1 9 (by decide)).1 (e_ldI l6 (e_aI (N := 16) (kdA hM (by decide) rfl) (lnA hM (by decide) rfl) (by omega) (by decide) (fun v9 h9 => e_cI ⟨fun h4 => e_cN 1 rfl (s90 1 (g + 1) (by decide) (by omega) (fun _ => ?_) (fun z => absurd z hb)), fun h4 => s89 (fun _ => by unfold gv; rw [h9]; simp [show ¬ v9 = 4 from h4])⟩))))
    have : gv S A e b j = true := by unfold gv; rw [h12, h9]; simp [show v12 = b from hq, show v9 = 4 from h4]
    rw [gc_s, this, ← h1 hb]
    rfl
theorem q_gv118 {Q : Option Value → MM → Prop} {S : MM} {m e cv f0 w0 : Nat} {A : Nat → Nat} {b u : Int32} (hM : MS S m A) (he : e < 2) (hw0 : w0 < gc S A e b 8) (hw1 : w0 < 1000) (K : ∀ f lv j, f0 ≤ f → j < 8 → sI S (A 9) (8 * e + j) = 4 → LG lv m e b cv u → lvg lv 7 = some (.int (nI (8 * e + j))) → wpn (kX8_give Q) f 183 lv [] S 0 0) : ∀ (r j w f : Nat) (lv : Lv), j + r = 8 → f0 + 4 * r + 1 ≤ f → gc S A e b j + w = w0 → LG lv m e b cv u → lvg lv 6 = some (.int (nI w)) → lvg lv 7 = some (.int (nI (8 * e + j))) → wpn (kX8_give Q) f 118 lv [] S 0 0 := by
  intro r
  induction r with
  | zero =>
    intro j w f lv hj hf hw L l6 l7
    have ej : j = 8 := by omega
    subst ej
    exact absurd hw0 (by omega)
  | succ r ih =>
    intro j w f lv hj hf hw L l6 l7
    obtain ⟨g, rfl⟩ : ∃ g, f = g + 4 := ⟨f - 4, by omega⟩
    have s174 : ∀ a f', a ≤ w → g ≤ f' → gc S A e b (j + 1) = gc S A e b j + a → wpn (kX8_give Q) (f' + 1) 174 lv [.int (nI a), .int (nI w)] S 0 0 := fun a f' ha hf' ea => by
      refine u_X8_give_174 ?_
      unfold bX8_give_174
      exact e_sub ha (e_stI (e_inc (lvg_ne l7 rfl (by decide)) (ih (j + 1) (w - a) f' _ (by omega) (by omega) (by omega) (LG_s (LG_s L (by decide)) (by decide)) (lvg_ne lvg_self rfl (by decide)) lvg_self)))
    have s173 : gv S A e b j = false → wpn (kX8_give Q) (g + 2) 173 lv [.int (nI w)] S 0 0 := fun hg => by
      refine u_X8_give_173 ?_
      unfold bX8_give_173
      refine e_cN 0 rfl (s174 0 g (by omega) (Nat.le_refl _) ?_)
      rw [gc_s, hg]
      rfl
    have s145 : (gv S A e b j = true → 0 < w) → wpn (kX8_give Q) (g + 3) 145 lv [] S 0 0 := fun hg => by
      refine u_X8_give_145 ?_
      unfold bX8_give_145
      refine e_ldI l6 (e_ldA L.1 (e_gR hM.1 (hM.2.1 12 (by decide)).1 (e_ldI l7 (e_aI (N := 16) (kdA hM (by decide) rfl) (lnA hM (by decide) rfl) (by omega) (by decide) (fun v12 h12 => e_ldI L.2.2.1 ⟨fun hq => ?_, fun hq => s173 (by unfold gv; rw [h12]; simp [show ¬ v12 = b from hq])⟩)))))
      refine e_ldA L.1 (e_gR hM.1 (hM.2.1 9 (by decide)).1 (e_ldI l7 (e_aI (N := 16) (kdA hM (by decide) rfl) (lnA hM (by decide) rfl) (by omega) (by decide) (fun v9 h9 => e_cI ⟨fun h4 => ?_, fun h4 => s173 (by unfold gv; rw [h9]; simp [show ¬ v9 = 4 from h4])⟩))))
      have tr : gv S A e b j = true := by unfold gv; rw [h12, h9]; simp [show v12 = b from hq, show v9 = 4 from h4]
      exact e_cN 1 rfl (s174 1 (g + 1) (hg tr) (by omega) (by rw [gc_s, tr]; rfl))
    refine u_X8_give_118 ?_
    unfold bX8_give_118
    refine e_ldA L.1 (e_gR hM.1 (hM.2.1 12 (by decide)).1 (e_ldI l7 (e_aI (N := 16) (kdA hM (by decide) rfl) (lnA hM (by decide) rfl) (by omega) (by decide) (fun v12 h12 => e_ldI L.2.2.1 ⟨fun hq => ?_, fun hq => s145 (fun z => absurd z (by unfold gv; rw [h12]; simp [show ¬ v12 = b from hq]))⟩))))
    refine e_ldA L.1 (e_gR hM.1 (hM.2.1 9 (by decide)).1 (e_ldI l7 (e_aI (N := 16) (kdA hM (by decide) rfl) (lnA hM (by decide) rfl) (by omega) (by decide) (fun v9 h9 => e_cI ⟨fun h4 => ?_, fun h4 => s145 (fun z => absurd z (by unfold gv; rw [h9]; simp [show ¬ v9 = 4 from h4]))⟩))))
    exact e_ldI l6 (e_lez (by omega) (fun _ => K (g + 3) lv j (by omega) (by omega) (h9.trans h4) L l7) (fun hz => s145 (fun _ => by omega)))
theorem gc_le {S : MM} {A : Nat → Nat} {e : Nat} {b : Int32} : ∀ j, gc S A e b j ≤ j
  | 0 => Nat.le_refl _
  | j + 1 => by
    have := gc_le (S := S) (A := A) (e := e) (b := b) j
    rw [gc_s]
    split <;> omega
def WG : List Nat := [0, 27, 28, 29, 30, 32, 33, 34, 35, 36, 37, 38, 39, 48]
theorem z_v_give {Q : Option Value → MM → Prop} {S0 : MM} {m nt F : Nat} {A : Nat → Nat} {v b w u : Int32} (hM : MS S0 m A) (hI : IV S0 m A nt) (hnt : nt < 4000) (e39 : sI S0 m 39 = nI F) (hF : F < 4200) (K0 : ∀ r S', SM WG m A S0 S' → IV S' m A nt → TL S' A nt = TL S0 A nt → sI S' m 39 = nI F → Q (some (.int r)) S') (K1 : ∀ r S' c e d, c < 8 → e < 2 → 1 ≤ d → d ≤ 8 → SM WG m A S0 S' → IV S' m A (nt + 1) → sI S' m 39 = nI (F + 1) → TL S' A (nt + 1) = TL S0 A nt ++ [(nI c, nI e, sI S0 m 43 + nI d, nI F)] → Q (some (.int r)) S') : wX8_give [.ref m, .int v, .int b, .int w, .int u] S0 Q := by
  have bad : ∀ f, wpn (kX8_give Q) (f + 2) 19 (lv_args 0 [.ref m, .int v, .int b, .int w, .int u]) [.ref m] S0 0 0 := fun f => by
    refine u_X8_give_19 ?_
    unfold bX8_give_19
    refine e_cI (u_X8_give_24 ?_)
    unfold bX8_give_24
    refine y_mI (W := [0]) hM SM.rf hI.1 (by decide) (fun N e => nomatch (show (none : Option Nat) = some N from e)) (fun S1 he sh im1 => ?_)
    obtain ⟨iv, tl⟩ := IV_SM hI hM sh im1 (by decide)
    exact e_ldA rfl (e_gV (v := 1) (SM_k sh hM.1) (by rw [he]; exact rd_s) ⟨fun z => absurd z (by decide), fun _ => e_cI (e_rI (K0 _ S1 (SM.tr SM.rf sh (by decide)) iv tl ((sh.2.2.2.2.2 39 (by decide)).trans e39)))⟩)
  refine Exists.intro 200 (u_X8_give_0 ?_)
  unfold bX8_give_0
  refine e_ldA rfl (e_ldI rfl (And.intro ⟨by decide, by decide⟩ (z_MisEnd' (fun h => e_ifN (by decide) (fun _ => bad 197) (fun q => absurd rfl q)) (fun e he ee => e_ifN (by decide) (fun q => absurd q (by decide)) (fun _ => ?_)))))
  refine e_ldI rfl ⟨fun _ => bad 197, fun w0 => e_ldI rfl (e_cI ⟨fun w1 => ?_, fun _ => bad 197⟩)⟩
  obtain ⟨cv, hcv, ecv⟩ := nn_nat w0
  subst ee ecv
  have hcv2 : cv < 256 := by
    have q := Int32.le_iff_toInt_le.mp (show nI cv ≤ 255 from w1)
    rw [nI_toInt (by omega), show (255 : Int32).toInt = 255 from by decide] at q
    omega
  refine u_X8_give_23 ?_
  unfold bX8_give_23
  refine e_cI (u_X8_give_24 ?_)
  unfold bX8_give_24
  refine y_mI (W := [0]) hM SM.rf hI.1 (by decide) (fun N e => nomatch (show (none : Option Nat) = some N from e)) (fun S1 he1 sh im1 => ?_)
  have hM1 := MS_SM hM sh
  obtain ⟨iv, tl⟩ := IV_SM hI hM sh im1 (by decide)
  obtain ⟨j1, j2, j3, j4, j5⟩ := id iv
  have f39 : sI S1 m 39 = nI F := (sh.2.2.2.2.2 39 (by decide)).trans e39
  have KK : ∀ r S', SM [33, 34, 35, 36, 37, 38, 48] m A S1 S' → IM S' m A → Q (some (.int r)) S' := fun r S' s i => by
    obtain ⟨iv2, tl2⟩ := IV_SM iv hM1 s i (by decide)
    exact K0 r S' (SM.tr (SM.tr SM.rf sh (by decide)) s (by decide)) iv2 (tl2.trans tl) ((s.2.2.2.2.2 39 (by decide)).trans f39)
  refine e_ldA rfl (e_gV (v := 0) (SM_k sh hM.1) (by rw [he1]; exact rd_s) ⟨fun _ => u_X8_give_36 ?_, fun z => absurd (by decide) z⟩)
  unfold bX8_give_36
  have L0 : LG (lv_args 0 [.ref m, .int (nI e), .int b, .int (nI cv), .int u]) m e b cv u := ⟨rfl, rfl, rfl, rfl, rfl⟩
  refine e_cN 0 rfl (e_stI (e_cN 8 rfl (e_ldI (lvg_ne L0.2.1 rfl (by decide)) (e_mul (e_stI (q_gv45 (S := S1) (f0 := 100) hM1 he (fun f lv k hf hk h1 h2 L l5 => ?_) 8 0 0 196 _ rfl (by decide) (by decide) (fun _ => rfl) (fun _ => rfl) (LG_s (LG_s L0 (by decide)) (by decide)) (lvg_ne lvg_self rfl (by decide)) lvg_self))))))
  obtain ⟨g, rfl⟩ : ∃ g, f = g + 2 := ⟨f - 2, by omega⟩
  refine u_X8_give_99 ?_
  unfold bX8_give_99
  refine e_ldI l5 (e_ifN (by omega) (fun _ => e_cI (e_rI (KK _ S1 SM.rf im1))) (fun hk0 => u_X8_give_106 ?_))
  have nb : ¬ b < 0 := fun z => hk0 (h2 z)
  have ek := h1 nb
  unfold bX8_give_106
  refine e_ldI L.2.2.2.1 (e_ldI l5 (e_rem (by omega) (by omega) (by omega) (e_stI (e_cN 8 rfl (e_ldI (lvg_ne L.2.1 rfl (by decide)) (e_mul (e_stI (q_gv118 (S := S1) (f0 := 20) (w0 := cv % k) (u := u) (cv := cv) hM1 he (by rw [← ek]; exact Nat.mod_lt _ (by omega)) (by have := Nat.mod_lt cv (show 0 < k by omega); omega) (fun f2 lv2 j hf2 hj h4 L2 l7 => ?_) 8 0 (cv % k) g _ rfl (by omega) (by show 0 + cv % k = cv % k; omega) (LG_s (LG_s L (by decide)) (by decide)) (lvg_ne lvg_self rfl (by decide)) lvg_self))))))))
  obtain ⟨c, hc, h11, h25⟩ := RI_lit j2 (show 8 * e + j < 16 by omega) (Or.inr h4)
  obtain ⟨d, hd1, hd2, hd⟩ := j2.2.2.1 c hc (j2.1 c hc h25)
  refine q_give183 (x := 8 * e + j) (F := F) (nt := nt) hM1 im1 (by omega) hc he h11 f39 hF j3 hnt hcv2 KK (fun r S' s i v32 v39 t => ?_) (by omega) L2.1 L2.2.1 L2.2.2.1 L2.2.2.2.1 L2.2.2.2.2 l7
  have t' : TL S' A (nt + 1) = TL S0 A nt ++ [(nI c, nI e, sI S0 m 43 + nI d, nI F)] := by rw [t, hd, tl, sh.2.2.2.2.2 43 (by decide)]
  refine K1 r S' c e d hc he hd1 hd2 (SM.tr (SM.tr SM.rf sh (by decide)) s (by decide)) ⟨i, RV_SM j2 hM1 s (by decide), v32, by omega, fun q hq => ?_⟩ v39 t'
  rw [t'] at hq
  rw [SM_a s hM1 (k := 25) (by decide) (by decide)]
  rcases List.mem_append.mp hq with z | z
  · exact j5 q (by rw [tl]; exact z)
  · have ez := List.mem_singleton.mp z
    subst ez
    exact ⟨c, hc, rfl, h25⟩
