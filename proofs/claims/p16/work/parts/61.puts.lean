theorem u_X8_puts_0 {Q : Option Value → MM → Prop} {n : Nat} {lv : Lv} {st : List Value} {S : MM} {c z : Nat} (h : bX8_puts_0 Q (wpn (kX8_puts Q) n) lv st S c z) : wpn (kX8_puts Q) (n + 1) 0 lv st S c z := h
theorem u_X8_puts_26 {Q : Option Value → MM → Prop} {n : Nat} {lv : Lv} {st : List Value} {S : MM} {c z : Nat} (h : bX8_puts_26 Q (wpn (kX8_puts Q) n) lv st S c z) : wpn (kX8_puts Q) (n + 1) 26 lv st S c z := h
theorem u_X8_puts_27 {Q : Option Value → MM → Prop} {n : Nat} {lv : Lv} {st : List Value} {S : MM} {c z : Nat} (h : bX8_puts_27 Q (wpn (kX8_puts Q) n) lv st S c z) : wpn (kX8_puts Q) (n + 1) 27 lv st S c z := h
theorem u_X8_puts_51 {Q : Option Value → MM → Prop} {n : Nat} {lv : Lv} {st : List Value} {S : MM} {c z : Nat} (h : bX8_puts_51 Q (wpn (kX8_puts Q) n) lv st S c z) : wpn (kX8_puts Q) (n + 1) 51 lv st S c z := h
theorem u_X8_puts_52 {Q : Option Value → MM → Prop} {n : Nat} {lv : Lv} {st : List Value} {S : MM} {c z : Nat} (h : bX8_puts_52 Q (wpn (kX8_puts Q) n) lv st S c z) : wpn (kX8_puts Q) (n + 1) 52 lv st S c z := h
theorem u_X8_puts_86 {Q : Option Value → MM → Prop} {n : Nat} {lv : Lv} {st : List Value} {S : MM} {c z : Nat} (h : bX8_puts_86 Q (wpn (kX8_puts Q) n) lv st S c z) : wpn (kX8_puts Q) (n + 1) 86 lv st S c z := h
theorem u_X8_puts_115 {Q : Option Value → MM → Prop} {n : Nat} {lv : Lv} {st : List Value} {S : MM} {c z : Nat} (h : bX8_puts_115 Q (wpn (kX8_puts Q) n) lv st S c z) : wpn (kX8_puts Q) (n + 1) 115 lv st S c z := h
theorem u_X8_puts_142 {Q : Option Value → MM → Prop} {n : Nat} {lv : Lv} {st : List Value} {S : MM} {c z : Nat} (h : bX8_puts_142 Q (wpn (kX8_puts Q) n) lv st S c z) : wpn (kX8_puts Q) (n + 1) 142 lv st S c z := h
theorem u_X8_puts_190 {Q : Option Value → MM → Prop} {n : Nat} {lv : Lv} {st : List Value} {S : MM} {c z : Nat} (h : bX8_puts_190 Q (wpn (kX8_puts Q) n) lv st S c z) : wpn (kX8_puts Q) (n + 1) 190 lv st S c z := h
theorem u_X8_puts_193 {Q : Option Value → MM → Prop} {n : Nat} {lv : Lv} {st : List Value} {S : MM} {c z : Nat} (h : bX8_puts_193 Q (wpn (kX8_puts Q) n) lv st S c z) : wpn (kX8_puts Q) (n + 1) 193 lv st S c z := h
theorem u_X8_puts_255 {Q : Option Value → MM → Prop} {n : Nat} {lv : Lv} {st : List Value} {S : MM} {c z : Nat} (h : bX8_puts_255 Q (wpn (kX8_puts Q) n) lv st S c z) : wpn (kX8_puts Q) (n + 1) 255 lv st S c z := h
def P_f_puts_0 (Q : Option Value → MM → Prop) (S0 : MM) (m : Nat) (A : Nat → Nat) (x c nt : Nat) (n : Nat) : Prop := ∀ (lv : Lv) (S : MM) , lvg lv 0 = some (.ref m) → lvg lv 1 = some (.int (nI x)) → SM [14, 16, 20, 21, 26, 31, 50] m A S0 S → IM S m A → 2511 ≤ n → wpn (kX8_puts Q) n 0 lv [] S 0 0
def P_f_puts_27 (Q : Option Value → MM → Prop) (S0 : MM) (m : Nat) (A : Nat → Nat) (x c nt : Nat) (n : Nat) : Prop := ∀ (lv : Lv) (S : MM) , lvg lv 0 = some (.ref m) → lvg lv 1 = some (.int (nI x)) → SM [14, 16, 20, 21, 26, 31, 50] m A S0 S → IM S m A → 2480 ≤ n → wpn (kX8_puts Q) n 27 lv [] S 0 0
def P_f_puts_52 (Q : Option Value → MM → Prop) (S0 : MM) (m : Nat) (A : Nat → Nat) (x c nt : Nat) (n : Nat) : Prop := ∀ (lv : Lv) (S : MM) (is0 : Nat), lvg lv 0 = some (.ref m) → lvg lv 1 = some (.int (nI x)) → is0 < 31 → SM [14, 16, 20, 21, 26, 31, 50] m A S0 S → IM S m A → 2449 ≤ n → wpn (kX8_puts Q) n 52 lv [.int (nI is0)] S 0 0
def P_f_puts_86 (Q : Option Value → MM → Prop) (S0 : MM) (m : Nat) (A : Nat → Nat) (x c nt : Nat) (n : Nat) : Prop := ∀ (lv : Lv) (S : MM) (i2 : Nat), lvg lv 0 = some (.ref m) → lvg lv 1 = some (.int (nI x)) → lvg lv 2 = some (.int (nI i2)) → i2 < 31 → SM [14, 16, 20, 21, 26, 31, 50] m A S0 S → IM S m A → 2418 ≤ n → wpn (kX8_puts Q) n 86 lv [] S 0 0
def P_f_puts_115 (Q : Option Value → MM → Prop) (S0 : MM) (m : Nat) (A : Nat → Nat) (x c nt : Nat) (n : Nat) : Prop := ∀ (lv : Lv) (S : MM) (i2 : Nat) (i3 : Nat), lvg lv 0 = some (.ref m) → lvg lv 1 = some (.int (nI x)) → lvg lv 2 = some (.int (nI i2)) → i2 < 31 → lvg lv 3 = some (.int (nI i3)) → i3 < 6 → SM [14, 16, 20, 21, 26, 31, 50] m A S0 S → IM S m A → 372 + 403 * (5 - i3) ≤ n → wpn (kX8_puts Q) n 115 lv [] S 0 0
def P_f_puts_193 (Q : Option Value → MM → Prop) (S0 : MM) (m : Nat) (A : Nat → Nat) (x c nt : Nat) (n : Nat) : Prop := ∀ (lv : Lv) (S : MM) (i2 : Nat) (i5 : Nat), lvg lv 0 = some (.ref m) → lvg lv 1 = some (.int (nI x)) → lvg lv 2 = some (.int (nI i2)) → i2 < 31 → lvg lv 3 = some (.int (nI (x / 8))) → lvg lv 4 = some (.int (nI c)) → lvg lv 5 = some (.int (nI i5)) → i5 < 6 → SM [14, 16, 20, 21, 26, 31, 50] m A S0 S → IM S m A → 31 + 62 * (5 - i5) ≤ n → wpn (kX8_puts Q) n 193 lv [] S 0 0
theorem B_f_puts_0 {Q : Option Value → MM → Prop} {S0 : MM} {m : Nat} {A : Nat → Nat} {x c nt : Nat} {n : Nat} (hM : MS S0 m A) (hc : c < 8) (h11 : sI S0 (A 11) x = nI c) (e32 : sI S0 m 32 = nI nt) (hnt : nt < 4000) (h1 : x < 16) (K0 : ∀ S', SM [14, 16, 20, 21, 26, 31, 50] m A S0 S' → IM S' m A → Q none S') (K1 : ∀ S', SM [14, 16, 20, 21, 26, 27, 28, 29, 30, 31, 32, 50] m A S0 S' → IM S' m A → sI S' m 32 = nI (nt + 1) → TL S' A (nt + 1) = TL S0 A nt ++ [(nI c, nI (x / 8), sI S0 m 43 + sI S0 (A 23) c, -1)] → Q none S') (t_27 : ∀ k, k ≤ n → P_f_puts_27 Q S0 m A x c nt k) : P_f_puts_0 Q S0 m A x c nt (n + 1) := by
  intro lv S  g0 g1 sh im hF
  refine u_X8_puts_0 ?_
  unfold bX8_puts_0
  refine e_ldA g0 ?_
  refine e_ldI g1 ?_
  refine And.intro (SM_k sh hM.1) (And.intro ⟨by decide, by decide⟩ (z_X8_isLit (MS_SM hM sh) im (show x < 16 by omega) (fun n5 S1 s2 ir3 hn6 => ?_)))
  have sh4 := SM.tr sh s2 (by decide)
  refine e_ifN (by omega) (fun h7 => ?_) (fun h7 => ?_)
  · obtain ⟨q8, rfl⟩ : ∃ q, n = q + 1 := ⟨n - 1, by omega⟩
    refine u_X8_puts_26 ?_
    unfold bX8_puts_26
    exact e_rV (K0 _ sh4 ir3)
  · refine e_ldA g0 ?_
    refine e_gR (SM_k sh4 hM.1) (SM_r sh4 (hM.2.1 5 (by decide)).1) ?_
    refine e_ldI g1 ?_
    refine e_aI (N := 16) (SM_k sh4 (hM.2.1 5 (by decide)).2.1) (SM_n sh4 (hM.2.1 5 (by decide)).2.2.1) (by omega) (by decide) (fun v9 hv10 => ?_)
    refine e_if0 (fun h11 => ?_) (fun h11 => ?_)
    · refine e_ldA g0 ?_
      refine e_ldI g1 ?_
      refine e_cN 1 rfl ?_
      refine And.intro (SM_k sh4 hM.1) (And.intro ⟨by decide, by decide⟩ (z_X8_isPartner (MS_SM hM sh4) ir3 (show x < 16 by omega) (fun n16 S12 s13 ir14 hn17 => ?_)))
      have sh15 := SM.tr sh4 s13 (by decide)
      refine e_ifN (by omega) (fun h18 => ?_) (fun h18 => ?_)
      · obtain ⟨q19, rfl⟩ : ∃ q, n = q + 1 := ⟨n - 1, by omega⟩
        refine u_X8_puts_26 ?_
        unfold bX8_puts_26
        exact e_rV (K0 _ sh15 ir14)
      · exact t_27 n (by omega) _ _  g0 g1 sh15 ir14 (by omega)
    · exact t_27 n (by omega) _ _  g0 g1 sh4 ir3 (by omega)
theorem B_f_puts_27 {Q : Option Value → MM → Prop} {S0 : MM} {m : Nat} {A : Nat → Nat} {x c nt : Nat} {n : Nat} (hM : MS S0 m A) (hc : c < 8) (h11 : sI S0 (A 11) x = nI c) (e32 : sI S0 m 32 = nI nt) (hnt : nt < 4000) (h1 : x < 16) (K0 : ∀ S', SM [14, 16, 20, 21, 26, 31, 50] m A S0 S' → IM S' m A → Q none S') (K1 : ∀ S', SM [14, 16, 20, 21, 26, 27, 28, 29, 30, 31, 32, 50] m A S0 S' → IM S' m A → sI S' m 32 = nI (nt + 1) → TL S' A (nt + 1) = TL S0 A nt ++ [(nI c, nI (x / 8), sI S0 m 43 + sI S0 (A 23) c, -1)] → Q none S') (t_52 : ∀ k, k ≤ n → P_f_puts_52 Q S0 m A x c nt k) : P_f_puts_27 Q S0 m A x c nt (n + 1) := by
  intro lv S  g0 g1 sh im hF
  refine u_X8_puts_27 ?_
  unfold bX8_puts_27
  refine e_ldA g0 ?_
  refine e_gR (SM_k sh hM.1) (SM_r sh (hM.2.1 7 (by decide)).1) ?_
  refine e_ldI g1 ?_
  refine e_aI (N := 16) (SM_k sh (hM.2.1 7 (by decide)).2.1) (SM_n sh (hM.2.1 7 (by decide)).2.2.1) (by omega) (by decide) (fun v1 hv2 => ?_)
  refine e_cN 2 rfl ?_
  refine e_ifc ?_ ?_
  · refine e_ldA g0 ?_
    refine e_ldI g1 ?_
    refine e_cN 2 rfl ?_
    refine And.intro (SM_k sh hM.1) (And.intro ⟨by decide, by decide⟩ (z_X8_isPartner (MS_SM hM sh) im (show x < 16 by omega) (fun n7 S3 s4 ir5 hn8 => ?_)))
    have sh6 := SM.tr sh s4 (by decide)
    refine e_ifN (by omega) (fun h9 => ?_) (fun h9 => ?_)
    · refine e_cN 30 rfl ?_
      exact t_52 n (by omega) _ _ 30 g0 g1 (by omega) sh6 ir5 (by omega)
    · obtain ⟨q10, rfl⟩ : ∃ q, n = q + 1 := ⟨n - 1, by omega⟩
      refine u_X8_puts_51 ?_
      unfold bX8_puts_51
      refine e_cN 1 rfl ?_
      exact t_52 q10 (by omega) _ _ 1 g0 g1 (by omega) sh6 ir5 (by omega)
  · obtain ⟨q11, rfl⟩ : ∃ q, n = q + 1 := ⟨n - 1, by omega⟩
    refine u_X8_puts_51 ?_
    unfold bX8_puts_51
    refine e_cN 1 rfl ?_
    exact t_52 q11 (by omega) _ _ 1 g0 g1 (by omega) sh im (by omega)
theorem B_f_puts_52 {Q : Option Value → MM → Prop} {S0 : MM} {m : Nat} {A : Nat → Nat} {x c nt : Nat} {n : Nat} (hM : MS S0 m A) (hc : c < 8) (h11 : sI S0 (A 11) x = nI c) (e32 : sI S0 m 32 = nI nt) (hnt : nt < 4000) (h1 : x < 16) (K0 : ∀ S', SM [14, 16, 20, 21, 26, 31, 50] m A S0 S' → IM S' m A → Q none S') (K1 : ∀ S', SM [14, 16, 20, 21, 26, 27, 28, 29, 30, 31, 32, 50] m A S0 S' → IM S' m A → sI S' m 32 = nI (nt + 1) → TL S' A (nt + 1) = TL S0 A nt ++ [(nI c, nI (x / 8), sI S0 m 43 + sI S0 (A 23) c, -1)] → Q none S') (t_86 : ∀ k, k ≤ n → P_f_puts_86 Q S0 m A x c nt k) : P_f_puts_52 Q S0 m A x c nt (n + 1) := by
  intro lv S is0 g0 g1 hs0 sh im hF
  refine u_X8_puts_52 ?_
  unfold bX8_puts_52
  refine e_stI ?_
  refine e_ldA (lvg_ne g0 rfl (by decide)) ?_
  refine e_ldI (lvg_ne g1 rfl (by decide)) ?_
  refine And.intro (SM_k sh hM.1) (And.intro ⟨by decide, by decide⟩ (z_X8_isTold (MS_SM hM sh) im (show x < 16 by omega) (fun n5 S1 s2 ir3 hn6 => ?_)))
  have sh4 := SM.tr sh s2 (by decide)
  refine e_ifN (by omega) (fun h7 => ?_) (fun h7 => ?_)
  · exact t_86 n (by omega) _ _ is0 (lvg_ne g0 rfl (by decide)) (lvg_ne g1 rfl (by decide)) lvg_self (by omega) sh4 ir3 (by omega)
  · refine e_ldA (lvg_ne g0 rfl (by decide)) ?_
    refine e_gR (SM_k sh4 hM.1) (SM_r sh4 (hM.2.1 14 (by decide)).1) ?_
    refine e_ldI (lvg_ne g1 rfl (by decide)) ?_
    refine e_aI (N := 16) (SM_k sh4 (hM.2.1 14 (by decide)).2.1) (SM_n sh4 (hM.2.1 14 (by decide)).2.2.1) (by omega) (by decide) (fun v8 hv9 => ?_)
    refine e_if0 (fun h10 => ?_) (fun h10 => ?_)
    · refine e_ldA (lvg_ne g0 rfl (by decide)) ?_
      refine e_gI (SM_k sh4 hM.1) (fun v11 hv12 => ?_)
      refine e_ldA (lvg_ne g0 rfl (by decide)) ?_
      refine e_gR (SM_k sh4 hM.1) (SM_r sh4 (hM.2.1 21 (by decide)).1) ?_
      refine e_ldI (lvg_ne g1 rfl (by decide)) ?_
      refine e_aI (N := 16) (SM_k sh4 (hM.2.1 21 (by decide)).2.1) (SM_n sh4 (hM.2.1 21 (by decide)).2.2.1) (by omega) (by decide) (fun v13 hv14 => ?_)
      refine e_bopU (fun r15 => ?_)
      refine e_ldI lvg_self ?_
      refine e_ifc ?_ ?_
      · exact t_86 n (by omega) _ _ is0 (lvg_ne g0 rfl (by decide)) (lvg_ne g1 rfl (by decide)) lvg_self (by omega) sh4 ir3 (by omega)
      · exact e_rV (K0 _ sh4 ir3)
    · exact t_86 n (by omega) _ _ is0 (lvg_ne g0 rfl (by decide)) (lvg_ne g1 rfl (by decide)) lvg_self (by omega) sh4 ir3 (by omega)
theorem B_f_puts_86 {Q : Option Value → MM → Prop} {S0 : MM} {m : Nat} {A : Nat → Nat} {x c nt : Nat} {n : Nat} (hM : MS S0 m A) (hc : c < 8) (h11 : sI S0 (A 11) x = nI c) (e32 : sI S0 m 32 = nI nt) (hnt : nt < 4000) (h1 : x < 16) (K0 : ∀ S', SM [14, 16, 20, 21, 26, 31, 50] m A S0 S' → IM S' m A → Q none S') (K1 : ∀ S', SM [14, 16, 20, 21, 26, 27, 28, 29, 30, 31, 32, 50] m A S0 S' → IM S' m A → sI S' m 32 = nI (nt + 1) → TL S' A (nt + 1) = TL S0 A nt ++ [(nI c, nI (x / 8), sI S0 m 43 + sI S0 (A 23) c, -1)] → Q none S') (t_115 : ∀ k, k ≤ n → P_f_puts_115 Q S0 m A x c nt k) : P_f_puts_86 Q S0 m A x c nt (n + 1) := by
  intro lv S i2 g0 g1 g2 h2 sh im hF
  refine u_X8_puts_86 ?_
  unfold bX8_puts_86
  refine e_ldA g0 ?_
  refine e_gR (SM_k sh hM.1) (SM_r sh (hM.2.1 14 (by decide)).1) ?_
  refine e_ldI g1 ?_
  refine e_cN 0 rfl ?_
  refine y_mB (N := 16) hM sh im (by decide) rfl rfl (by omega) (by decide) (by omega) (by decide) (fun N e => nomatch (show (none : Option Nat) = some N from e)) (fun e => absurd e (by decide)) (fun S1 he2 sh3 ir4 => ?_)
  refine e_ldA g0 ?_
  refine e_gR (SM_k sh3 hM.1) (SM_r sh3 (hM.2.1 16 (by decide)).1) ?_
  refine e_ldI g1 ?_
  refine e_du2 ?_
  refine e_aI (N := 16) (SM_k sh3 (hM.2.1 16 (by decide)).2.1) (SM_n sh3 (hM.2.1 16 (by decide)).2.2.1) (by omega) (by decide) (fun v5 hv6 => ?_)
  refine e_cN 1 rfl ?_
  refine e_bopU (fun r7 => ?_)
  refine y_mA (N := 16) hM sh3 ir4 (by decide) rfl rfl (by omega) (by decide) (by decide) (fun N e => nomatch (show (none : Option Nat) = some N from e)) (fun e => absurd e (by decide)) (fun S8 he9 sh10 ir11 => ?_)
  refine e_ldA g0 ?_
  refine e_gR (SM_k sh10 hM.1) (SM_r sh10 (hM.2.1 21 (by decide)).1) ?_
  refine e_ldI g1 ?_
  refine e_ldA g0 ?_
  refine e_gI (SM_k sh10 hM.1) (fun v12 hv13 => ?_)
  refine y_mA (N := 16) hM sh10 ir11 (by decide) rfl rfl (by omega) (by decide) (by decide) (fun N e => nomatch (show (none : Option Nat) = some N from e)) (fun e => absurd e (by decide)) (fun S14 he15 sh16 ir17 => ?_)
  refine e_cN 0 rfl ?_
  refine e_stI ?_
  exact t_115 n (by omega) _ _ i2 0 (lvg_ne g0 rfl (by decide)) (lvg_ne g1 rfl (by decide)) (lvg_ne g2 rfl (by decide)) (by omega) lvg_self (by omega) sh16 ir17 (by omega)
theorem B_f_puts_115 {Q : Option Value → MM → Prop} {S0 : MM} {m : Nat} {A : Nat → Nat} {x c nt : Nat} {n : Nat} (hM : MS S0 m A) (hc : c < 8) (h11 : sI S0 (A 11) x = nI c) (e32 : sI S0 m 32 = nI nt) (hnt : nt < 4000) (h1 : x < 16) (K0 : ∀ S', SM [14, 16, 20, 21, 26, 31, 50] m A S0 S' → IM S' m A → Q none S') (K1 : ∀ S', SM [14, 16, 20, 21, 26, 27, 28, 29, 30, 31, 32, 50] m A S0 S' → IM S' m A → sI S' m 32 = nI (nt + 1) → TL S' A (nt + 1) = TL S0 A nt ++ [(nI c, nI (x / 8), sI S0 m 43 + sI S0 (A 23) c, -1)] → Q none S') (t_115 : ∀ k, k ≤ n → P_f_puts_115 Q S0 m A x c nt k) (t_193 : ∀ k, k ≤ n → P_f_puts_193 Q S0 m A x c nt k) : P_f_puts_115 Q S0 m A x c nt (n + 1) := by
  intro lv S i2 i3 g0 g1 g2 h2 g3 h3 sh im hF
  refine u_X8_puts_115 ?_
  unfold bX8_puts_115
  refine e_ldI g3 ?_
  refine e_cN 5 rfl ?_
  refine e_ge (by omega) (by omega) (fun h1 => ?_) (fun h1 => ?_)
  · obtain ⟨q2, rfl⟩ : ∃ q, n = q + 1 := ⟨n - 1, by omega⟩
    refine u_X8_puts_142 ?_
    unfold bX8_puts_142
    refine e_ldI g1 ?_
    refine e_cN 8 rfl ?_
    refine e_div (by omega) (by decide) (by decide) ?_
    refine e_stI ?_
    refine e_ldA (lvg_ne g0 rfl (by decide)) ?_
    refine e_gR (SM_k sh hM.1) (SM_r sh (hM.2.1 11 (by decide)).1) ?_
    refine e_ldI (lvg_ne g1 rfl (by decide)) ?_
    refine e_aV (N := 16) (v := nI c) (SM_k sh (hM.2.1 11 (by decide)).2.1) (SM_n sh (hM.2.1 11 (by decide)).2.2.1) (by omega) (by decide) (by rw [SM_a sh hM (by decide) (by decide)]; exact h11) ?_
    refine e_stI ?_
    refine e_ldA (lvg_ne (lvg_ne g0 rfl (by decide)) rfl (by decide)) ?_
    refine e_gR (SM_k sh hM.1) (SM_r sh (hM.2.1 26 (by decide)).1) ?_
    refine e_cN 2 rfl ?_
    refine e_ldI lvg_self ?_
    refine e_mul ?_
    refine e_ldI (lvg_ne lvg_self rfl (by decide)) ?_
    refine e_add ?_
    refine e_aI (N := 16) (SM_k sh (hM.2.1 26 (by decide)).2.1) (SM_n sh (hM.2.1 26 (by decide)).2.2.1) (by omega) (by decide) (fun v3 hv4 => ?_)
    refine e_ifz ?_ ?_
    · obtain ⟨q5, rfl⟩ : ∃ q, q2 = q + 1 := ⟨q2 - 1, by omega⟩
      refine u_X8_puts_190 ?_
      unfold bX8_puts_190
      refine e_cN 0 rfl ?_
      refine e_stI ?_
      exact t_193 q5 (by omega) _ _ i2 0 (lvg_ne (lvg_ne (lvg_ne g0 rfl (by decide)) rfl (by decide)) rfl (by decide)) (lvg_ne (lvg_ne (lvg_ne g1 rfl (by decide)) rfl (by decide)) rfl (by decide)) (lvg_ne (lvg_ne (lvg_ne g2 rfl (by decide)) rfl (by decide)) rfl (by decide)) (by omega) (lvg_ne (lvg_ne lvg_self rfl (by decide)) rfl (by decide)) (lvg_ne lvg_self rfl (by decide)) lvg_self (by omega) sh im (by omega)
    · refine e_ldA (lvg_ne (lvg_ne g0 rfl (by decide)) rfl (by decide)) ?_
      refine e_gR (SM_k sh hM.1) (SM_r sh (hM.2.1 26 (by decide)).1) ?_
      refine e_cN 2 rfl ?_
      refine e_ldI lvg_self ?_
      refine e_mul ?_
      refine e_ldI (lvg_ne lvg_self rfl (by decide)) ?_
      refine e_add ?_
      refine e_du2 ?_
      refine e_aI (N := 16) (SM_k sh (hM.2.1 26 (by decide)).2.1) (SM_n sh (hM.2.1 26 (by decide)).2.2.1) (by omega) (by decide) (fun v6 hv7 => ?_)
      refine e_cN 1 rfl ?_
      refine e_bopU (fun r8 => ?_)
      refine y_mA (N := 16) hM sh im (by decide) rfl rfl (by omega) (by decide) (by decide) (fun N e => nomatch (show (none : Option Nat) = some N from e)) (fun e => absurd e (by decide)) (fun S9 he10 sh11 ir12 => ?_)
      refine e_ldA (lvg_ne (lvg_ne g0 rfl (by decide)) rfl (by decide)) ?_
      refine e_cN 1 rfl ?_
      refine y_mZ hM sh11 ir12 (by decide) (by omega) (fun N e => nomatch (show (none : Option Nat) = some N from e)) (fun S13 he14 sh15 ir16 => ?_)
      exact e_rV (K0 _ sh15 ir16)
  · refine e_ldA g0 ?_
    refine e_gR (SM_k sh hM.1) (SM_r sh (hM.2.1 20 (by decide)).1) ?_
    refine e_cN 5 rfl ?_
    refine e_ldI g1 ?_
    refine e_mul ?_
    refine e_ldI g3 ?_
    refine e_add ?_
    refine e_ldA g0 ?_
    refine e_ldI g1 ?_
    refine e_ldI g3 ?_
    refine And.intro (SM_k sh hM.1) (And.intro ⟨by decide, by decide⟩ (z_X8_own (MS_SM hM sh) im (show x < 16 by omega) (fun r21 S17 s18 ir19 => ?_)))
    have sh20 := SM.tr sh s18 (by decide)
    refine y_mA (N := 80) hM sh20 ir19 (by decide) rfl rfl (by omega) (by decide) (by decide) (fun N e => nomatch (show (none : Option Nat) = some N from e)) (fun e => absurd e (by decide)) (fun S22 he23 sh24 ir25 => ?_)
    refine e_inc g3 ?_
    exact t_115 n (by omega) _ _ i2 (i3 + 1) (lvg_ne g0 rfl (by decide)) (lvg_ne g1 rfl (by decide)) (lvg_ne g2 rfl (by decide)) (by omega) lvg_self (by omega) sh24 ir25 (by omega)
theorem B_f_puts_193 {Q : Option Value → MM → Prop} {S0 : MM} {m : Nat} {A : Nat → Nat} {x c nt : Nat} {n : Nat} (hM : MS S0 m A) (hc : c < 8) (h11 : sI S0 (A 11) x = nI c) (e32 : sI S0 m 32 = nI nt) (hnt : nt < 4000) (h1 : x < 16) (K0 : ∀ S', SM [14, 16, 20, 21, 26, 31, 50] m A S0 S' → IM S' m A → Q none S') (K1 : ∀ S', SM [14, 16, 20, 21, 26, 27, 28, 29, 30, 31, 32, 50] m A S0 S' → IM S' m A → sI S' m 32 = nI (nt + 1) → TL S' A (nt + 1) = TL S0 A nt ++ [(nI c, nI (x / 8), sI S0 m 43 + sI S0 (A 23) c, -1)] → Q none S') (t_193 : ∀ k, k ≤ n → P_f_puts_193 Q S0 m A x c nt k) : P_f_puts_193 Q S0 m A x c nt (n + 1) := by
  intro lv S i2 i5 g0 g1 g2 h2 g3 g4 g5 h5 sh im hF
  refine u_X8_puts_193 ?_
  unfold bX8_puts_193
  refine e_ldI g5 ?_
  refine e_cN 5 rfl ?_
  refine e_ge (by omega) (by omega) (fun h1 => ?_) (fun h1 => ?_)
  · obtain ⟨q2, rfl⟩ : ∃ q, n = q + 1 := ⟨n - 1, by omega⟩
    refine u_X8_puts_255 ?_
    unfold bX8_puts_255
    refine e_ldA g0 ?_
    refine e_ldI g4 ?_
    refine e_ldI g3 ?_
    refine e_cI ?_
    refine And.intro (SM_k sh hM.1) (And.intro ⟨by decide, by decide⟩ (z_f_comesOn (MS_SM hM sh) im hc (show x / 8 < 2 by omega) (Or.inl rfl) hnt ((sh.2.2.2.2.2 32 (by decide)).trans e32) (fun S9 s9 im9 v9 t9 => ?_)))
    refine e_rV (K1 S9 (SM.tr (SM.tr SM.rf sh (by decide)) s9 (by decide)) im9 v9 (t9.trans ?_))
    rw [TL_c (fun j _ => th_SM sh hM (by decide) j), sh.2.2.2.2.2 43 (by decide), SM_a sh hM (k := 23) (by decide) (by decide)]
  · refine e_ldA g0 ?_
    refine e_gR (SM_k sh hM.1) (SM_r sh (hM.2.1 31 (by decide)).1) ?_
    refine e_cN 10 rfl ?_
    refine e_ldA g0 ?_
    refine e_gV (v := nI nt) (SM_k sh hM.1) ((sh.2.2.2.2.2 32 (by decide)).trans e32) ?_
    refine e_mul ?_
    refine e_ldI g5 ?_
    refine e_add ?_
    refine e_ldA g0 ?_
    refine e_ldI g1 ?_
    refine e_ldI g5 ?_
    refine And.intro (SM_k sh hM.1) (And.intro ⟨by decide, by decide⟩ (z_X8_own (MS_SM hM sh) im (show x < 16 by omega) (fun r7 S3 s4 ir5 => ?_)))
    have sh6 := SM.tr sh s4 (by decide)
    refine y_mA (N := 40000) hM sh6 ir5 (by decide) rfl rfl (by omega) (by decide) (by decide) (fun N e => nomatch (show (none : Option Nat) = some N from e)) (fun e => absurd e (by decide)) (fun S8 he9 sh10 ir11 => ?_)
    refine e_ldA g0 ?_
    refine e_gR (SM_k sh10 hM.1) (SM_r sh10 (hM.2.1 31 (by decide)).1) ?_
    refine e_cN 10 rfl ?_
    refine e_ldA g0 ?_
    refine e_gV (v := nI nt) (SM_k sh10 hM.1) ((sh10.2.2.2.2.2 32 (by decide)).trans e32) ?_
    refine e_mul ?_
    refine e_cN 5 rfl ?_
    refine e_add ?_
    refine e_ldI g5 ?_
    refine e_add ?_
    refine e_ldA g0 ?_
    refine e_gR (SM_k sh10 hM.1) (SM_r sh10 (hM.2.1 18 (by decide)).1) ?_
    refine e_cN 5 rfl ?_
    refine e_ldI g1 ?_
    refine e_mul ?_
    refine e_ldI g5 ?_
    refine e_add ?_
    refine e_aI (N := 80) (SM_k sh10 (hM.2.1 18 (by decide)).2.1) (SM_n sh10 (hM.2.1 18 (by decide)).2.2.1) (by omega) (by decide) (fun v12 hv13 => ?_)
    refine y_mA (N := 40000) hM sh10 ir11 (by decide) rfl rfl (by omega) (by decide) (by decide) (fun N e => nomatch (show (none : Option Nat) = some N from e)) (fun e => absurd e (by decide)) (fun S14 he15 sh16 ir17 => ?_)
    refine e_inc g5 ?_
    exact t_193 n (by omega) _ _ i2 (i5 + 1) (lvg_ne g0 rfl (by decide)) (lvg_ne g1 rfl (by decide)) (lvg_ne g2 rfl (by decide)) (by omega) (lvg_ne g3 rfl (by decide)) (lvg_ne g4 rfl (by decide)) lvg_self (by omega) sh16 ir17 (by omega)
theorem A_f_puts {Q : Option Value → MM → Prop} {S0 : MM} {m : Nat} {A : Nat → Nat} {x c nt : Nat} (hM : MS S0 m A) (hc : c < 8) (h11 : sI S0 (A 11) x = nI c) (e32 : sI S0 m 32 = nI nt) (hnt : nt < 4000) (h1 : x < 16) (K0 : ∀ S', SM [14, 16, 20, 21, 26, 31, 50] m A S0 S' → IM S' m A → Q none S') (K1 : ∀ S', SM [14, 16, 20, 21, 26, 27, 28, 29, 30, 31, 32, 50] m A S0 S' → IM S' m A → sI S' m 32 = nI (nt + 1) → TL S' A (nt + 1) = TL S0 A nt ++ [(nI c, nI (x / 8), sI S0 m 43 + sI S0 (A 23) c, -1)] → Q none S') : ∀ n k, k ≤ n → P_f_puts_0 Q S0 m A x c nt k ∧ P_f_puts_27 Q S0 m A x c nt k ∧ P_f_puts_52 Q S0 m A x c nt k ∧ P_f_puts_86 Q S0 m A x c nt k ∧ P_f_puts_115 Q S0 m A x c nt k ∧ P_f_puts_193 Q S0 m A x c nt k := by
  intro n
  induction n with
  | zero =>
    intro k hk
    have e : k = 0 := by omega
    subst e
    exact ⟨(fun lv S  _ _ _ _ hF => absurd hF (by omega)), (fun lv S  _ _ _ _ hF => absurd hF (by omega)), (fun lv S is0 _ _ _ _ _ hF => absurd hF (by omega)), (fun lv S i2 _ _ _ _ _ _ hF => absurd hF (by omega)), (fun lv S i2 i3 _ _ _ _ _ _ _ _ hF => absurd hF (by omega)), (fun lv S i2 i5 _ _ _ _ _ _ _ _ _ _ hF => absurd hF (by omega))⟩
  | succ n ih =>
    intro k hk
    by_cases hn : k ≤ n
    · exact ih k hn
    · have e : k = n + 1 := by omega
      subst e
      have T_0 : ∀ k, k ≤ n → P_f_puts_0 Q S0 m A x c nt k := fun k hk => (ih k hk).1
      have T_27 : ∀ k, k ≤ n → P_f_puts_27 Q S0 m A x c nt k := fun k hk => (ih k hk).2.1
      have T_52 : ∀ k, k ≤ n → P_f_puts_52 Q S0 m A x c nt k := fun k hk => (ih k hk).2.2.1
      have T_86 : ∀ k, k ≤ n → P_f_puts_86 Q S0 m A x c nt k := fun k hk => (ih k hk).2.2.2.1
      have T_115 : ∀ k, k ≤ n → P_f_puts_115 Q S0 m A x c nt k := fun k hk => (ih k hk).2.2.2.2.1
      have T_193 : ∀ k, k ≤ n → P_f_puts_193 Q S0 m A x c nt k := fun k hk => (ih k hk).2.2.2.2.2
      exact ⟨B_f_puts_0 hM hc h11 e32 hnt h1 K0 K1 T_27, B_f_puts_27 hM hc h11 e32 hnt h1 K0 K1 T_52, B_f_puts_52 hM hc h11 e32 hnt h1 K0 K1 T_86, B_f_puts_86 hM hc h11 e32 hnt h1 K0 K1 T_115, B_f_puts_115 hM hc h11 e32 hnt h1 K0 K1 T_115 T_193, B_f_puts_193 hM hc h11 e32 hnt h1 K0 K1 T_193⟩
theorem z_f_puts {Q : Option Value → MM → Prop} {S0 : MM} {m : Nat} {A : Nat → Nat} {x c nt : Nat}  (hM : MS S0 m A) (hc : c < 8) (h11 : sI S0 (A 11) x = nI c) (e32 : sI S0 m 32 = nI nt) (hnt : nt < 4000) (im : IM S0 m A) (h1 : x < 16) (K0 : ∀ S', SM [14, 16, 20, 21, 26, 31, 50] m A S0 S' → IM S' m A → Q none S') (K1 : ∀ S', SM [14, 16, 20, 21, 26, 27, 28, 29, 30, 31, 32, 50] m A S0 S' → IM S' m A → sI S' m 32 = nI (nt + 1) → TL S' A (nt + 1) = TL S0 A nt ++ [(nI c, nI (x / 8), sI S0 m 43 + sI S0 (A 23) c, -1)] → Q none S') : wX8_puts [.ref m, .int (nI x)] S0 Q := by
  exact Exists.intro 2511 ((A_f_puts hM hc h11 e32 hnt h1 K0 K1 2511 2511 (Nat.le_refl _)).1 _ S0  rfl rfl SM.rf im (by omega))
def WQ : List Nat := [14, 16, 20, 21, 26, 27, 28, 29, 30, 31, 32, 50]
/-- puts of any port: nothing comes on, or one note of a cable that is up -/
theorem z_v_puts {Q : Option Value → MM → Prop} {S0 : MM} {m x nt : Nat} {A : Nat → Nat} (hM : MS S0 m A) (hI : IV S0 m A nt) (hnt : nt < 4000) (hx : x < 16) (K0 : ∀ S', SM WQ m A S0 S' → IV S' m A nt → TL S' A nt = TL S0 A nt → Q none S') (K1 : ∀ S' c d, c < 8 → 1 ≤ d → d ≤ 8 → SM WQ m A S0 S' → IV S' m A (nt + 1) → TL S' A (nt + 1) = TL S0 A nt ++ [(nI c, nI (x / 8), sI S0 m 43 + nI d, -1)] → Q none S') : wX8_puts [.ref m, .int (nI x)] S0 Q := by
  obtain ⟨i1, i2, i3, i4, i5⟩ := id hI
  by_cases h7 : sI S0 (A 7) x = 0
  · refine Exists.intro 3 (u_X8_puts_0 ?_)
    unfold bX8_puts_0
    refine e_ldA rfl (e_ldI rfl (And.intro hM.1 (And.intro ⟨by decide, by decide⟩ (z_f_isLit hM hx (e_ifN (by decide) (fun _ => u_X8_puts_26 ?_) (fun h => absurd rfl h)) (fun h => absurd h7 h)))))
    unfold bX8_puts_26
    exact e_rV (K0 S0 SM.rf hI rfl)
  · obtain ⟨c, hc, h11, h25⟩ := RI_lit i2 hx (Or.inl h7)
    obtain ⟨d, hd1, hd2, hd⟩ := i2.2.2.1 c hc (i2.1 c hc h25)
    refine z_f_puts hM hc h11 i3 hnt i1 hx (fun S' s im => ?_) (fun S' s im v t => ?_)
    · obtain ⟨iv, tl⟩ := IV_SM hI hM s im (by decide)
      exact K0 S' (SM.tr SM.rf s (by decide)) iv tl
    · have t' : TL S' A (nt + 1) = TL S0 A nt ++ [(nI c, nI (x / 8), sI S0 m 43 + nI d, -1)] := by rw [t, hd]
      refine K1 S' c d hc hd1 hd2 (SM.tr SM.rf s (by decide)) ⟨im, RV_SM i2 hM s (by decide), v, by omega, fun q hq => ?_⟩ t'
      rw [t'] at hq
      rw [SM_a s hM (k := 25) (by decide) (by decide)]
      rcases List.mem_append.mp hq with z | z
      · exact i5 q z
      · have e := List.mem_singleton.mp z
        subst e
        exact ⟨c, hc, rfl, h25⟩
