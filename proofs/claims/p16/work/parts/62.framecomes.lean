theorem u_X8_frameComes_0 {Q : Option Value → MM → Prop} {n : Nat} {lv : Lv} {st : List Value} {S : MM} {c z : Nat} (h : bX8_frameComes_0 Q (wpn (kX8_frameComes Q) n) lv st S c z) : wpn (kX8_frameComes Q) (n + 1) 0 lv st S c z := h
theorem u_X8_frameComes_21 {Q : Option Value → MM → Prop} {n : Nat} {lv : Lv} {st : List Value} {S : MM} {c z : Nat} (h : bX8_frameComes_21 Q (wpn (kX8_frameComes Q) n) lv st S c z) : wpn (kX8_frameComes Q) (n + 1) 21 lv st S c z := h
theorem u_X8_frameComes_31 {Q : Option Value → MM → Prop} {n : Nat} {lv : Lv} {st : List Value} {S : MM} {c z : Nat} (h : bX8_frameComes_31 Q (wpn (kX8_frameComes Q) n) lv st S c z) : wpn (kX8_frameComes Q) (n + 1) 31 lv st S c z := h
theorem u_X8_frameComes_114 {Q : Option Value → MM → Prop} {n : Nat} {lv : Lv} {st : List Value} {S : MM} {c z : Nat} (h : bX8_frameComes_114 Q (wpn (kX8_frameComes Q) n) lv st S c z) : wpn (kX8_frameComes Q) (n + 1) 114 lv st S c z := h
theorem u_X8_frameComes_117 {Q : Option Value → MM → Prop} {n : Nat} {lv : Lv} {st : List Value} {S : MM} {c z : Nat} (h : bX8_frameComes_117 Q (wpn (kX8_frameComes Q) n) lv st S c z) : wpn (kX8_frameComes Q) (n + 1) 117 lv st S c z := h
theorem u_X8_frameComes_130 {Q : Option Value → MM → Prop} {n : Nat} {lv : Lv} {st : List Value} {S : MM} {c z : Nat} (h : bX8_frameComes_130 Q (wpn (kX8_frameComes Q) n) lv st S c z) : wpn (kX8_frameComes Q) (n + 1) 130 lv st S c z := h
theorem u_X8_frameComes_136 {Q : Option Value → MM → Prop} {n : Nat} {lv : Lv} {st : List Value} {S : MM} {c z : Nat} (h : bX8_frameComes_136 Q (wpn (kX8_frameComes Q) n) lv st S c z) : wpn (kX8_frameComes Q) (n + 1) 136 lv st S c z := h
theorem u_X8_frameComes_202 {Q : Option Value → MM → Prop} {n : Nat} {lv : Lv} {st : List Value} {S : MM} {c z : Nat} (h : bX8_frameComes_202 Q (wpn (kX8_frameComes Q) n) lv st S c z) : wpn (kX8_frameComes Q) (n + 1) 202 lv st S c z := h
def P_f_frameComes_0 (Q : Option Value → MM → Prop) (S0 : MM) (m : Nat) (A : Nat → Nat) (f x F ck : Nat) (n : Nat) : Prop := ∀ (lv : Lv) (S : MM) , lvg lv 0 = some (.ref m) → lvg lv 1 = some (.int (nI f)) → lvg lv 2 = some (.int (nI x)) → SM [38, 41, 45, 49] m A S0 S → IM S m A → 390693 ≤ n → wpn (kX8_frameComes Q) n 0 lv [] S 0 0
def P_f_frameComes_31 (Q : Option Value → MM → Prop) (S0 : MM) (m : Nat) (A : Nat → Nat) (f x F ck : Nat) (n : Nat) : Prop := ∀ (lv : Lv) (S : MM) (i4 : Nat), lvg lv 0 = some (.ref m) → lvg lv 1 = some (.int (nI f)) → lvg lv 2 = some (.int (nI x)) → lvg lv 3 = some (.int (nI (x / 8))) → lvg lv 4 = some (.int (nI i4)) → i4 < 4201 → SM [38, 41, 45, 49] m A S0 S → IM S m A → 62 + 93 * (4200 - i4) ≤ n → wpn (kX8_frameComes Q) n 31 lv [] S 0 0
def P_f_frameComes_136 (Q : Option Value → MM → Prop) (S0 : MM) (m : Nat) (A : Nat → Nat) (f x F ck : Nat) (n : Nat) : Prop := ∀ (lv : Lv) (S : MM) (i4 : Nat), lvg lv 0 = some (.ref m) → lvg lv 1 = some (.int (nI f)) → lvg lv 2 = some (.int (nI x)) → lvg lv 3 = some (.int (nI (x / 8))) → lvg lv 4 = some (.int (nI i4)) → i4 < 4201 → SM [38, 41, 45, 49] m A S0 S → IM S m A → 31 ≤ n → wpn (kX8_frameComes Q) n 136 lv [] S 0 0
theorem B_f_frameComes_0 {Q : Option Value → MM → Prop} {S0 : MM} {m : Nat} {A : Nat → Nat} {f x F ck : Nat} {n : Nat} (hM : MS S0 m A) (e39 : sI S0 m 39 = nI F) (hF39 : F < 4201) (e42 : sI S0 (A 42) (x / 8) = nI ck) (hck : ck < 2147483000) (h1 : f < 4200) (h2 : x < 16) (K0 : ∀ S', SM [38, 41, 45, 49] m A S0 S' → IM S' m A → Q none S') (K1 : ∀ S', SM [38, 41, 42, 45, 49] m A S0 S' → IM S' m A → sI S' (A 42) = upd (sI S0 (A 42)) (x / 8) (nI (ck + 1)) → Q none S') (t_31 : ∀ k, k ≤ n → P_f_frameComes_31 Q S0 m A f x F ck k) : P_f_frameComes_0 Q S0 m A f x F ck (n + 1) := by
  intro lv S  g0 g1 g2 sh im hF
  refine u_X8_frameComes_0 ?_
  unfold bX8_frameComes_0
  refine e_ldA g0 ?_
  refine e_gR (SM_k sh hM.1) (SM_r sh (hM.2.1 9 (by decide)).1) ?_
  refine e_ldI g2 ?_
  refine e_aI (N := 16) (SM_k sh (hM.2.1 9 (by decide)).2.1) (SM_n sh (hM.2.1 9 (by decide)).2.2.1) (by omega) (by decide) (fun v1 hv2 => ?_)
  refine e_cN 3 rfl ?_
  refine e_ifc ?_ ?_
  · obtain ⟨q3, rfl⟩ : ∃ q, n = q + 1 := ⟨n - 1, by omega⟩
    refine u_X8_frameComes_21 ?_
    unfold bX8_frameComes_21
    refine e_ldI g2 ?_
    refine e_cN 8 rfl ?_
    refine e_div (by omega) (by decide) (by decide) ?_
    refine e_stI ?_
    refine e_ldI (lvg_ne g1 rfl (by decide)) ?_
    refine e_cN 1 rfl ?_
    refine e_add ?_
    refine e_stI ?_
    exact t_31 q3 (by omega) _ _ (f + 1) (lvg_ne (lvg_ne g0 rfl (by decide)) rfl (by decide)) (lvg_ne (lvg_ne g1 rfl (by decide)) rfl (by decide)) (lvg_ne (lvg_ne g2 rfl (by decide)) rfl (by decide)) (lvg_ne lvg_self rfl (by decide)) lvg_self (by omega) sh im (by omega)
  · refine e_ldA g0 ?_
    refine e_duA ?_
    refine e_gI (SM_k sh hM.1) (fun v4 hv5 => ?_)
    refine e_cN 1 rfl ?_
    refine e_bopU (fun r6 => ?_)
    refine y_mI hM sh im (by decide) (fun N e => nomatch (show (none : Option Nat) = some N from e)) (fun S7 he8 sh9 ir10 => ?_)
    exact e_rV (K0 _ sh9 ir10)
theorem B_f_frameComes_31 {Q : Option Value → MM → Prop} {S0 : MM} {m : Nat} {A : Nat → Nat} {f x F ck : Nat} {n : Nat} (hM : MS S0 m A) (e39 : sI S0 m 39 = nI F) (hF39 : F < 4201) (e42 : sI S0 (A 42) (x / 8) = nI ck) (hck : ck < 2147483000) (h1 : f < 4200) (h2 : x < 16) (K0 : ∀ S', SM [38, 41, 45, 49] m A S0 S' → IM S' m A → Q none S') (K1 : ∀ S', SM [38, 41, 42, 45, 49] m A S0 S' → IM S' m A → sI S' (A 42) = upd (sI S0 (A 42)) (x / 8) (nI (ck + 1)) → Q none S') (t_31 : ∀ k, k ≤ n → P_f_frameComes_31 Q S0 m A f x F ck k) (t_136 : ∀ k, k ≤ n → P_f_frameComes_136 Q S0 m A f x F ck k) : P_f_frameComes_31 Q S0 m A f x F ck (n + 1) := by
  intro lv S i4 g0 g1 g2 g3 g4 h4 sh im hF
  refine u_X8_frameComes_31 ?_
  unfold bX8_frameComes_31
  refine e_ldI g4 ?_
  refine e_ldA g0 ?_
  refine e_gV (v := nI F) (SM_k sh hM.1) ((sh.2.2.2.2.2 39 (by decide)).trans e39) ?_
  refine e_ge (by omega) (by omega) (fun h1 => ?_) (fun h1 => ?_)
  · exact t_136 n (by omega) _ _ i4 g0 g1 g2 g3 g4 (by omega) sh im (by omega)
  · refine e_ldA g0 ?_
    refine e_gR (SM_k sh hM.1) (SM_r sh (hM.2.1 38 (by decide)).1) ?_
    refine e_ldI g4 ?_
    refine e_aI (N := 4200) (SM_k sh (hM.2.1 38 (by decide)).2.1) (SM_n sh (hM.2.1 38 (by decide)).2.2.1) (by omega) (by decide) (fun v2 hv3 => ?_)
    refine e_if0 (fun h4 => ?_) (fun h4 => ?_)
    · obtain ⟨q5, rfl⟩ : ∃ q, n = q + 1 := ⟨n - 1, by omega⟩
      refine u_X8_frameComes_130 ?_
      unfold bX8_frameComes_130
      refine e_inc g4 ?_
      exact t_31 q5 (by omega) _ _ (i4 + 1) (lvg_ne g0 rfl (by decide)) (lvg_ne g1 rfl (by decide)) (lvg_ne g2 rfl (by decide)) (lvg_ne g3 rfl (by decide)) lvg_self (by omega) sh im (by omega)
    · refine e_ldA g0 ?_
      refine e_gR (SM_k sh hM.1) (SM_r sh (hM.2.1 33 (by decide)).1) ?_
      refine e_ldI g4 ?_
      refine e_aI (N := 4200) (SM_k sh (hM.2.1 33 (by decide)).2.1) (SM_n sh (hM.2.1 33 (by decide)).2.2.1) (by omega) (by decide) (fun v6 hv7 => ?_)
      refine e_ldA g0 ?_
      refine e_gR (SM_k sh hM.1) (SM_r sh (hM.2.1 33 (by decide)).1) ?_
      refine e_ldI g1 ?_
      refine e_aI (N := 4200) (SM_k sh (hM.2.1 33 (by decide)).2.1) (SM_n sh (hM.2.1 33 (by decide)).2.2.1) (by omega) (by decide) (fun v8 hv9 => ?_)
      refine e_ifc ?_ ?_
      · refine e_ldA g0 ?_
        refine e_gR (SM_k sh hM.1) (SM_r sh (hM.2.1 34 (by decide)).1) ?_
        refine e_ldI g4 ?_
        refine e_aI (N := 4200) (SM_k sh (hM.2.1 34 (by decide)).2.1) (SM_n sh (hM.2.1 34 (by decide)).2.2.1) (by omega) (by decide) (fun v10 hv11 => ?_)
        refine e_ldA g0 ?_
        refine e_gR (SM_k sh hM.1) (SM_r sh (hM.2.1 34 (by decide)).1) ?_
        refine e_ldI g1 ?_
        refine e_aI (N := 4200) (SM_k sh (hM.2.1 34 (by decide)).2.1) (SM_n sh (hM.2.1 34 (by decide)).2.2.1) (by omega) (by decide) (fun v12 hv13 => ?_)
        refine e_ifc ?_ ?_
        · refine e_ldA g0 ?_
          refine e_gR (SM_k sh hM.1) (SM_r sh (hM.2.1 35 (by decide)).1) ?_
          refine e_ldI g4 ?_
          refine e_aI (N := 4200) (SM_k sh (hM.2.1 35 (by decide)).2.1) (SM_n sh (hM.2.1 35 (by decide)).2.2.1) (by omega) (by decide) (fun v14 hv15 => ?_)
          refine e_ldA g0 ?_
          refine e_gR (SM_k sh hM.1) (SM_r sh (hM.2.1 35 (by decide)).1) ?_
          refine e_ldI g1 ?_
          refine e_aI (N := 4200) (SM_k sh (hM.2.1 35 (by decide)).2.1) (SM_n sh (hM.2.1 35 (by decide)).2.2.1) (by omega) (by decide) (fun v16 hv17 => ?_)
          refine e_ifc ?_ ?_
          · refine e_ldA g0 ?_
            refine e_gR (SM_k sh hM.1) (SM_r sh (hM.2.1 37 (by decide)).1) ?_
            refine e_ldI g4 ?_
            refine e_aI (N := 4200) (SM_k sh (hM.2.1 37 (by decide)).2.1) (SM_n sh (hM.2.1 37 (by decide)).2.2.1) (by omega) (by decide) (fun v18 hv19 => ?_)
            refine e_ldA g0 ?_
            refine e_gR (SM_k sh hM.1) (SM_r sh (hM.2.1 37 (by decide)).1) ?_
            refine e_ldI g1 ?_
            refine e_aI (N := 4200) (SM_k sh (hM.2.1 37 (by decide)).2.1) (SM_n sh (hM.2.1 37 (by decide)).2.2.1) (by omega) (by decide) (fun v20 hv21 => ?_)
            refine e_ifc ?_ ?_
            · obtain ⟨q22, rfl⟩ : ∃ q, n = q + 1 := ⟨n - 1, by omega⟩
              refine u_X8_frameComes_117 ?_
              unfold bX8_frameComes_117
              refine e_ldA g0 ?_
              refine e_duA ?_
              refine e_gI (SM_k sh hM.1) (fun v23 hv24 => ?_)
              refine e_cN 1 rfl ?_
              refine e_bopU (fun r25 => ?_)
              refine y_mI hM sh im (by decide) (fun N e => nomatch (show (none : Option Nat) = some N from e)) (fun S26 he27 sh28 ir29 => ?_)
              exact t_136 q22 (by omega) _ _ i4 g0 g1 g2 g3 g4 (by omega) sh28 ir29 (by omega)
            · obtain ⟨q30, rfl⟩ : ∃ q, n = q + 1 := ⟨n - 1, by omega⟩
              refine u_X8_frameComes_114 ?_
              unfold bX8_frameComes_114
              obtain ⟨q31, rfl⟩ : ∃ q, q30 = q + 1 := ⟨q30 - 1, by omega⟩
              refine u_X8_frameComes_130 ?_
              unfold bX8_frameComes_130
              refine e_inc g4 ?_
              exact t_31 q31 (by omega) _ _ (i4 + 1) (lvg_ne g0 rfl (by decide)) (lvg_ne g1 rfl (by decide)) (lvg_ne g2 rfl (by decide)) (lvg_ne g3 rfl (by decide)) lvg_self (by omega) sh im (by omega)
          · obtain ⟨q32, rfl⟩ : ∃ q, n = q + 1 := ⟨n - 1, by omega⟩
            refine u_X8_frameComes_130 ?_
            unfold bX8_frameComes_130
            refine e_inc g4 ?_
            exact t_31 q32 (by omega) _ _ (i4 + 1) (lvg_ne g0 rfl (by decide)) (lvg_ne g1 rfl (by decide)) (lvg_ne g2 rfl (by decide)) (lvg_ne g3 rfl (by decide)) lvg_self (by omega) sh im (by omega)
        · obtain ⟨q33, rfl⟩ : ∃ q, n = q + 1 := ⟨n - 1, by omega⟩
          refine u_X8_frameComes_130 ?_
          unfold bX8_frameComes_130
          refine e_inc g4 ?_
          exact t_31 q33 (by omega) _ _ (i4 + 1) (lvg_ne g0 rfl (by decide)) (lvg_ne g1 rfl (by decide)) (lvg_ne g2 rfl (by decide)) (lvg_ne g3 rfl (by decide)) lvg_self (by omega) sh im (by omega)
      · obtain ⟨q34, rfl⟩ : ∃ q, n = q + 1 := ⟨n - 1, by omega⟩
        refine u_X8_frameComes_130 ?_
        unfold bX8_frameComes_130
        refine e_inc g4 ?_
        exact t_31 q34 (by omega) _ _ (i4 + 1) (lvg_ne g0 rfl (by decide)) (lvg_ne g1 rfl (by decide)) (lvg_ne g2 rfl (by decide)) (lvg_ne g3 rfl (by decide)) lvg_self (by omega) sh im (by omega)
theorem B_f_frameComes_136 {Q : Option Value → MM → Prop} {S0 : MM} {m : Nat} {A : Nat → Nat} {f x F ck : Nat} {n : Nat} (hM : MS S0 m A) (e39 : sI S0 m 39 = nI F) (hF39 : F < 4201) (e42 : sI S0 (A 42) (x / 8) = nI ck) (hck : ck < 2147483000) (h1 : f < 4200) (h2 : x < 16) (K0 : ∀ S', SM [38, 41, 45, 49] m A S0 S' → IM S' m A → Q none S') (K1 : ∀ S', SM [38, 41, 42, 45, 49] m A S0 S' → IM S' m A → sI S' (A 42) = upd (sI S0 (A 42)) (x / 8) (nI (ck + 1)) → Q none S')  : P_f_frameComes_136 Q S0 m A f x F ck (n + 1) := by
  intro lv S i4 g0 g1 g2 g3 g4 h4 sh im hF
  refine u_X8_frameComes_136 ?_
  unfold bX8_frameComes_136
  refine e_ldA g0 ?_
  refine e_gR (SM_k sh hM.1) (SM_r sh (hM.2.1 38 (by decide)).1) ?_
  refine e_ldI g1 ?_
  refine e_cN 1 rfl ?_
  refine y_mB (N := 4200) hM sh im (by decide) rfl rfl (by omega) (by decide) (by omega) (by decide) (fun N e => nomatch (show (none : Option Nat) = some N from e)) (fun e => absurd e (by decide)) (fun S1 he2 sh3 ir4 => ?_)
  refine e_cN 4 rfl ?_
  refine e_cN 50 rfl ?_
  refine e_ldI g3 ?_
  refine e_mul ?_
  refine e_ldA g0 ?_
  refine e_gR (SM_k sh3 hM.1) (SM_r sh3 (hM.2.1 42 (by decide)).1) ?_
  refine e_ldI g3 ?_
  refine e_aV (N := 2) (v := nI ck) (SM_k sh3 (hM.2.1 42 (by decide)).2.1) (SM_n sh3 (hM.2.1 42 (by decide)).2.2.1) (by omega) (by decide) (by rw [SM_a sh3 hM (by decide) (by decide)]; exact e42) ?_
  refine e_cN 50 rfl ?_
  refine e_rem (by omega) (by decide) (by decide) ?_
  refine e_add ?_
  refine e_mul ?_
  refine e_stI ?_
  refine e_ldA (lvg_ne g0 rfl (by decide)) ?_
  refine e_gR (SM_k sh3 hM.1) (SM_r sh3 (hM.2.1 41 (by decide)).1) ?_
  refine e_ldI lvg_self ?_
  refine e_ldI (lvg_ne g2 rfl (by decide)) ?_
  refine e_cN 8 rfl ?_
  refine e_rem (by omega) (by decide) (by decide) ?_
  refine y_mA (N := 400) hM sh3 ir4 (by decide) rfl rfl (by omega) (by decide) (by decide) (fun N e => nomatch (show (none : Option Nat) = some N from e)) (fun e => absurd e (by decide)) (fun S5 he6 sh7 ir8 => ?_)
  refine e_ldA (lvg_ne g0 rfl (by decide)) ?_
  refine e_gR (SM_k sh7 hM.1) (SM_r sh7 (hM.2.1 41 (by decide)).1) ?_
  refine e_ldI lvg_self ?_
  refine e_cN 1 rfl ?_
  refine e_add ?_
  refine e_ldA (lvg_ne g0 rfl (by decide)) ?_
  refine e_gR (SM_k sh7 hM.1) (SM_r sh7 (hM.2.1 35 (by decide)).1) ?_
  refine e_ldI (lvg_ne g1 rfl (by decide)) ?_
  refine e_aI (N := 4200) (SM_k sh7 (hM.2.1 35 (by decide)).2.1) (SM_n sh7 (hM.2.1 35 (by decide)).2.2.1) (by omega) (by decide) (fun v9 hv10 => ?_)
  refine y_mA (N := 400) hM sh7 ir8 (by decide) rfl rfl (by omega) (by decide) (by decide) (fun N e => nomatch (show (none : Option Nat) = some N from e)) (fun e => absurd e (by decide)) (fun S11 he12 sh13 ir14 => ?_)
  refine e_ldA (lvg_ne g0 rfl (by decide)) ?_
  refine e_gR (SM_k sh13 hM.1) (SM_r sh13 (hM.2.1 41 (by decide)).1) ?_
  refine e_ldI lvg_self ?_
  refine e_cN 2 rfl ?_
  refine e_add ?_
  refine e_ldA (lvg_ne g0 rfl (by decide)) ?_
  refine e_gR (SM_k sh13 hM.1) (SM_r sh13 (hM.2.1 36 (by decide)).1) ?_
  refine e_ldI (lvg_ne g1 rfl (by decide)) ?_
  refine e_aI (N := 4200) (SM_k sh13 (hM.2.1 36 (by decide)).2.1) (SM_n sh13 (hM.2.1 36 (by decide)).2.2.1) (by omega) (by decide) (fun v15 hv16 => ?_)
  refine y_mA (N := 400) hM sh13 ir14 (by decide) rfl rfl (by omega) (by decide) (by decide) (fun N e => nomatch (show (none : Option Nat) = some N from e)) (fun e => absurd e (by decide)) (fun S17 he18 sh19 ir20 => ?_)
  obtain ⟨q21, rfl⟩ : ∃ q, n = q + 1 := ⟨n - 1, by omega⟩
  refine u_X8_frameComes_202 ?_
  unfold bX8_frameComes_202
  refine e_ldA (lvg_ne g0 rfl (by decide)) ?_
  refine e_gR (SM_k sh19 hM.1) (SM_r sh19 (hM.2.1 41 (by decide)).1) ?_
  refine e_ldI lvg_self ?_
  refine e_cN 3 rfl ?_
  refine e_add ?_
  refine e_ldA (lvg_ne g0 rfl (by decide)) ?_
  refine e_gI (SM_k sh19 hM.1) (fun v22 hv23 => ?_)
  refine y_mA (N := 400) hM sh19 ir20 (by decide) rfl rfl (by omega) (by decide) (by decide) (fun N e => nomatch (show (none : Option Nat) = some N from e)) (fun e => absurd e (by decide)) (fun S24 he25 sh26 ir27 => ?_)
  refine e_ldA (lvg_ne g0 rfl (by decide)) ?_
  refine e_gR (SM_k sh26 hM.1) (SM_r sh26 (hM.2.1 42 (by decide)).1) ?_
  refine e_ldI (lvg_ne g3 rfl (by decide)) ?_
  refine e_du2 ?_
  refine e_aV (N := 2) (v := nI ck) (SM_k sh26 (hM.2.1 42 (by decide)).2.1) (SM_n sh26 (hM.2.1 42 (by decide)).2.2.1) (by omega) (by decide) (by rw [SM_a sh26 hM (by decide) (by decide)]; exact e42) ?_
  refine e_cN 1 rfl ?_
  refine e_add ?_
  refine y_mA (N := 2) (W := [38, 41, 42, 45, 49]) hM (SM.tr SM.rf sh26 (by decide)) ir27 (by decide) rfl rfl (by omega) (by decide) (by decide) (fun N e => nomatch (show (none : Option Nat) = some N from e)) (fun e => absurd e (by decide)) (fun S9 he9 sh9 im9 => ?_)
  exact e_rV (K1 S9 sh9 im9 (fn_s he9 (SM_a sh26 hM (by decide) (by decide))))
theorem A_f_frameComes {Q : Option Value → MM → Prop} {S0 : MM} {m : Nat} {A : Nat → Nat} {f x F ck : Nat} (hM : MS S0 m A) (e39 : sI S0 m 39 = nI F) (hF39 : F < 4201) (e42 : sI S0 (A 42) (x / 8) = nI ck) (hck : ck < 2147483000) (h1 : f < 4200) (h2 : x < 16) (K0 : ∀ S', SM [38, 41, 45, 49] m A S0 S' → IM S' m A → Q none S') (K1 : ∀ S', SM [38, 41, 42, 45, 49] m A S0 S' → IM S' m A → sI S' (A 42) = upd (sI S0 (A 42)) (x / 8) (nI (ck + 1)) → Q none S') : ∀ n k, k ≤ n → P_f_frameComes_0 Q S0 m A f x F ck k ∧ P_f_frameComes_31 Q S0 m A f x F ck k ∧ P_f_frameComes_136 Q S0 m A f x F ck k := by
  intro n
  induction n with
  | zero =>
    intro k hk
    have e : k = 0 := by omega
    subst e
    exact ⟨(fun lv S  _ _ _ _ _ hF => absurd hF (by omega)), (fun lv S i4 _ _ _ _ _ _ _ _ hF => absurd hF (by omega)), (fun lv S i4 _ _ _ _ _ _ _ _ hF => absurd hF (by omega))⟩
  | succ n ih =>
    intro k hk
    by_cases hn : k ≤ n
    · exact ih k hn
    · have e : k = n + 1 := by omega
      subst e
      have T_0 : ∀ k, k ≤ n → P_f_frameComes_0 Q S0 m A f x F ck k := fun k hk => (ih k hk).1
      have T_31 : ∀ k, k ≤ n → P_f_frameComes_31 Q S0 m A f x F ck k := fun k hk => (ih k hk).2.1
      have T_136 : ∀ k, k ≤ n → P_f_frameComes_136 Q S0 m A f x F ck k := fun k hk => (ih k hk).2.2
      exact ⟨B_f_frameComes_0 hM e39 hF39 e42 hck h1 h2 K0 K1 T_31, B_f_frameComes_31 hM e39 hF39 e42 hck h1 h2 K0 K1 T_31 T_136, B_f_frameComes_136 hM e39 hF39 e42 hck h1 h2 K0 K1 ⟩
theorem z_f_frameComes {Q : Option Value → MM → Prop} {S0 : MM} {m : Nat} {A : Nat → Nat} {f x F ck : Nat}  (hM : MS S0 m A) (e39 : sI S0 m 39 = nI F) (hF39 : F < 4201) (e42 : sI S0 (A 42) (x / 8) = nI ck) (hck : ck < 2147483000) (im : IM S0 m A) (h1 : f < 4200) (h2 : x < 16) (K0 : ∀ S', SM [38, 41, 45, 49] m A S0 S' → IM S' m A → Q none S') (K1 : ∀ S', SM [38, 41, 42, 45, 49] m A S0 S' → IM S' m A → sI S' (A 42) = upd (sI S0 (A 42)) (x / 8) (nI (ck + 1)) → Q none S') : wX8_frameComes [.ref m, .int (nI f), .int (nI x)] S0 Q := by
  exact Exists.intro 390693 ((A_f_frameComes hM e39 hF39 e42 hck h1 h2 K0 K1 390693 390693 (Nat.le_refl _)).1 _ S0  rfl rfl rfl SM.rf im (by omega))
def WF : List Nat := [38, 41, 42, 45, 49]
theorem z_v_frameComes {Q : Option Value → MM → Prop} {S0 : MM} {m f x F k : Nat} {A : Nat → Nat} (hM : MS S0 m A) (im : IM S0 m A) (hf : f < 4200) (hx : x < 16) (e39 : sI S0 m 39 = nI F) (hF : F < 4201) (e42 : sI S0 (A 42) (x / 8) = nI k) (hk : k < 2147483000) (K : ∀ S', SM WF m A S0 S' → IM S' m A → (sI S' (A 42) = sI S0 (A 42) ∨ sI S' (A 42) = upd (sI S0 (A 42)) (x / 8) (nI (k + 1))) → Q none S') : wX8_frameComes [.ref m, .int (nI f), .int (nI x)] S0 Q :=
  z_f_frameComes hM e39 hF e42 hk im hf hx (fun S' s i => K S' (SM.tr SM.rf s (by decide)) i (Or.inl (SM_a s hM (by decide) (by decide)))) (fun S' s i e => K S' s i (Or.inr e))
