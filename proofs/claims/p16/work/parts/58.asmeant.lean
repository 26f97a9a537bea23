theorem u_X8_isAsMeant_0 {Q : Option Value → MM → Prop} {n : Nat} {lv : Lv} {st : List Value} {S : MM} {c z : Nat} (h : bX8_isAsMeant_0 Q (wpn (kX8_isAsMeant Q) n) lv st S c z) : wpn (kX8_isAsMeant Q) (n + 1) 0 lv st S c z := h
theorem u_X8_isAsMeant_2 {Q : Option Value → MM → Prop} {n : Nat} {lv : Lv} {st : List Value} {S : MM} {c z : Nat} (h : bX8_isAsMeant_2 Q (wpn (kX8_isAsMeant Q) n) lv st S c z) : wpn (kX8_isAsMeant Q) (n + 1) 2 lv st S c z := h
theorem u_X8_isAsMeant_46 {Q : Option Value → MM → Prop} {n : Nat} {lv : Lv} {st : List Value} {S : MM} {c z : Nat} (h : bX8_isAsMeant_46 Q (wpn (kX8_isAsMeant Q) n) lv st S c z) : wpn (kX8_isAsMeant Q) (n + 1) 46 lv st S c z := h
theorem u_X8_isAsMeant_48 {Q : Option Value → MM → Prop} {n : Nat} {lv : Lv} {st : List Value} {S : MM} {c z : Nat} (h : bX8_isAsMeant_48 Q (wpn (kX8_isAsMeant Q) n) lv st S c z) : wpn (kX8_isAsMeant Q) (n + 1) 48 lv st S c z := h
theorem u_X8_isAsMeant_54 {Q : Option Value → MM → Prop} {n : Nat} {lv : Lv} {st : List Value} {S : MM} {c z : Nat} (h : bX8_isAsMeant_54 Q (wpn (kX8_isAsMeant Q) n) lv st S c z) : wpn (kX8_isAsMeant Q) (n + 1) 54 lv st S c z := h
theorem u_X8_isAsMeant_56 {Q : Option Value → MM → Prop} {n : Nat} {lv : Lv} {st : List Value} {S : MM} {c z : Nat} (h : bX8_isAsMeant_56 Q (wpn (kX8_isAsMeant Q) n) lv st S c z) : wpn (kX8_isAsMeant Q) (n + 1) 56 lv st S c z := h
theorem u_X8_isAsMeant_87 {Q : Option Value → MM → Prop} {n : Nat} {lv : Lv} {st : List Value} {S : MM} {c z : Nat} (h : bX8_isAsMeant_87 Q (wpn (kX8_isAsMeant Q) n) lv st S c z) : wpn (kX8_isAsMeant Q) (n + 1) 87 lv st S c z := h
theorem u_X8_isAsMeant_93 {Q : Option Value → MM → Prop} {n : Nat} {lv : Lv} {st : List Value} {S : MM} {c z : Nat} (h : bX8_isAsMeant_93 Q (wpn (kX8_isAsMeant Q) n) lv st S c z) : wpn (kX8_isAsMeant Q) (n + 1) 93 lv st S c z := h
def P_X8_isAsMeant_0 (Q : Option Value → MM → Prop) (S0 : MM) (m : Nat) (A : Nat → Nat) (n : Nat) : Prop := ∀ (lv : Lv) (S : MM) , lvg lv 0 = some (.ref m) → SM [] m A S0 S → IM S m A → 9765 ≤ n → wpn (kX8_isAsMeant Q) n 0 lv [] S 0 0
def P_X8_isAsMeant_2 (Q : Option Value → MM → Prop) (S0 : MM) (m : Nat) (A : Nat → Nat) (n : Nat) : Prop := ∀ (lv : Lv) (S : MM) (i1 : Nat), lvg lv 0 = some (.ref m) → lvg lv 1 = some (.int (nI i1)) → i1 < 9 → SM [] m A S0 S → IM S m A → 1054 + 1085 * (8 - i1) ≤ n → wpn (kX8_isAsMeant Q) n 2 lv [] S 0 0
def P_X8_isAsMeant_56 (Q : Option Value → MM → Prop) (S0 : MM) (m : Nat) (A : Nat → Nat) (n : Nat) : Prop := ∀ (lv : Lv) (S : MM) (i1 : Nat), lvg lv 0 = some (.ref m) → lvg lv 1 = some (.int (nI i1)) → i1 < 17 → SM [] m A S0 S → IM S m A → 31 + 62 * (16 - i1) ≤ n → wpn (kX8_isAsMeant Q) n 56 lv [] S 0 0
theorem B_X8_isAsMeant_0 {Q : Option Value → MM → Prop} {S0 : MM} {m : Nat} {A : Nat → Nat} {n : Nat} (hM : MS S0 m A) (hR : RV S0 A) (K : ∀ j S', SM [] m A S0 S' → IM S' m A → j < 2 → Q (some (.int (nI j))) S') (t_2 : ∀ k, k ≤ n → P_X8_isAsMeant_2 Q S0 m A k) : P_X8_isAsMeant_0 Q S0 m A (n + 1) := by
  intro lv S  g0 sh im hF
  refine u_X8_isAsMeant_0 ?_
  unfold bX8_isAsMeant_0
  refine e_cN 0 rfl ?_
  refine e_stI ?_
  exact t_2 n (by omega) _ _ 0 (lvg_ne g0 rfl (by decide)) lvg_self (by omega) sh im (by omega)
theorem B_X8_isAsMeant_2 {Q : Option Value → MM → Prop} {S0 : MM} {m : Nat} {A : Nat → Nat} {n : Nat} (hM : MS S0 m A) (hR : RV S0 A) (K : ∀ j S', SM [] m A S0 S' → IM S' m A → j < 2 → Q (some (.int (nI j))) S') (t_2 : ∀ k, k ≤ n → P_X8_isAsMeant_2 Q S0 m A k) (t_56 : ∀ k, k ≤ n → P_X8_isAsMeant_56 Q S0 m A k) : P_X8_isAsMeant_2 Q S0 m A (n + 1) := by
  intro lv S i1 g0 g1 h1 sh im hF
  refine u_X8_isAsMeant_2 ?_
  unfold bX8_isAsMeant_2
  refine e_ldI g1 ?_
  refine e_cN 8 rfl ?_
  refine e_ge (by omega) (by omega) (fun h1 => ?_) (fun h1 => ?_)
  · obtain ⟨q2, rfl⟩ : ∃ q, n = q + 1 := ⟨n - 1, by omega⟩
    refine u_X8_isAsMeant_54 ?_
    unfold bX8_isAsMeant_54
    refine e_cN 0 rfl ?_
    refine e_stI ?_
    exact t_56 q2 (by omega) _ _ 0 (lvg_ne g0 rfl (by decide)) lvg_self (by omega) sh im (by omega)
  · refine e_ldA g0 ?_
    refine e_ldI g1 ?_
    refine And.intro (SM_k sh hM.1) (And.intro ⟨by decide, by decide⟩ (z_X8_isMeant (MS_SM hM sh) im (show i1 < 8 by omega) (fun n7 S3 s4 ir5 hn8 => ?_)))
    have sh6 := SM.tr sh s4 (by decide)
    refine e_ifN (by omega) (fun h9 => ?_) (fun h9 => ?_)
    · obtain ⟨q10, rfl⟩ : ∃ q, n = q + 1 := ⟨n - 1, by omega⟩
      refine u_X8_isAsMeant_48 ?_
      unfold bX8_isAsMeant_48
      refine e_inc g1 ?_
      exact t_2 q10 (by omega) _ _ (i1 + 1) (lvg_ne g0 rfl (by decide)) lvg_self (by omega) sh6 ir5 (by omega)
    · refine e_ldA g0 ?_
      refine e_gR (SM_k sh6 hM.1) (SM_r sh6 (hM.2.1 9 (by decide)).1) ?_
      refine e_ldA g0 ?_
      refine e_ldI g1 ?_
      refine e_cN 0 rfl ?_
      refine And.intro (SM_k sh6 hM.1) (And.intro ⟨by decide, by decide⟩ (z_X8_portAt (MS_SM hM sh6) ir5 (show i1 < 8 by omega) (show 0 < 2 by omega) (fun n15 S11 s12 ir13 hn16 => ?_)))
      have sh14 := SM.tr sh6 s12 (by decide)
      refine e_aI (N := 16) (SM_k sh14 (hM.2.1 9 (by decide)).2.1) (SM_n sh14 (hM.2.1 9 (by decide)).2.2.1) (by omega) (by decide) (fun v17 hv18 => ?_)
      refine e_cN 4 rfl ?_
      refine ⟨fun h19 => ?_, fun _ => ?_⟩
      · refine e_ldA g0 ?_
        refine e_gR (SM_k sh14 hM.1) (SM_r sh14 (hM.2.1 9 (by decide)).1) ?_
        refine e_ldA g0 ?_
        refine e_ldI g1 ?_
        refine e_cN 1 rfl ?_
        refine And.intro (SM_k sh14 hM.1) (And.intro ⟨by decide, by decide⟩ (z_X8_portAt (MS_SM hM sh14) ir13 (show i1 < 8 by omega) (show 1 < 2 by omega) (fun n24 S20 s21 ir22 hn25 => ?_)))
        have sh23 := SM.tr sh14 s21 (by decide)
        refine e_aI (N := 16) (SM_k sh23 (hM.2.1 9 (by decide)).2.1) (SM_n sh23 (hM.2.1 9 (by decide)).2.2.1) (by omega) (by decide) (fun v26 hv27 => ?_)
        refine e_cN 4 rfl ?_
        refine ⟨fun h28 => ?_, fun _ => ?_⟩
        · obtain ⟨q29, rfl⟩ : ∃ q, n = q + 1 := ⟨n - 1, by omega⟩
          refine u_X8_isAsMeant_48 ?_
          unfold bX8_isAsMeant_48
          refine e_inc g1 ?_
          exact t_2 q29 (by omega) _ _ (i1 + 1) (lvg_ne g0 rfl (by decide)) lvg_self (by omega) sh23 ir22 (by omega)
        · obtain ⟨q30, rfl⟩ : ∃ q, n = q + 1 := ⟨n - 1, by omega⟩
          refine u_X8_isAsMeant_46 ?_
          unfold bX8_isAsMeant_46
          refine e_cN 0 rfl ?_
          exact e_rZ (by omega) (K 0 _ sh23 ir22 (by omega))
      · obtain ⟨q31, rfl⟩ : ∃ q, n = q + 1 := ⟨n - 1, by omega⟩
        refine u_X8_isAsMeant_46 ?_
        unfold bX8_isAsMeant_46
        refine e_cN 0 rfl ?_
        exact e_rZ (by omega) (K 0 _ sh14 ir13 (by omega))
theorem B_X8_isAsMeant_56 {Q : Option Value → MM → Prop} {S0 : MM} {m : Nat} {A : Nat → Nat} {n : Nat} (hM : MS S0 m A) (hR : RV S0 A) (K : ∀ j S', SM [] m A S0 S' → IM S' m A → j < 2 → Q (some (.int (nI j))) S') (t_56 : ∀ k, k ≤ n → P_X8_isAsMeant_56 Q S0 m A k) : P_X8_isAsMeant_56 Q S0 m A (n + 1) := by
  intro lv S i1 g0 g1 h1 sh im hF
  refine u_X8_isAsMeant_56 ?_
  unfold bX8_isAsMeant_56
  refine e_ldI g1 ?_
  refine e_cN 16 rfl ?_
  refine e_ge (by omega) (by omega) (fun h1 => ?_) (fun h1 => ?_)
  · obtain ⟨q2, rfl⟩ : ∃ q, n = q + 1 := ⟨n - 1, by omega⟩
    refine u_X8_isAsMeant_93 ?_
    unfold bX8_isAsMeant_93
    refine e_cN 1 rfl ?_
    exact e_rZ (by omega) (K 1 _ sh im (by omega))
  · refine e_ldA g0 ?_
    refine e_gR (SM_k sh hM.1) (SM_r sh (hM.2.1 9 (by decide)).1) ?_
    refine e_ldI g1 ?_
    refine e_aI (N := 16) (SM_k sh (hM.2.1 9 (by decide)).2.1) (SM_n sh (hM.2.1 9 (by decide)).2.2.1) (by omega) (by decide) (fun v3 hv4 => ?_)
    refine e_cN 4 rfl ?_
    refine ⟨fun h5 => ?_, fun _ => ?_⟩
    · refine e_ldA g0 ?_
      refine e_ldA g0 ?_
      refine e_gR (SM_k sh hM.1) (SM_r sh (hM.2.1 11 (by decide)).1) ?_
      refine e_ldI g1 ?_
      obtain ⟨n6, hn7, vn8, _⟩ := RI_lit (RV_SM hR hM sh (by decide)) (show i1 < 16 by omega) (Or.inr ((hv4).trans h5))
      refine e_aV (N := 16) (v := nI n6) (SM_k sh (hM.2.1 11 (by decide)).2.1) (SM_n sh (hM.2.1 11 (by decide)).2.2.1) (by omega) (by decide) vn8 ?_
      refine And.intro (SM_k sh hM.1) (And.intro ⟨by decide, by decide⟩ (z_X8_isMeant (MS_SM hM sh) im (show n6 < 8 by omega) (fun n13 S9 s10 ir11 hn14 => ?_)))
      have sh12 := SM.tr sh s10 (by decide)
      refine e_ifN (by omega) (fun h15 => ?_) (fun h15 => ?_)
      · refine e_cN 0 rfl ?_
        exact e_rZ (by omega) (K 0 _ sh12 ir11 (by omega))
      · obtain ⟨q16, rfl⟩ : ∃ q, n = q + 1 := ⟨n - 1, by omega⟩
        refine u_X8_isAsMeant_87 ?_
        unfold bX8_isAsMeant_87
        refine e_inc g1 ?_
        exact t_56 q16 (by omega) _ _ (i1 + 1) (lvg_ne g0 rfl (by decide)) lvg_self (by omega) sh12 ir11 (by omega)
    · obtain ⟨q17, rfl⟩ : ∃ q, n = q + 1 := ⟨n - 1, by omega⟩
      refine u_X8_isAsMeant_87 ?_
      unfold bX8_isAsMeant_87
      refine e_inc g1 ?_
      exact t_56 q17 (by omega) _ _ (i1 + 1) (lvg_ne g0 rfl (by decide)) lvg_self (by omega) sh im (by omega)
theorem A_X8_isAsMeant {Q : Option Value → MM → Prop} {S0 : MM} {m : Nat} {A : Nat → Nat} (hM : MS S0 m A) (hR : RV S0 A) (K : ∀ j S', SM [] m A S0 S' → IM S' m A → j < 2 → Q (some (.int (nI j))) S') : ∀ n k, k ≤ n → P_X8_isAsMeant_0 Q S0 m A k ∧ P_X8_isAsMeant_2 Q S0 m A k ∧ P_X8_isAsMeant_56 Q S0 m A k := by
  intro n
  induction n with
  | zero =>
    intro k hk
    have e : k = 0 := by omega
    subst e
    exact ⟨(fun lv S  _ _ _ hF => absurd hF (by omega)), (fun lv S i1 _ _ _ _ _ hF => absurd hF (by omega)), (fun lv S i1 _ _ _ _ _ hF => absurd hF (by omega))⟩
  | succ n ih =>
    intro k hk
    by_cases hn : k ≤ n
    · exact ih k hn
    · have e : k = n + 1 := by omega
      subst e
      have T_0 : ∀ k, k ≤ n → P_X8_isAsMeant_0 Q S0 m A k := fun k hk => (ih k hk).1
      have T_2 : ∀ k, k ≤ n → P_X8_isAsMeant_2 Q S0 m A k := fun k hk => (ih k hk).2.1
      have T_56 : ∀ k, k ≤ n → P_X8_isAsMeant_56 Q S0 m A k := fun k hk => (ih k hk).2.2
      exact ⟨B_X8_isAsMeant_0 hM hR K T_2, B_X8_isAsMeant_2 hM hR K T_2 T_56, B_X8_isAsMeant_56 hM hR K T_56⟩
theorem z_X8_isAsMeant {Q : Option Value → MM → Prop} {S0 : MM} {m : Nat} {A : Nat → Nat}  (hM : MS S0 m A) (hR : RV S0 A) (im : IM S0 m A)  (K : ∀ j S', SM [] m A S0 S' → IM S' m A → j < 2 → Q (some (.int (nI j))) S') : wX8_isAsMeant [.ref m] S0 Q := by
  exact Exists.intro 9765 ((A_X8_isAsMeant hM hR K 9765 9765 (Nat.le_refl _)).1 _ S0  rfl SM.rf im (by omega))
