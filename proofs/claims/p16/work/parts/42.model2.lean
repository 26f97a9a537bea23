theorem u_X8_fits_0 {Q : Option Value → MM → Prop} {n : Nat} {lv : Lv} {st : List Value} {S : MM} {c z : Nat} (h : bX8_fits_0 Q (wpn (kX8_fits Q) n) lv st S c z) : wpn (kX8_fits Q) (n + 1) 0 lv st S c z := h
theorem u_X8_fits_20 {Q : Option Value → MM → Prop} {n : Nat} {lv : Lv} {st : List Value} {S : MM} {c z : Nat} (h : bX8_fits_20 Q (wpn (kX8_fits Q) n) lv st S c z) : wpn (kX8_fits Q) (n + 1) 20 lv st S c z := h
theorem u_X8_fits_66 {Q : Option Value → MM → Prop} {n : Nat} {lv : Lv} {st : List Value} {S : MM} {c z : Nat} (h : bX8_fits_66 Q (wpn (kX8_fits Q) n) lv st S c z) : wpn (kX8_fits Q) (n + 1) 66 lv st S c z := h
theorem u_X8_fits_67 {Q : Option Value → MM → Prop} {n : Nat} {lv : Lv} {st : List Value} {S : MM} {c z : Nat} (h : bX8_fits_67 Q (wpn (kX8_fits Q) n) lv st S c z) : wpn (kX8_fits Q) (n + 1) 67 lv st S c z := h
def P_X8_fits_0 (Q : Option Value → MM → Prop) (S0 : MM) (m : Nat) (A : Nat → Nat) (n : Nat) : Prop := ∀ (lv : Lv) (S : MM) (i1 : Nat), lvg lv 0 = some (.ref m) → lvg lv 1 = some (.int (nI i1)) → i1 < 16 → SM [] m A S0 S → IM S m A → 62 ≤ n → wpn (kX8_fits Q) n 0 lv [] S 0 0
def P_X8_fits_20 (Q : Option Value → MM → Prop) (S0 : MM) (m : Nat) (A : Nat → Nat) (n : Nat) : Prop := ∀ (lv : Lv) (S : MM) (i1 : Nat), lvg lv 0 = some (.ref m) → lvg lv 1 = some (.int (nI i1)) → i1 < 16 → SM [] m A S0 S → IM S m A → 31 ≤ n → wpn (kX8_fits Q) n 20 lv [] S 0 0
theorem B_X8_fits_0 {Q : Option Value → MM → Prop} {S0 : MM} {m : Nat} {A : Nat → Nat} {n : Nat} (hM : MS S0 m A) (K : ∀ j S', SM [] m A S0 S' → IM S' m A → j < 2 → Q (some (.int (nI j))) S') (t_20 : ∀ k, k ≤ n → P_X8_fits_20 Q S0 m A k) : P_X8_fits_0 Q S0 m A (n + 1) := by
  intro lv S i1 g0 g1 h1 sh im hF
  refine u_X8_fits_0 ?_
  unfold bX8_fits_0
  refine e_ldA g0 ?_
  refine e_gR (SM_k sh hM.1) (SM_r sh (hM.2.1 7 (by decide)).1) ?_
  refine e_ldI g1 ?_
  refine e_aI (N := 16) (SM_k sh (hM.2.1 7 (by decide)).2.1) (SM_n sh (hM.2.1 7 (by decide)).2.2.1) (by omega) (by decide) (fun v1 hv2 => ?_)
  refine e_cN 1 rfl ?_
  refine e_ifc ?_ ?_
  · exact t_20 n (by omega) _ _ i1 g0 g1 (by omega) sh im (by omega)
  · refine e_ldA g0 ?_
    refine e_gR (SM_k sh hM.1) (SM_r sh (hM.2.1 7 (by decide)).1) ?_
    refine e_ldI g1 ?_
    refine e_aI (N := 16) (SM_k sh (hM.2.1 7 (by decide)).2.1) (SM_n sh (hM.2.1 7 (by decide)).2.2.1) (by omega) (by decide) (fun v3 hv4 => ?_)
    refine e_cN 2 rfl ?_
    refine e_ifc ?_ ?_
    · exact t_20 n (by omega) _ _ i1 g0 g1 (by omega) sh im (by omega)
    · obtain ⟨q5, rfl⟩ : ∃ q, n = q + 1 := ⟨n - 1, by omega⟩
      refine u_X8_fits_66 ?_
      unfold bX8_fits_66
      refine e_cN 0 rfl ?_
      obtain ⟨q6, rfl⟩ : ∃ q, q5 = q + 1 := ⟨q5 - 1, by omega⟩
      refine u_X8_fits_67 ?_
      unfold bX8_fits_67
      exact e_rZ (by omega) (K 0 _ sh im (by omega))
theorem B_X8_fits_20 {Q : Option Value → MM → Prop} {S0 : MM} {m : Nat} {A : Nat → Nat} {n : Nat} (hM : MS S0 m A) (K : ∀ j S', SM [] m A S0 S' → IM S' m A → j < 2 → Q (some (.int (nI j))) S')  : P_X8_fits_20 Q S0 m A (n + 1) := by
  intro lv S i1 g0 g1 h1 sh im hF
  refine u_X8_fits_20 ?_
  unfold bX8_fits_20
  refine e_ldA g0 ?_
  refine e_gR (SM_k sh hM.1) (SM_r sh (hM.2.1 3 (by decide)).1) ?_
  refine e_ldI g1 ?_
  refine e_aI (N := 16) (SM_k sh (hM.2.1 3 (by decide)).2.1) (SM_n sh (hM.2.1 3 (by decide)).2.2.1) (by omega) (by decide) (fun v1 hv2 => ?_)
  refine e_ifz ?_ ?_
  · obtain ⟨q3, rfl⟩ : ∃ q, n = q + 1 := ⟨n - 1, by omega⟩
    refine u_X8_fits_66 ?_
    unfold bX8_fits_66
    refine e_cN 0 rfl ?_
    obtain ⟨q4, rfl⟩ : ∃ q, q3 = q + 1 := ⟨q3 - 1, by omega⟩
    refine u_X8_fits_67 ?_
    unfold bX8_fits_67
    exact e_rZ (by omega) (K 0 _ sh im (by omega))
  · refine e_ldA g0 ?_
    refine e_gR (SM_k sh hM.1) (SM_r sh (hM.2.1 18 (by decide)).1) ?_
    refine e_cN 5 rfl ?_
    refine e_ldI g1 ?_
    refine e_mul ?_
    refine e_aI (N := 80) (SM_k sh (hM.2.1 18 (by decide)).2.1) (SM_n sh (hM.2.1 18 (by decide)).2.2.1) (by omega) (by decide) (fun v5 hv6 => ?_)
    refine e_ifz ?_ ?_
    · obtain ⟨q7, rfl⟩ : ∃ q, n = q + 1 := ⟨n - 1, by omega⟩
      refine u_X8_fits_66 ?_
      unfold bX8_fits_66
      refine e_cN 0 rfl ?_
      obtain ⟨q8, rfl⟩ : ∃ q, q7 = q + 1 := ⟨q7 - 1, by omega⟩
      refine u_X8_fits_67 ?_
      unfold bX8_fits_67
      exact e_rZ (by omega) (K 0 _ sh im (by omega))
    · refine e_ldA g0 ?_
      refine e_gR (SM_k sh hM.1) (SM_r sh (hM.2.1 18 (by decide)).1) ?_
      refine e_cN 5 rfl ?_
      refine e_ldI g1 ?_
      refine e_mul ?_
      refine e_cN 1 rfl ?_
      refine e_add ?_
      refine e_aI (N := 80) (SM_k sh (hM.2.1 18 (by decide)).2.1) (SM_n sh (hM.2.1 18 (by decide)).2.2.1) (by omega) (by decide) (fun v9 hv10 => ?_)
      refine e_ifz ?_ ?_
      · obtain ⟨q11, rfl⟩ : ∃ q, n = q + 1 := ⟨n - 1, by omega⟩
        refine u_X8_fits_66 ?_
        unfold bX8_fits_66
        refine e_cN 0 rfl ?_
        obtain ⟨q12, rfl⟩ : ∃ q, q11 = q + 1 := ⟨q11 - 1, by omega⟩
        refine u_X8_fits_67 ?_
        unfold bX8_fits_67
        exact e_rZ (by omega) (K 0 _ sh im (by omega))
      · refine e_ldA g0 ?_
        refine e_ldI g1 ?_
        refine e_cN 4 rfl ?_
        refine And.intro (SM_k sh hM.1) (And.intro ⟨by decide, by decide⟩ (z_X8_isPartner (MS_SM hM sh) im (show i1 < 16 by omega) (fun n17 S13 s14 ir15 hn18 => ?_)))
        have sh16 := SM.tr sh s14 (by decide)
        refine e_ifN (by omega) (fun h19 => ?_) (fun h19 => ?_)
        · obtain ⟨q20, rfl⟩ : ∃ q, n = q + 1 := ⟨n - 1, by omega⟩
          refine u_X8_fits_66 ?_
          unfold bX8_fits_66
          refine e_cN 0 rfl ?_
          obtain ⟨q21, rfl⟩ : ∃ q, q20 = q + 1 := ⟨q20 - 1, by omega⟩
          refine u_X8_fits_67 ?_
          unfold bX8_fits_67
          exact e_rZ (by omega) (K 0 _ sh16 ir15 (by omega))
        · refine e_cN 1 rfl ?_
          obtain ⟨q22, rfl⟩ : ∃ q, n = q + 1 := ⟨n - 1, by omega⟩
          refine u_X8_fits_67 ?_
          unfold bX8_fits_67
          exact e_rZ (by omega) (K 1 _ sh16 ir15 (by omega))
theorem A_X8_fits {Q : Option Value → MM → Prop} {S0 : MM} {m : Nat} {A : Nat → Nat} (hM : MS S0 m A) (K : ∀ j S', SM [] m A S0 S' → IM S' m A → j < 2 → Q (some (.int (nI j))) S') : ∀ n k, k ≤ n → P_X8_fits_0 Q S0 m A k ∧ P_X8_fits_20 Q S0 m A k := by
  intro n
  induction n with
  | zero =>
    intro k hk
    have e : k = 0 := by omega
    subst e
    exact ⟨(fun lv S i1 _ _ _ _ _ hF => absurd hF (by omega)), (fun lv S i1 _ _ _ _ _ hF => absurd hF (by omega))⟩
  | succ n ih =>
    intro k hk
    by_cases hn : k ≤ n
    · exact ih k hn
    · have e : k = n + 1 := by omega
      subst e
      have T_0 : ∀ k, k ≤ n → P_X8_fits_0 Q S0 m A k := fun k hk => (ih k hk).1
      have T_20 : ∀ k, k ≤ n → P_X8_fits_20 Q S0 m A k := fun k hk => (ih k hk).2
      exact ⟨B_X8_fits_0 hM K T_20, B_X8_fits_20 hM K ⟩
theorem z_X8_fits {Q : Option Value → MM → Prop} {S0 : MM} {m : Nat} {A : Nat → Nat} {i1 : Nat} (hM : MS S0 m A) (im : IM S0 m A) (h1 : i1 < 16) (K : ∀ j S', SM [] m A S0 S' → IM S' m A → j < 2 → Q (some (.int (nI j))) S') : wX8_fits [.ref m, .int (nI i1)] S0 Q := by
  exact Exists.intro 62 ((A_X8_fits hM K 62 62 (Nat.le_refl _)).1 _ S0 i1 rfl rfl h1 SM.rf im (by omega))
theorem u_X8_areLike_0 {Q : Option Value → MM → Prop} {n : Nat} {lv : Lv} {st : List Value} {S : MM} {c z : Nat} (h : bX8_areLike_0 Q (wpn (kX8_areLike Q) n) lv st S c z) : wpn (kX8_areLike Q) (n + 1) 0 lv st S c z := h
theorem u_X8_areLike_61 {Q : Option Value → MM → Prop} {n : Nat} {lv : Lv} {st : List Value} {S : MM} {c z : Nat} (h : bX8_areLike_61 Q (wpn (kX8_areLike Q) n) lv st S c z) : wpn (kX8_areLike Q) (n + 1) 61 lv st S c z := h
theorem u_X8_areLike_62 {Q : Option Value → MM → Prop} {n : Nat} {lv : Lv} {st : List Value} {S : MM} {c z : Nat} (h : bX8_areLike_62 Q (wpn (kX8_areLike Q) n) lv st S c z) : wpn (kX8_areLike Q) (n + 1) 62 lv st S c z := h
theorem z_X8_areLike {Q : Option Value → MM → Prop} {S0 : MM} {m : Nat} {A : Nat → Nat} {i1 : Nat} {i2 : Nat} (hM : MS S0 m A) (im : IM S0 m A) (h1 : i1 < 16) (h2 : i2 < 16) (K : ∀ j S', SM [] m A S0 S' → IM S' m A → j < 2 → Q (some (.int (nI j))) S') : wX8_areLike [.ref m, .int (nI i1), .int (nI i2)] S0 Q := by
  have sh : SM [] m A S0 S0 := SM.rf
  refine Exists.intro 60 (u_X8_areLike_0 ?_)
  unfold bX8_areLike_0
  refine e_ldA rfl ?_
  refine e_gR (SM_k sh hM.1) (SM_r sh (hM.2.1 3 (by decide)).1) ?_
  refine e_ldI rfl ?_
  refine e_aI (N := 16) (SM_k sh (hM.2.1 3 (by decide)).2.1) (SM_n sh (hM.2.1 3 (by decide)).2.2.1) (by omega) (by decide) (fun v1 hv2 => ?_)
  refine e_ldA rfl ?_
  refine e_gR (SM_k sh hM.1) (SM_r sh (hM.2.1 3 (by decide)).1) ?_
  refine e_ldI rfl ?_
  refine e_aI (N := 16) (SM_k sh (hM.2.1 3 (by decide)).2.1) (SM_n sh (hM.2.1 3 (by decide)).2.2.1) (by omega) (by decide) (fun v3 hv4 => ?_)
  refine e_ifc ?_ ?_
  · refine e_ldA rfl ?_
    refine e_gR (SM_k sh hM.1) (SM_r sh (hM.2.1 18 (by decide)).1) ?_
    refine e_cN 5 rfl ?_
    refine e_ldI rfl ?_
    refine e_mul ?_
    refine e_aI (N := 80) (SM_k sh (hM.2.1 18 (by decide)).2.1) (SM_n sh (hM.2.1 18 (by decide)).2.2.1) (by omega) (by decide) (fun v5 hv6 => ?_)
    refine e_ldA rfl ?_
    refine e_gR (SM_k sh hM.1) (SM_r sh (hM.2.1 18 (by decide)).1) ?_
    refine e_cN 5 rfl ?_
    refine e_ldI rfl ?_
    refine e_mul ?_
    refine e_aI (N := 80) (SM_k sh (hM.2.1 18 (by decide)).2.1) (SM_n sh (hM.2.1 18 (by decide)).2.2.1) (by omega) (by decide) (fun v7 hv8 => ?_)
    refine e_ifc ?_ ?_
    · refine e_ldA rfl ?_
      refine e_gR (SM_k sh hM.1) (SM_r sh (hM.2.1 18 (by decide)).1) ?_
      refine e_cN 5 rfl ?_
      refine e_ldI rfl ?_
      refine e_mul ?_
      refine e_cN 1 rfl ?_
      refine e_add ?_
      refine e_aI (N := 80) (SM_k sh (hM.2.1 18 (by decide)).2.1) (SM_n sh (hM.2.1 18 (by decide)).2.2.1) (by omega) (by decide) (fun v9 hv10 => ?_)
      refine e_ldA rfl ?_
      refine e_gR (SM_k sh hM.1) (SM_r sh (hM.2.1 18 (by decide)).1) ?_
      refine e_cN 5 rfl ?_
      refine e_ldI rfl ?_
      refine e_mul ?_
      refine e_cN 1 rfl ?_
      refine e_add ?_
      refine e_aI (N := 80) (SM_k sh (hM.2.1 18 (by decide)).2.1) (SM_n sh (hM.2.1 18 (by decide)).2.2.1) (by omega) (by decide) (fun v11 hv12 => ?_)
      refine e_ifc ?_ ?_
      · refine e_cN 1 rfl ?_
        refine u_X8_areLike_62 ?_
        unfold bX8_areLike_62
        exact e_rZ (by omega) (K 1 _ sh im (by omega))
      · refine u_X8_areLike_61 ?_
        unfold bX8_areLike_61
        refine e_cN 0 rfl ?_
        refine u_X8_areLike_62 ?_
        unfold bX8_areLike_62
        exact e_rZ (by omega) (K 0 _ sh im (by omega))
    · refine u_X8_areLike_61 ?_
      unfold bX8_areLike_61
      refine e_cN 0 rfl ?_
      refine u_X8_areLike_62 ?_
      unfold bX8_areLike_62
      exact e_rZ (by omega) (K 0 _ sh im (by omega))
  · refine u_X8_areLike_61 ?_
    unfold bX8_areLike_61
    refine e_cN 0 rfl ?_
    refine u_X8_areLike_62 ?_
    unfold bX8_areLike_62
    exact e_rZ (by omega) (K 0 _ sh im (by omega))
theorem u_X8_isAhead_0 {Q : Option Value → MM → Prop} {n : Nat} {lv : Lv} {st : List Value} {S : MM} {c z : Nat} (h : bX8_isAhead_0 Q (wpn (kX8_isAhead Q) n) lv st S c z) : wpn (kX8_isAhead Q) (n + 1) 0 lv st S c z := h
theorem u_X8_isAhead_15 {Q : Option Value → MM → Prop} {n : Nat} {lv : Lv} {st : List Value} {S : MM} {c z : Nat} (h : bX8_isAhead_15 Q (wpn (kX8_isAhead Q) n) lv st S c z) : wpn (kX8_isAhead Q) (n + 1) 15 lv st S c z := h
theorem u_X8_isAhead_16 {Q : Option Value → MM → Prop} {n : Nat} {lv : Lv} {st : List Value} {S : MM} {c z : Nat} (h : bX8_isAhead_16 Q (wpn (kX8_isAhead Q) n) lv st S c z) : wpn (kX8_isAhead Q) (n + 1) 16 lv st S c z := h
theorem u_X8_isAhead_30 {Q : Option Value → MM → Prop} {n : Nat} {lv : Lv} {st : List Value} {S : MM} {c z : Nat} (h : bX8_isAhead_30 Q (wpn (kX8_isAhead Q) n) lv st S c z) : wpn (kX8_isAhead Q) (n + 1) 30 lv st S c z := h
theorem u_X8_isAhead_40 {Q : Option Value → MM → Prop} {n : Nat} {lv : Lv} {st : List Value} {S : MM} {c z : Nat} (h : bX8_isAhead_40 Q (wpn (kX8_isAhead Q) n) lv st S c z) : wpn (kX8_isAhead Q) (n + 1) 40 lv st S c z := h
theorem u_X8_isAhead_55 {Q : Option Value → MM → Prop} {n : Nat} {lv : Lv} {st : List Value} {S : MM} {c z : Nat} (h : bX8_isAhead_55 Q (wpn (kX8_isAhead Q) n) lv st S c z) : wpn (kX8_isAhead Q) (n + 1) 55 lv st S c z := h
theorem u_X8_isAhead_65 {Q : Option Value → MM → Prop} {n : Nat} {lv : Lv} {st : List Value} {S : MM} {c z : Nat} (h : bX8_isAhead_65 Q (wpn (kX8_isAhead Q) n) lv st S c z) : wpn (kX8_isAhead Q) (n + 1) 65 lv st S c z := h
theorem u_X8_isAhead_75 {Q : Option Value → MM → Prop} {n : Nat} {lv : Lv} {st : List Value} {S : MM} {c z : Nat} (h : bX8_isAhead_75 Q (wpn (kX8_isAhead Q) n) lv st S c z) : wpn (kX8_isAhead Q) (n + 1) 75 lv st S c z := h
theorem u_X8_isAhead_85 {Q : Option Value → MM → Prop} {n : Nat} {lv : Lv} {st : List Value} {S : MM} {c z : Nat} (h : bX8_isAhead_85 Q (wpn (kX8_isAhead Q) n) lv st S c z) : wpn (kX8_isAhead Q) (n + 1) 85 lv st S c z := h
theorem u_X8_isAhead_95 {Q : Option Value → MM → Prop} {n : Nat} {lv : Lv} {st : List Value} {S : MM} {c z : Nat} (h : bX8_isAhead_95 Q (wpn (kX8_isAhead Q) n) lv st S c z) : wpn (kX8_isAhead Q) (n + 1) 95 lv st S c z := h
theorem u_X8_isAhead_105 {Q : Option Value → MM → Prop} {n : Nat} {lv : Lv} {st : List Value} {S : MM} {c z : Nat} (h : bX8_isAhead_105 Q (wpn (kX8_isAhead Q) n) lv st S c z) : wpn (kX8_isAhead Q) (n + 1) 105 lv st S c z := h
theorem u_X8_isAhead_125 {Q : Option Value → MM → Prop} {n : Nat} {lv : Lv} {st : List Value} {S : MM} {c z : Nat} (h : bX8_isAhead_125 Q (wpn (kX8_isAhead Q) n) lv st S c z) : wpn (kX8_isAhead Q) (n + 1) 125 lv st S c z := h
theorem u_X8_isAhead_129 {Q : Option Value → MM → Prop} {n : Nat} {lv : Lv} {st : List Value} {S : MM} {c z : Nat} (h : bX8_isAhead_129 Q (wpn (kX8_isAhead Q) n) lv st S c z) : wpn (kX8_isAhead Q) (n + 1) 129 lv st S c z := h
theorem u_X8_isAhead_147 {Q : Option Value → MM → Prop} {n : Nat} {lv : Lv} {st : List Value} {S : MM} {c z : Nat} (h : bX8_isAhead_147 Q (wpn (kX8_isAhead Q) n) lv st S c z) : wpn (kX8_isAhead Q) (n + 1) 147 lv st S c z := h
theorem u_X8_isAhead_151 {Q : Option Value → MM → Prop} {n : Nat} {lv : Lv} {st : List Value} {S : MM} {c z : Nat} (h : bX8_isAhead_151 Q (wpn (kX8_isAhead Q) n) lv st S c z) : wpn (kX8_isAhead Q) (n + 1) 151 lv st S c z := h
theorem u_X8_isAhead_160 {Q : Option Value → MM → Prop} {n : Nat} {lv : Lv} {st : List Value} {S : MM} {c z : Nat} (h : bX8_isAhead_160 Q (wpn (kX8_isAhead Q) n) lv st S c z) : wpn (kX8_isAhead Q) (n + 1) 160 lv st S c z := h
theorem u_X8_isAhead_161 {Q : Option Value → MM → Prop} {n : Nat} {lv : Lv} {st : List Value} {S : MM} {c z : Nat} (h : bX8_isAhead_161 Q (wpn (kX8_isAhead Q) n) lv st S c z) : wpn (kX8_isAhead Q) (n + 1) 161 lv st S c z := h
def P_X8_isAhead_0 (Q : Option Value → MM → Prop) (S0 : MM) (m : Nat) (A : Nat → Nat) (n : Nat) : Prop := ∀ (lv : Lv) (S : MM) (i1 : Nat) (i2 : Nat), lvg lv 0 = some (.ref m) → lvg lv 1 = some (.int (nI i1)) → i1 < 16 → lvg lv 2 = some (.int (nI i2)) → i2 < 16 → SM [] m A S0 S → IM S m A → 186 ≤ n → wpn (kX8_isAhead Q) n 0 lv [] S 0 0
def P_X8_isAhead_16 (Q : Option Value → MM → Prop) (S0 : MM) (m : Nat) (A : Nat → Nat) (n : Nat) : Prop := ∀ (lv : Lv) (S : MM) (i1 : Nat) (i2 : Nat) (is0 : Nat), lvg lv 0 = some (.ref m) → lvg lv 1 = some (.int (nI i1)) → i1 < 16 → lvg lv 2 = some (.int (nI i2)) → i2 < 16 → is0 < 2 → SM [] m A S0 S → IM S m A → 155 ≤ n → wpn (kX8_isAhead Q) n 16 lv [.int (nI is0)] S 0 0
def P_X8_isAhead_40 (Q : Option Value → MM → Prop) (S0 : MM) (m : Nat) (A : Nat → Nat) (n : Nat) : Prop := ∀ (lv : Lv) (S : MM) (i1 : Nat) (i2 : Nat) (i3 : Nat) (ws0 : Int32), lvg lv 0 = some (.ref m) → lvg lv 1 = some (.int (nI i1)) → i1 < 16 → lvg lv 2 = some (.int (nI i2)) → i2 < 16 → lvg lv 3 = some (.int (nI i3)) → i3 < 2 → SM [] m A S0 S → IM S m A → 124 ≤ n → wpn (kX8_isAhead Q) n 40 lv [.int ws0] S 0 0
def P_X8_isAhead_65 (Q : Option Value → MM → Prop) (S0 : MM) (m : Nat) (A : Nat → Nat) (n : Nat) : Prop := ∀ (lv : Lv) (S : MM) (i1 : Nat) (i2 : Nat) (i3 : Nat) (w4 : Int32) (ws0 : Int32), lvg lv 0 = some (.ref m) → lvg lv 1 = some (.int (nI i1)) → i1 < 16 → lvg lv 2 = some (.int (nI i2)) → i2 < 16 → lvg lv 3 = some (.int (nI i3)) → i3 < 2 → lvg lv 4 = some (.int w4) → SM [] m A S0 S → IM S m A → 93 ≤ n → wpn (kX8_isAhead Q) n 65 lv [.int ws0] S 0 0
def P_X8_isAhead_85 (Q : Option Value → MM → Prop) (S0 : MM) (m : Nat) (A : Nat → Nat) (n : Nat) : Prop := ∀ (lv : Lv) (S : MM) (i1 : Nat) (i2 : Nat) (i3 : Nat) (w4 : Int32) (w5 : Int32) (ws0 : Int32), lvg lv 0 = some (.ref m) → lvg lv 1 = some (.int (nI i1)) → i1 < 16 → lvg lv 2 = some (.int (nI i2)) → i2 < 16 → lvg lv 3 = some (.int (nI i3)) → i3 < 2 → lvg lv 4 = some (.int w4) → lvg lv 5 = some (.int w5) → SM [] m A S0 S → IM S m A → 62 ≤ n → wpn (kX8_isAhead Q) n 85 lv [.int ws0] S 0 0
def P_X8_isAhead_105 (Q : Option Value → MM → Prop) (S0 : MM) (m : Nat) (A : Nat → Nat) (n : Nat) : Prop := ∀ (lv : Lv) (S : MM) (i1 : Nat) (i2 : Nat) (i3 : Nat) (w4 : Int32) (w5 : Int32) (w6 : Int32) (ws0 : Int32), lvg lv 0 = some (.ref m) → lvg lv 1 = some (.int (nI i1)) → i1 < 16 → lvg lv 2 = some (.int (nI i2)) → i2 < 16 → lvg lv 3 = some (.int (nI i3)) → i3 < 2 → lvg lv 4 = some (.int w4) → lvg lv 5 = some (.int w5) → lvg lv 6 = some (.int w6) → SM [] m A S0 S → IM S m A → 31 ≤ n → wpn (kX8_isAhead Q) n 105 lv [.int ws0] S 0 0
theorem B_X8_isAhead_0 {Q : Option Value → MM → Prop} {S0 : MM} {m : Nat} {A : Nat → Nat} {n : Nat} (hM : MS S0 m A) (K : ∀ j S', SM [] m A S0 S' → IM S' m A → j < 2 → Q (some (.int (nI j))) S') (t_16 : ∀ k, k ≤ n → P_X8_isAhead_16 Q S0 m A k) : P_X8_isAhead_0 Q S0 m A (n + 1) := by
  intro lv S i1 i2 g0 g1 h1 g2 h2 sh im hF
  refine u_X8_isAhead_0 ?_
  unfold bX8_isAhead_0
  refine e_ldI g1 ?_
  refine e_cN 8 rfl ?_
  refine e_div (by omega) (by decide) (by decide) ?_
  refine e_ldA g0 ?_
  refine And.intro (SM_k sh hM.1) (And.intro ⟨by decide, by decide⟩ (z_X8_stronger (MS_SM hM sh) im (fun n5 S1 s2 ir3 hn6 => ?_)))
  have sh4 := SM.tr sh s2 (by decide)
  refine e_eq (by omega) (by omega) (fun h7 => ?_) (fun h7 => ?_)
  · refine e_cN 1 rfl ?_
    exact t_16 n (by omega) _ _ i1 i2 1 g0 g1 (by omega) g2 (by omega) (by omega) sh4 ir3 (by omega)
  · obtain ⟨q8, rfl⟩ : ∃ q, n = q + 1 := ⟨n - 1, by omega⟩
    refine u_X8_isAhead_15 ?_
    unfold bX8_isAhead_15
    refine e_cN 0 rfl ?_
    exact t_16 q8 (by omega) _ _ i1 i2 0 g0 g1 (by omega) g2 (by omega) (by omega) sh4 ir3 (by omega)
theorem B_X8_isAhead_16 {Q : Option Value → MM → Prop} {S0 : MM} {m : Nat} {A : Nat → Nat} {n : Nat} (hM : MS S0 m A) (K : ∀ j S', SM [] m A S0 S' → IM S' m A → j < 2 → Q (some (.int (nI j))) S') (t_40 : ∀ k, k ≤ n → P_X8_isAhead_40 Q S0 m A k) : P_X8_isAhead_16 Q S0 m A (n + 1) := by
  intro lv S i1 i2 is0 g0 g1 h1 g2 h2 hs0 sh im hF
  refine u_X8_isAhead_16 ?_
  unfold bX8_isAhead_16
  refine e_stI ?_
  refine e_ldI lvg_self ?_
  refine e_ifN (by omega) (fun h1 => ?_) (fun h1 => ?_)
  · obtain ⟨q2, rfl⟩ : ∃ q, n = q + 1 := ⟨n - 1, by omega⟩
    refine u_X8_isAhead_30 ?_
    unfold bX8_isAhead_30
    refine e_ldA (lvg_ne g0 rfl (by decide)) ?_
    refine e_gR (SM_k sh hM.1) (SM_r sh (hM.2.1 18 (by decide)).1) ?_
    refine e_cN 5 rfl ?_
    refine e_ldI (lvg_ne g1 rfl (by decide)) ?_
    refine e_mul ?_
    refine e_cN 2 rfl ?_
    refine e_add ?_
    refine e_aI (N := 80) (SM_k sh (hM.2.1 18 (by decide)).2.1) (SM_n sh (hM.2.1 18 (by decide)).2.2.1) (by omega) (by decide) (fun v3 hv4 => ?_)
    exact t_40 q2 (by omega) _ _ i1 i2 is0 _ (lvg_ne g0 rfl (by decide)) (lvg_ne g1 rfl (by decide)) (by omega) (lvg_ne g2 rfl (by decide)) (by omega) lvg_self (by omega) sh im (by omega)
  · refine e_ldA (lvg_ne g0 rfl (by decide)) ?_
    refine e_gR (SM_k sh hM.1) (SM_r sh (hM.2.1 4 (by decide)).1) ?_
    refine e_ldI (lvg_ne g1 rfl (by decide)) ?_
    refine e_aI (N := 16) (SM_k sh (hM.2.1 4 (by decide)).2.1) (SM_n sh (hM.2.1 4 (by decide)).2.2.1) (by omega) (by decide) (fun v5 hv6 => ?_)
    exact t_40 n (by omega) _ _ i1 i2 is0 _ (lvg_ne g0 rfl (by decide)) (lvg_ne g1 rfl (by decide)) (by omega) (lvg_ne g2 rfl (by decide)) (by omega) lvg_self (by omega) sh im (by omega)
theorem B_X8_isAhead_40 {Q : Option Value → MM → Prop} {S0 : MM} {m : Nat} {A : Nat → Nat} {n : Nat} (hM : MS S0 m A) (K : ∀ j S', SM [] m A S0 S' → IM S' m A → j < 2 → Q (some (.int (nI j))) S') (t_65 : ∀ k, k ≤ n → P_X8_isAhead_65 Q S0 m A k) : P_X8_isAhead_40 Q S0 m A (n + 1) := by
  intro lv S i1 i2 i3 ws0 g0 g1 h1 g2 h2 g3 h3 sh im hF
  refine u_X8_isAhead_40 ?_
  unfold bX8_isAhead_40
  refine e_stI ?_
  refine e_ldI (lvg_ne g3 rfl (by decide)) ?_
  refine e_ifN (by omega) (fun h1 => ?_) (fun h1 => ?_)
  · obtain ⟨q2, rfl⟩ : ∃ q, n = q + 1 := ⟨n - 1, by omega⟩
    refine u_X8_isAhead_55 ?_
    unfold bX8_isAhead_55
    refine e_ldA (lvg_ne g0 rfl (by decide)) ?_
    refine e_gR (SM_k sh hM.1) (SM_r sh (hM.2.1 18 (by decide)).1) ?_
    refine e_cN 5 rfl ?_
    refine e_ldI (lvg_ne g2 rfl (by decide)) ?_
    refine e_mul ?_
    refine e_cN 2 rfl ?_
    refine e_add ?_
    refine e_aI (N := 80) (SM_k sh (hM.2.1 18 (by decide)).2.1) (SM_n sh (hM.2.1 18 (by decide)).2.2.1) (by omega) (by decide) (fun v3 hv4 => ?_)
    exact t_65 q2 (by omega) _ _ i1 i2 i3 _ _ (lvg_ne g0 rfl (by decide)) (lvg_ne g1 rfl (by decide)) (by omega) (lvg_ne g2 rfl (by decide)) (by omega) (lvg_ne g3 rfl (by decide)) (by omega) lvg_self sh im (by omega)
  · refine e_ldA (lvg_ne g0 rfl (by decide)) ?_
    refine e_gR (SM_k sh hM.1) (SM_r sh (hM.2.1 4 (by decide)).1) ?_
    refine e_ldI (lvg_ne g2 rfl (by decide)) ?_
    refine e_aI (N := 16) (SM_k sh (hM.2.1 4 (by decide)).2.1) (SM_n sh (hM.2.1 4 (by decide)).2.2.1) (by omega) (by decide) (fun v5 hv6 => ?_)
    exact t_65 n (by omega) _ _ i1 i2 i3 _ _ (lvg_ne g0 rfl (by decide)) (lvg_ne g1 rfl (by decide)) (by omega) (lvg_ne g2 rfl (by decide)) (by omega) (lvg_ne g3 rfl (by decide)) (by omega) lvg_self sh im (by omega)
theorem B_X8_isAhead_65 {Q : Option Value → MM → Prop} {S0 : MM} {m : Nat} {A : Nat → Nat} {n : Nat} (hM : MS S0 m A) (K : ∀ j S', SM [] m A S0 S' → IM S' m A → j < 2 → Q (some (.int (nI j))) S') (t_85 : ∀ k, k ≤ n → P_X8_isAhead_85 Q S0 m A k) : P_X8_isAhead_65 Q S0 m A (n + 1) := by
  intro lv S i1 i2 i3 w4 ws0 g0 g1 h1 g2 h2 g3 h3 g4 sh im hF
  refine u_X8_isAhead_65 ?_
  unfold bX8_isAhead_65
  refine e_stI ?_
  refine e_ldI (lvg_ne g3 rfl (by decide)) ?_
  refine e_ifN (by omega) (fun h1 => ?_) (fun h1 => ?_)
  · obtain ⟨q2, rfl⟩ : ∃ q, n = q + 1 := ⟨n - 1, by omega⟩
    refine u_X8_isAhead_75 ?_
    unfold bX8_isAhead_75
    refine e_ldA (lvg_ne g0 rfl (by decide)) ?_
    refine e_gR (SM_k sh hM.1) (SM_r sh (hM.2.1 18 (by decide)).1) ?_
    refine e_cN 5 rfl ?_
    refine e_ldI (lvg_ne g1 rfl (by decide)) ?_
    refine e_mul ?_
    refine e_cN 3 rfl ?_
    refine e_add ?_
    refine e_aI (N := 80) (SM_k sh (hM.2.1 18 (by decide)).2.1) (SM_n sh (hM.2.1 18 (by decide)).2.2.1) (by omega) (by decide) (fun v3 hv4 => ?_)
    exact t_85 q2 (by omega) _ _ i1 i2 i3 _ _ _ (lvg_ne g0 rfl (by decide)) (lvg_ne g1 rfl (by decide)) (by omega) (lvg_ne g2 rfl (by decide)) (by omega) (lvg_ne g3 rfl (by decide)) (by omega) (lvg_ne g4 rfl (by decide)) lvg_self sh im (by omega)
  · refine e_ldI (lvg_ne g1 rfl (by decide)) ?_
    exact t_85 n (by omega) _ _ i1 i2 i3 _ _ _ (lvg_ne g0 rfl (by decide)) (lvg_ne g1 rfl (by decide)) (by omega) (lvg_ne g2 rfl (by decide)) (by omega) (lvg_ne g3 rfl (by decide)) (by omega) (lvg_ne g4 rfl (by decide)) lvg_self sh im (by omega)
theorem B_X8_isAhead_85 {Q : Option Value → MM → Prop} {S0 : MM} {m : Nat} {A : Nat → Nat} {n : Nat} (hM : MS S0 m A) (K : ∀ j S', SM [] m A S0 S' → IM S' m A → j < 2 → Q (some (.int (nI j))) S') (t_105 : ∀ k, k ≤ n → P_X8_isAhead_105 Q S0 m A k) : P_X8_isAhead_85 Q S0 m A (n + 1) := by
  intro lv S i1 i2 i3 w4 w5 ws0 g0 g1 h1 g2 h2 g3 h3 g4 g5 sh im hF
  refine u_X8_isAhead_85 ?_
  unfold bX8_isAhead_85
  refine e_stI ?_
  refine e_ldI (lvg_ne g3 rfl (by decide)) ?_
  refine e_ifN (by omega) (fun h1 => ?_) (fun h1 => ?_)
  · obtain ⟨q2, rfl⟩ : ∃ q, n = q + 1 := ⟨n - 1, by omega⟩
    refine u_X8_isAhead_95 ?_
    unfold bX8_isAhead_95
    refine e_ldA (lvg_ne g0 rfl (by decide)) ?_
    refine e_gR (SM_k sh hM.1) (SM_r sh (hM.2.1 18 (by decide)).1) ?_
    refine e_cN 5 rfl ?_
    refine e_ldI (lvg_ne g2 rfl (by decide)) ?_
    refine e_mul ?_
    refine e_cN 3 rfl ?_
    refine e_add ?_
    refine e_aI (N := 80) (SM_k sh (hM.2.1 18 (by decide)).2.1) (SM_n sh (hM.2.1 18 (by decide)).2.2.1) (by omega) (by decide) (fun v3 hv4 => ?_)
    exact t_105 q2 (by omega) _ _ i1 i2 i3 _ _ _ _ (lvg_ne g0 rfl (by decide)) (lvg_ne g1 rfl (by decide)) (by omega) (lvg_ne g2 rfl (by decide)) (by omega) (lvg_ne g3 rfl (by decide)) (by omega) (lvg_ne g4 rfl (by decide)) (lvg_ne g5 rfl (by decide)) lvg_self sh im (by omega)
  · refine e_ldI (lvg_ne g2 rfl (by decide)) ?_
    exact t_105 n (by omega) _ _ i1 i2 i3 _ _ _ _ (lvg_ne g0 rfl (by decide)) (lvg_ne g1 rfl (by decide)) (by omega) (lvg_ne g2 rfl (by decide)) (by omega) (lvg_ne g3 rfl (by decide)) (by omega) (lvg_ne g4 rfl (by decide)) (lvg_ne g5 rfl (by decide)) lvg_self sh im (by omega)
theorem B_X8_isAhead_105 {Q : Option Value → MM → Prop} {S0 : MM} {m : Nat} {A : Nat → Nat} {n : Nat} (hM : MS S0 m A) (K : ∀ j S', SM [] m A S0 S' → IM S' m A → j < 2 → Q (some (.int (nI j))) S')  : P_X8_isAhead_105 Q S0 m A (n + 1) := by
  intro lv S i1 i2 i3 w4 w5 w6 ws0 g0 g1 h1 g2 h2 g3 h3 g4 g5 g6 sh im hF
  refine u_X8_isAhead_105 ?_
  unfold bX8_isAhead_105
  refine e_stI ?_
  refine e_ldI (lvg_ne g4 rfl (by decide)) ?_
  refine e_ldI (lvg_ne g5 rfl (by decide)) ?_
  refine e_ifc ?_ ?_
  · obtain ⟨q1, rfl⟩ : ∃ q, n = q + 1 := ⟨n - 1, by omega⟩
    refine u_X8_isAhead_129 ?_
    unfold bX8_isAhead_129
    refine e_ldI (lvg_ne g6 rfl (by decide)) ?_
    refine e_ldI lvg_self ?_
    refine e_ifc ?_ ?_
    · obtain ⟨q2, rfl⟩ : ∃ q, q1 = q + 1 := ⟨q1 - 1, by omega⟩
      refine u_X8_isAhead_151 ?_
      unfold bX8_isAhead_151
      refine e_ldI (lvg_ne g1 rfl (by decide)) ?_
      refine e_ldI (lvg_ne g2 rfl (by decide)) ?_
      refine e_ge (by omega) (by omega) (fun h3 => ?_) (fun h3 => ?_)
      · obtain ⟨q4, rfl⟩ : ∃ q, q2 = q + 1 := ⟨q2 - 1, by omega⟩
        refine u_X8_isAhead_160 ?_
        unfold bX8_isAhead_160
        refine e_cN 0 rfl ?_
        obtain ⟨q5, rfl⟩ : ∃ q, q4 = q + 1 := ⟨q4 - 1, by omega⟩
        refine u_X8_isAhead_161 ?_
        unfold bX8_isAhead_161
        exact e_rZ (by omega) (K 0 _ sh im (by omega))
      · refine e_cN 1 rfl ?_
        obtain ⟨q6, rfl⟩ : ∃ q, q2 = q + 1 := ⟨q2 - 1, by omega⟩
        refine u_X8_isAhead_161 ?_
        unfold bX8_isAhead_161
        exact e_rZ (by omega) (K 1 _ sh im (by omega))
    · refine e_ldI (lvg_ne g6 rfl (by decide)) ?_
      refine e_ldI lvg_self ?_
      refine e_ifc ?_ ?_
      · obtain ⟨q7, rfl⟩ : ∃ q, q1 = q + 1 := ⟨q1 - 1, by omega⟩
        refine u_X8_isAhead_147 ?_
        unfold bX8_isAhead_147
        refine e_cN 0 rfl ?_
        obtain ⟨q8, rfl⟩ : ∃ q, q7 = q + 1 := ⟨q7 - 1, by omega⟩
        refine u_X8_isAhead_161 ?_
        unfold bX8_isAhead_161
        exact e_rZ (by omega) (K 0 _ sh im (by omega))
      · refine e_cN 1 rfl ?_
        obtain ⟨q9, rfl⟩ : ∃ q, q1 = q + 1 := ⟨q1 - 1, by omega⟩
        refine u_X8_isAhead_161 ?_
        unfold bX8_isAhead_161
        exact e_rZ (by omega) (K 1 _ sh im (by omega))
  · refine e_ldI (lvg_ne g4 rfl (by decide)) ?_
    refine e_ldI (lvg_ne g5 rfl (by decide)) ?_
    refine e_ifc ?_ ?_
    · obtain ⟨q10, rfl⟩ : ∃ q, n = q + 1 := ⟨n - 1, by omega⟩
      refine u_X8_isAhead_125 ?_
      unfold bX8_isAhead_125
      refine e_cN 0 rfl ?_
      obtain ⟨q11, rfl⟩ : ∃ q, q10 = q + 1 := ⟨q10 - 1, by omega⟩
      refine u_X8_isAhead_161 ?_
      unfold bX8_isAhead_161
      exact e_rZ (by omega) (K 0 _ sh im (by omega))
    · refine e_cN 1 rfl ?_
      obtain ⟨q12, rfl⟩ : ∃ q, n = q + 1 := ⟨n - 1, by omega⟩
      refine u_X8_isAhead_161 ?_
      unfold bX8_isAhead_161
      exact e_rZ (by omega) (K 1 _ sh im (by omega))
theorem A_X8_isAhead {Q : Option Value → MM → Prop} {S0 : MM} {m : Nat} {A : Nat → Nat} (hM : MS S0 m A) (K : ∀ j S', SM [] m A S0 S' → IM S' m A → j < 2 → Q (some (.int (nI j))) S') : ∀ n k, k ≤ n → P_X8_isAhead_0 Q S0 m A k ∧ P_X8_isAhead_16 Q S0 m A k ∧ P_X8_isAhead_40 Q S0 m A k ∧ P_X8_isAhead_65 Q S0 m A k ∧ P_X8_isAhead_85 Q S0 m A k ∧ P_X8_isAhead_105 Q S0 m A k := by
  intro n
  induction n with
  | zero =>
    intro k hk
    have e : k = 0 := by omega
    subst e
    exact ⟨(fun lv S i1 i2 _ _ _ _ _ _ _ hF => absurd hF (by omega)), (fun lv S i1 i2 is0 _ _ _ _ _ _ _ _ hF => absurd hF (by omega)), (fun lv S i1 i2 i3 ws0 _ _ _ _ _ _ _ _ _ hF => absurd hF (by omega)), (fun lv S i1 i2 i3 w4 ws0 _ _ _ _ _ _ _ _ _ _ hF => absurd hF (by omega)), (fun lv S i1 i2 i3 w4 w5 ws0 _ _ _ _ _ _ _ _ _ _ _ hF => absurd hF (by omega)), (fun lv S i1 i2 i3 w4 w5 w6 ws0 _ _ _ _ _ _ _ _ _ _ _ _ hF => absurd hF (by omega))⟩
  | succ n ih =>
    intro k hk
    by_cases hn : k ≤ n
    · exact ih k hn
    · have e : k = n + 1 := by omega
      subst e
      have T_0 : ∀ k, k ≤ n → P_X8_isAhead_0 Q S0 m A k := fun k hk => (ih k hk).1
      have T_16 : ∀ k, k ≤ n → P_X8_isAhead_16 Q S0 m A k := fun k hk => (ih k hk).2.1
      have T_40 : ∀ k, k ≤ n → P_X8_isAhead_40 Q S0 m A k := fun k hk => (ih k hk).2.2.1
      have T_65 : ∀ k, k ≤ n → P_X8_isAhead_65 Q S0 m A k := fun k hk => (ih k hk).2.2.2.1
      have T_85 : ∀ k, k ≤ n → P_X8_isAhead_85 Q S0 m A k := fun k hk => (ih k hk).2.2.2.2.1
      have T_105 : ∀ k, k ≤ n → P_X8_isAhead_105 Q S0 m A k := fun k hk => (ih k hk).2.2.2.2.2
      exact ⟨B_X8_isAhead_0 hM K T_16, B_X8_isAhead_16 hM K T_40, B_X8_isAhead_40 hM K T_65, B_X8_isAhead_65 hM K T_85, B_X8_isAhead_85 hM K T_105, B_X8_isAhead_105 hM K ⟩
theorem z_X8_isAhead {Q : Option Value → MM → Prop} {S0 : MM} {m : Nat} {A : Nat → Nat} {i1 : Nat} {i2 : Nat} (hM : MS S0 m A) (im : IM S0 m A) (h1 : i1 < 16) (h2 : i2 < 16) (K : ∀ j S', SM [] m A S0 S' → IM S' m A → j < 2 → Q (some (.int (nI j))) S') : wX8_isAhead [.ref m, .int (nI i1), .int (nI i2)] S0 Q := by
  exact Exists.intro 186 ((A_X8_isAhead hM K 186 186 (Nat.le_refl _)).1 _ S0 i1 i2 rfl rfl h1 rfl h2 SM.rf im (by omega))
theorem u_X8_chooses_0 {Q : Option Value → MM → Prop} {n : Nat} {lv : Lv} {st : List Value} {S : MM} {c z : Nat} (h : bX8_chooses_0 Q (wpn (kX8_chooses Q) n) lv st S c z) : wpn (kX8_chooses Q) (n + 1) 0 lv st S c z := h
theorem u_X8_chooses_5 {Q : Option Value → MM → Prop} {n : Nat} {lv : Lv} {st : List Value} {S : MM} {c z : Nat} (h : bX8_chooses_5 Q (wpn (kX8_chooses Q) n) lv st S c z) : wpn (kX8_chooses Q) (n + 1) 5 lv st S c z := h
theorem u_X8_chooses_27 {Q : Option Value → MM → Prop} {n : Nat} {lv : Lv} {st : List Value} {S : MM} {c z : Nat} (h : bX8_chooses_27 Q (wpn (kX8_chooses Q) n) lv st S c z) : wpn (kX8_chooses Q) (n + 1) 27 lv st S c z := h
theorem u_X8_chooses_69 {Q : Option Value → MM → Prop} {n : Nat} {lv : Lv} {st : List Value} {S : MM} {c z : Nat} (h : bX8_chooses_69 Q (wpn (kX8_chooses Q) n) lv st S c z) : wpn (kX8_chooses Q) (n + 1) 69 lv st S c z := h
theorem u_X8_chooses_80 {Q : Option Value → MM → Prop} {n : Nat} {lv : Lv} {st : List Value} {S : MM} {c z : Nat} (h : bX8_chooses_80 Q (wpn (kX8_chooses Q) n) lv st S c z) : wpn (kX8_chooses Q) (n + 1) 80 lv st S c z := h
theorem u_X8_chooses_102 {Q : Option Value → MM → Prop} {n : Nat} {lv : Lv} {st : List Value} {S : MM} {c z : Nat} (h : bX8_chooses_102 Q (wpn (kX8_chooses Q) n) lv st S c z) : wpn (kX8_chooses Q) (n + 1) 102 lv st S c z := h
theorem u_X8_chooses_103 {Q : Option Value → MM → Prop} {n : Nat} {lv : Lv} {st : List Value} {S : MM} {c z : Nat} (h : bX8_chooses_103 Q (wpn (kX8_chooses Q) n) lv st S c z) : wpn (kX8_chooses Q) (n + 1) 103 lv st S c z := h
theorem u_X8_chooses_106 {Q : Option Value → MM → Prop} {n : Nat} {lv : Lv} {st : List Value} {S : MM} {c z : Nat} (h : bX8_chooses_106 Q (wpn (kX8_chooses Q) n) lv st S c z) : wpn (kX8_chooses Q) (n + 1) 106 lv st S c z := h
theorem u_X8_chooses_112 {Q : Option Value → MM → Prop} {n : Nat} {lv : Lv} {st : List Value} {S : MM} {c z : Nat} (h : bX8_chooses_112 Q (wpn (kX8_chooses Q) n) lv st S c z) : wpn (kX8_chooses Q) (n + 1) 112 lv st S c z := h
theorem u_X8_chooses_142 {Q : Option Value → MM → Prop} {n : Nat} {lv : Lv} {st : List Value} {S : MM} {c z : Nat} (h : bX8_chooses_142 Q (wpn (kX8_chooses Q) n) lv st S c z) : wpn (kX8_chooses Q) (n + 1) 142 lv st S c z := h
theorem u_X8_chooses_174 {Q : Option Value → MM → Prop} {n : Nat} {lv : Lv} {st : List Value} {S : MM} {c z : Nat} (h : bX8_chooses_174 Q (wpn (kX8_chooses Q) n) lv st S c z) : wpn (kX8_chooses Q) (n + 1) 174 lv st S c z := h
theorem u_X8_chooses_175 {Q : Option Value → MM → Prop} {n : Nat} {lv : Lv} {st : List Value} {S : MM} {c z : Nat} (h : bX8_chooses_175 Q (wpn (kX8_chooses Q) n) lv st S c z) : wpn (kX8_chooses Q) (n + 1) 175 lv st S c z := h
theorem u_X8_chooses_182 {Q : Option Value → MM → Prop} {n : Nat} {lv : Lv} {st : List Value} {S : MM} {c z : Nat} (h : bX8_chooses_182 Q (wpn (kX8_chooses Q) n) lv st S c z) : wpn (kX8_chooses Q) (n + 1) 182 lv st S c z := h
def P_X8_chooses_0 (Q : Option Value → MM → Prop) (S0 : MM) (m : Nat) (A : Nat → Nat) (n : Nat) : Prop := ∀ (lv : Lv) (S : MM) (i1 : Nat), lvg lv 0 = some (.ref m) → lvg lv 1 = some (.int (nI i1)) → i1 < 2 → SM [12, 13, 40] m A S0 S → IM S m A → 36363 ≤ n → wpn (kX8_chooses Q) n 0 lv [] S 0 0
def P_X8_chooses_5 (Q : Option Value → MM → Prop) (S0 : MM) (m : Nat) (A : Nat → Nat) (n : Nat) : Prop := ∀ (lv : Lv) (S : MM) (i1 : Nat) (i2 : Nat), lvg lv 0 = some (.ref m) → lvg lv 1 = some (.int (nI i1)) → i1 < 2 → lvg lv 2 = some (.int (nI i2)) → i2 < 17 → SM [12, 13, 40] m A S0 S → IM S m A → 2108 + 2139 * (16 - i2) ≤ n → wpn (kX8_chooses Q) n 5 lv [] S 0 0
def P_X8_chooses_27 (Q : Option Value → MM → Prop) (S0 : MM) (m : Nat) (A : Nat → Nat) (n : Nat) : Prop := ∀ (lv : Lv) (S : MM) (i1 : Nat) (i2 : Nat) (w3 : Int32) (w4 : Int32) (i5 : Nat), lvg lv 0 = some (.ref m) → lvg lv 1 = some (.int (nI i1)) → i1 < 2 → lvg lv 2 = some (.int (nI i2)) → i2 < 16 → lvg lv 3 = some (.int w3) → lvg lv 4 = some (.int w4) → lvg lv 5 = some (.int (nI i5)) → i5 < 17 → SM [12, 13, 40] m A S0 S → IM S m A → 93 + 124 * (16 - i5) + 2139 * (16 - i2) ≤ n → wpn (kX8_chooses Q) n 27 lv [] S 0 0
def P_X8_chooses_80 (Q : Option Value → MM → Prop) (S0 : MM) (m : Nat) (A : Nat → Nat) (n : Nat) : Prop := ∀ (lv : Lv) (S : MM) (i1 : Nat) (i2 : Nat) (w3 : Int32) (w4 : Int32) (i5 : Nat), lvg lv 0 = some (.ref m) → lvg lv 1 = some (.int (nI i1)) → i1 < 2 → lvg lv 2 = some (.int (nI i2)) → i2 < 16 → lvg lv 3 = some (.int w3) → lvg lv 4 = some (.int w4) → lvg lv 5 = some (.int (nI i5)) → i5 < 16 → SM [12, 13, 40] m A S0 S → IM S m A → 31 + 124 * (16 - i5) + 2139 * (16 - i2) ≤ n → wpn (kX8_chooses Q) n 80 lv [] S 0 0
def P_X8_chooses_112 (Q : Option Value → MM → Prop) (S0 : MM) (m : Nat) (A : Nat → Nat) (n : Nat) : Prop := ∀ (lv : Lv) (S : MM) (i1 : Nat) (i2 : Nat) (w3 : Int32) (w4 : Int32) (i5 : Nat), lvg lv 0 = some (.ref m) → lvg lv 1 = some (.int (nI i1)) → i1 < 2 → lvg lv 2 = some (.int (nI i2)) → i2 < 16 → lvg lv 3 = some (.int w3) → lvg lv 4 = some (.int w4) → lvg lv 5 = some (.int (nI i5)) → i5 < 17 → SM [12, 13, 40] m A S0 S → IM S m A → 62 + 2139 * (16 - i2) ≤ n → wpn (kX8_chooses Q) n 112 lv [] S 0 0
def P_X8_chooses_142 (Q : Option Value → MM → Prop) (S0 : MM) (m : Nat) (A : Nat → Nat) (n : Nat) : Prop := ∀ (lv : Lv) (S : MM) (i1 : Nat) (i2 : Nat) (w3 : Int32) (w4 : Int32) (i5 : Nat), lvg lv 0 = some (.ref m) → lvg lv 1 = some (.int (nI i1)) → i1 < 2 → lvg lv 2 = some (.int (nI i2)) → i2 < 16 → lvg lv 3 = some (.int w3) → lvg lv 4 = some (.int w4) → lvg lv 5 = some (.int (nI i5)) → i5 < 17 → SM [12, 13, 40] m A S0 S → IM S m A → 31 + 2139 * (16 - i2) ≤ n → wpn (kX8_chooses Q) n 142 lv [] S 0 0
theorem B_X8_chooses_0 {Q : Option Value → MM → Prop} {S0 : MM} {m : Nat} {A : Nat → Nat} {n : Nat} (hM : MS S0 m A) (K : ∀ S', SM [12, 13, 40] m A S0 S' → IM S' m A → Q none S') (t_5 : ∀ k, k ≤ n → P_X8_chooses_5 Q S0 m A k) : P_X8_chooses_0 Q S0 m A (n + 1) := by
  intro lv S i1 g0 g1 h1 sh im hF
  refine u_X8_chooses_0 ?_
  unfold bX8_chooses_0
  refine e_cN 8 rfl ?_
  refine e_ldI g1 ?_
  refine e_mul ?_
  refine e_stI ?_
  exact t_5 n (by omega) _ _ i1 (8 * i1) (lvg_ne g0 rfl (by decide)) (lvg_ne g1 rfl (by decide)) (by omega) lvg_self (by omega) sh im (by omega)
theorem B_X8_chooses_5 {Q : Option Value → MM → Prop} {S0 : MM} {m : Nat} {A : Nat → Nat} {n : Nat} (hM : MS S0 m A) (K : ∀ S', SM [12, 13, 40] m A S0 S' → IM S' m A → Q none S') (t_27 : ∀ k, k ≤ n → P_X8_chooses_27 Q S0 m A k) : P_X8_chooses_5 Q S0 m A (n + 1) := by
  intro lv S i1 i2 g0 g1 h1 g2 h2 sh im hF
  refine u_X8_chooses_5 ?_
  unfold bX8_chooses_5
  refine e_ldI g2 ?_
  refine e_cN 8 rfl ?_
  refine e_ldI g1 ?_
  refine e_mul ?_
  refine e_cN 8 rfl ?_
  refine e_add ?_
  refine e_ge (by omega) (by omega) (fun h1 => ?_) (fun h1 => ?_)
  · obtain ⟨q2, rfl⟩ : ∃ q, n = q + 1 := ⟨n - 1, by omega⟩
    refine u_X8_chooses_182 ?_
    unfold bX8_chooses_182
    exact e_rV (K _ sh im)
  · refine e_cI ?_
    refine e_stI ?_
    refine e_cN 0 rfl ?_
    refine e_stI ?_
    refine e_cN 8 rfl ?_
    refine e_ldI (lvg_ne (lvg_ne g1 rfl (by decide)) rfl (by decide)) ?_
    refine e_mul ?_
    refine e_stI ?_
    exact t_27 n (by omega) _ _ i1 i2 _ _ (8 * i1) (lvg_ne (lvg_ne (lvg_ne g0 rfl (by decide)) rfl (by decide)) rfl (by decide)) (lvg_ne (lvg_ne (lvg_ne g1 rfl (by decide)) rfl (by decide)) rfl (by decide)) (by omega) (lvg_ne (lvg_ne (lvg_ne g2 rfl (by decide)) rfl (by decide)) rfl (by decide)) (by omega) (lvg_ne (lvg_ne lvg_self rfl (by decide)) rfl (by decide)) (lvg_ne lvg_self rfl (by decide)) lvg_self (by omega) sh im (by omega)
theorem B_X8_chooses_27 {Q : Option Value → MM → Prop} {S0 : MM} {m : Nat} {A : Nat → Nat} {n : Nat} (hM : MS S0 m A) (K : ∀ S', SM [12, 13, 40] m A S0 S' → IM S' m A → Q none S') (t_27 : ∀ k, k ≤ n → P_X8_chooses_27 Q S0 m A k) (t_80 : ∀ k, k ≤ n → P_X8_chooses_80 Q S0 m A k) (t_112 : ∀ k, k ≤ n → P_X8_chooses_112 Q S0 m A k) : P_X8_chooses_27 Q S0 m A (n + 1) := by
  intro lv S i1 i2 w3 w4 i5 g0 g1 h1 g2 h2 g3 g4 g5 h5 sh im hF
  refine u_X8_chooses_27 ?_
  unfold bX8_chooses_27
  refine e_ldI g5 ?_
  refine e_cN 8 rfl ?_
  refine e_ldI g1 ?_
  refine e_mul ?_
  refine e_cN 8 rfl ?_
  refine e_add ?_
  refine e_ge (by omega) (by omega) (fun h1 => ?_) (fun h1 => ?_)
  · exact t_112 n (by omega) _ _ i1 i2 _ _ i5 g0 g1 (by omega) g2 (by omega) g3 g4 g5 (by omega) sh im (by omega)
  · refine e_ldA g0 ?_
    refine e_ldI g2 ?_
    refine And.intro (SM_k sh hM.1) (And.intro ⟨by decide, by decide⟩ (z_X8_fits (MS_SM hM sh) im (show i2 < 16 by omega) (fun n6 S2 s3 ir4 hn7 => ?_)))
    have sh5 := SM.tr sh s3 (by decide)
    refine e_ifN (by omega) (fun h8 => ?_) (fun h8 => ?_)
    · exact t_112 n (by omega) _ _ i1 i2 _ _ i5 g0 g1 (by omega) g2 (by omega) g3 g4 g5 (by omega) sh5 ir4 (by omega)
    · refine e_ldA g0 ?_
      refine e_ldI g5 ?_
      refine And.intro (SM_k sh5 hM.1) (And.intro ⟨by decide, by decide⟩ (z_X8_fits (MS_SM hM sh5) ir4 (show i5 < 16 by omega) (fun n13 S9 s10 ir11 hn14 => ?_)))
      have sh12 := SM.tr sh5 s10 (by decide)
      refine e_ifN (by omega) (fun h15 => ?_) (fun h15 => ?_)
      · obtain ⟨q16, rfl⟩ : ∃ q, n = q + 1 := ⟨n - 1, by omega⟩
        refine u_X8_chooses_106 ?_
        unfold bX8_chooses_106
        refine e_inc g5 ?_
        exact t_27 q16 (by omega) _ _ i1 i2 _ _ (i5 + 1) (lvg_ne g0 rfl (by decide)) (lvg_ne g1 rfl (by decide)) (by omega) (lvg_ne g2 rfl (by decide)) (by omega) (lvg_ne g3 rfl (by decide)) (lvg_ne g4 rfl (by decide)) lvg_self (by omega) sh12 ir11 (by omega)
      · refine e_ldA g0 ?_
        refine e_ldI g2 ?_
        refine e_ldI g5 ?_
        refine And.intro (SM_k sh12 hM.1) (And.intro ⟨by decide, by decide⟩ (z_X8_areLike (MS_SM hM sh12) ir11 (show i2 < 16 by omega) (show i5 < 16 by omega) (fun n21 S17 s18 ir19 hn22 => ?_)))
        have sh20 := SM.tr sh12 s18 (by decide)
        refine e_ifN (by omega) (fun h23 => ?_) (fun h23 => ?_)
        · obtain ⟨q24, rfl⟩ : ∃ q, n = q + 1 := ⟨n - 1, by omega⟩
          refine u_X8_chooses_106 ?_
          unfold bX8_chooses_106
          refine e_inc g5 ?_
          exact t_27 q24 (by omega) _ _ i1 i2 _ _ (i5 + 1) (lvg_ne g0 rfl (by decide)) (lvg_ne g1 rfl (by decide)) (by omega) (lvg_ne g2 rfl (by decide)) (by omega) (lvg_ne g3 rfl (by decide)) (lvg_ne g4 rfl (by decide)) lvg_self (by omega) sh20 ir19 (by omega)
        · obtain ⟨q25, rfl⟩ : ∃ q, n = q + 1 := ⟨n - 1, by omega⟩
          refine u_X8_chooses_69 ?_
          unfold bX8_chooses_69
          refine e_ldI g3 ?_
          refine e_cI ?_
          refine e_ifc ?_ ?_
          · refine e_ldI g5 ?_
            refine e_cN 8 rfl ?_
            refine e_rem (by omega) (by decide) (by decide) ?_
            refine e_stI ?_
            exact t_80 q25 (by omega) _ _ i1 i2 _ _ i5 (lvg_ne g0 rfl (by decide)) (lvg_ne g1 rfl (by decide)) (by omega) (lvg_ne g2 rfl (by decide)) (by omega) lvg_self (lvg_ne g4 rfl (by decide)) (lvg_ne g5 rfl (by decide)) (by omega) sh20 ir19 (by omega)
          · exact t_80 q25 (by omega) _ _ i1 i2 _ _ i5 g0 g1 (by omega) g2 (by omega) g3 g4 g5 (by omega) sh20 ir19 (by omega)
theorem B_X8_chooses_80 {Q : Option Value → MM → Prop} {S0 : MM} {m : Nat} {A : Nat → Nat} {n : Nat} (hM : MS S0 m A) (K : ∀ S', SM [12, 13, 40] m A S0 S' → IM S' m A → Q none S') (t_27 : ∀ k, k ≤ n → P_X8_chooses_27 Q S0 m A k) : P_X8_chooses_80 Q S0 m A (n + 1) := by
  intro lv S i1 i2 w3 w4 i5 g0 g1 h1 g2 h2 g3 g4 g5 h5 sh im hF
  refine u_X8_chooses_80 ?_
  unfold bX8_chooses_80
  refine e_ldI g4 ?_
  refine e_ldI g5 ?_
  refine e_ldI g2 ?_
  refine e_eq (by omega) (by omega) (fun h1 => ?_) (fun h1 => ?_)
  · obtain ⟨q2, rfl⟩ : ∃ q, n = q + 1 := ⟨n - 1, by omega⟩
    refine u_X8_chooses_102 ?_
    unfold bX8_chooses_102
    refine e_cN 0 rfl ?_
    obtain ⟨q3, rfl⟩ : ∃ q, q2 = q + 1 := ⟨q2 - 1, by omega⟩
    refine u_X8_chooses_103 ?_
    unfold bX8_chooses_103
    refine e_bopU (fun r4 => ?_)
    refine e_stI ?_
    obtain ⟨q5, rfl⟩ : ∃ q, q3 = q + 1 := ⟨q3 - 1, by omega⟩
    refine u_X8_chooses_106 ?_
    unfold bX8_chooses_106
    refine e_inc (lvg_ne g5 rfl (by decide)) ?_
    exact t_27 q5 (by omega) _ _ i1 i2 _ _ (i5 + 1) (lvg_ne (lvg_ne g0 rfl (by decide)) rfl (by decide)) (lvg_ne (lvg_ne g1 rfl (by decide)) rfl (by decide)) (by omega) (lvg_ne (lvg_ne g2 rfl (by decide)) rfl (by decide)) (by omega) (lvg_ne (lvg_ne g3 rfl (by decide)) rfl (by decide)) (lvg_ne lvg_self rfl (by decide)) lvg_self (by omega) sh im (by omega)
  · refine e_ldA g0 ?_
    refine e_ldI g5 ?_
    refine e_ldI g2 ?_
    refine And.intro (SM_k sh hM.1) (And.intro ⟨by decide, by decide⟩ (z_X8_isAhead (MS_SM hM sh) im (show i5 < 16 by omega) (show i2 < 16 by omega) (fun n10 S6 s7 ir8 hn11 => ?_)))
    have sh9 := SM.tr sh s7 (by decide)
    refine e_ifN (by omega) (fun h12 => ?_) (fun h12 => ?_)
    · obtain ⟨q13, rfl⟩ : ∃ q, n = q + 1 := ⟨n - 1, by omega⟩
      refine u_X8_chooses_102 ?_
      unfold bX8_chooses_102
      refine e_cN 0 rfl ?_
      obtain ⟨q14, rfl⟩ : ∃ q, q13 = q + 1 := ⟨q13 - 1, by omega⟩
      refine u_X8_chooses_103 ?_
      unfold bX8_chooses_103
      refine e_bopU (fun r15 => ?_)
      refine e_stI ?_
      obtain ⟨q16, rfl⟩ : ∃ q, q14 = q + 1 := ⟨q14 - 1, by omega⟩
      refine u_X8_chooses_106 ?_
      unfold bX8_chooses_106
      refine e_inc (lvg_ne g5 rfl (by decide)) ?_
      exact t_27 q16 (by omega) _ _ i1 i2 _ _ (i5 + 1) (lvg_ne (lvg_ne g0 rfl (by decide)) rfl (by decide)) (lvg_ne (lvg_ne g1 rfl (by decide)) rfl (by decide)) (by omega) (lvg_ne (lvg_ne g2 rfl (by decide)) rfl (by decide)) (by omega) (lvg_ne (lvg_ne g3 rfl (by decide)) rfl (by decide)) (lvg_ne lvg_self rfl (by decide)) lvg_self (by omega) sh9 ir8 (by omega)
    · refine e_cN 1 rfl ?_
      obtain ⟨q17, rfl⟩ : ∃ q, n = q + 1 := ⟨n - 1, by omega⟩
      refine u_X8_chooses_103 ?_
      unfold bX8_chooses_103
      refine e_bopU (fun r18 => ?_)
      refine e_stI ?_
      obtain ⟨q19, rfl⟩ : ∃ q, q17 = q + 1 := ⟨q17 - 1, by omega⟩
      refine u_X8_chooses_106 ?_
      unfold bX8_chooses_106
      refine e_inc (lvg_ne g5 rfl (by decide)) ?_
      exact t_27 q19 (by omega) _ _ i1 i2 _ _ (i5 + 1) (lvg_ne (lvg_ne g0 rfl (by decide)) rfl (by decide)) (lvg_ne (lvg_ne g1 rfl (by decide)) rfl (by decide)) (by omega) (lvg_ne (lvg_ne g2 rfl (by decide)) rfl (by decide)) (by omega) (lvg_ne (lvg_ne g3 rfl (by decide)) rfl (by decide)) (lvg_ne lvg_self rfl (by decide)) lvg_self (by omega) sh9 ir8 (by omega)
theorem B_X8_chooses_112 {Q : Option Value → MM → Prop} {S0 : MM} {m : Nat} {A : Nat → Nat} {n : Nat} (hM : MS S0 m A) (K : ∀ S', SM [12, 13, 40] m A S0 S' → IM S' m A → Q none S') (t_142 : ∀ k, k ≤ n → P_X8_chooses_142 Q S0 m A k) : P_X8_chooses_112 Q S0 m A (n + 1) := by
  intro lv S i1 i2 w3 w4 i5 g0 g1 h1 g2 h2 g3 g4 g5 h5 sh im hF
  refine u_X8_chooses_112 ?_
  unfold bX8_chooses_112
  refine e_ldA g0 ?_
  refine e_gR (SM_k sh hM.1) (SM_r sh (hM.2.1 9 (by decide)).1) ?_
  refine e_ldI g2 ?_
  refine e_aI (N := 16) (SM_k sh (hM.2.1 9 (by decide)).2.1) (SM_n sh (hM.2.1 9 (by decide)).2.2.1) (by omega) (by decide) (fun v1 hv2 => ?_)
  refine e_cN 4 rfl ?_
  refine e_ifc ?_ ?_
  · refine e_ldI g3 ?_
    refine e_ldA g0 ?_
    refine e_gR (SM_k sh hM.1) (SM_r sh (hM.2.1 12 (by decide)).1) ?_
    refine e_ldI g2 ?_
    refine e_aI (N := 16) (SM_k sh (hM.2.1 12 (by decide)).2.1) (SM_n sh (hM.2.1 12 (by decide)).2.2.1) (by omega) (by decide) (fun v3 hv4 => ?_)
    refine e_ifc ?_ ?_
    · exact t_142 n (by omega) _ _ i1 i2 _ _ i5 g0 g1 (by omega) g2 (by omega) g3 g4 g5 (by omega) sh im (by omega)
    · refine e_ldA g0 ?_
      refine e_gR (SM_k sh hM.1) (SM_r sh (hM.2.1 40 (by decide)).1) ?_
      refine e_ldI g1 ?_
      refine e_du2 ?_
      refine e_aI (N := 2) (SM_k sh (hM.2.1 40 (by decide)).2.1) (SM_n sh (hM.2.1 40 (by decide)).2.2.1) (by omega) (by decide) (fun v5 hv6 => ?_)
      refine e_cN 1 rfl ?_
      refine e_bopU (fun r7 => ?_)
      refine y_mA (N := 2) hM sh im (by decide) rfl rfl (by omega) (by decide) (by decide) (fun N e => nomatch (show (none : Option Nat) = some N from e)) (fun e => absurd e (by decide)) (fun S8 he9 sh10 ir11 => ?_)
      exact t_142 n (by omega) _ _ i1 i2 _ _ i5 g0 g1 (by omega) g2 (by omega) g3 g4 g5 (by omega) sh10 ir11 (by omega)
  · exact t_142 n (by omega) _ _ i1 i2 _ _ i5 g0 g1 (by omega) g2 (by omega) g3 g4 g5 (by omega) sh im (by omega)
theorem B_X8_chooses_142 {Q : Option Value → MM → Prop} {S0 : MM} {m : Nat} {A : Nat → Nat} {n : Nat} (hM : MS S0 m A) (K : ∀ S', SM [12, 13, 40] m A S0 S' → IM S' m A → Q none S') (t_5 : ∀ k, k ≤ n → P_X8_chooses_5 Q S0 m A k) : P_X8_chooses_142 Q S0 m A (n + 1) := by
  intro lv S i1 i2 w3 w4 i5 g0 g1 h1 g2 h2 g3 g4 g5 h5 sh im hF
  refine u_X8_chooses_142 ?_
  unfold bX8_chooses_142
  refine e_ldA g0 ?_
  refine e_gR (SM_k sh hM.1) (SM_r sh (hM.2.1 12 (by decide)).1) ?_
  refine e_ldI g2 ?_
  refine e_ldI g3 ?_
  refine y_mA (N := 16) hM sh im (by decide) rfl rfl (by omega) (by decide) (by decide) (fun N e => nomatch (show (none : Option Nat) = some N from e)) (fun e => absurd e (by decide)) (fun S1 he2 sh3 ir4 => ?_)
  refine e_ldA g0 ?_
  refine e_gR (SM_k sh3 hM.1) (SM_r sh3 (hM.2.1 13 (by decide)).1) ?_
  refine e_ldI g2 ?_
  refine e_ldI g3 ?_
  refine e_cI ?_
  refine e_ifc ?_ ?_
  · obtain ⟨q5, rfl⟩ : ∃ q, n = q + 1 := ⟨n - 1, by omega⟩
    refine u_X8_chooses_174 ?_
    unfold bX8_chooses_174
    refine e_cN 0 rfl ?_
    obtain ⟨q6, rfl⟩ : ∃ q, q5 = q + 1 := ⟨q5 - 1, by omega⟩
    refine u_X8_chooses_175 ?_
    unfold bX8_chooses_175
    refine y_mB (N := 16) hM sh3 ir4 (by decide) rfl rfl (by omega) (by decide) (by omega) (by decide) (fun N e => nomatch (show (none : Option Nat) = some N from e)) (fun e => absurd e (by decide)) (fun S7 he8 sh9 ir10 => ?_)
    refine e_inc g2 ?_
    exact t_5 q6 (by omega) _ _ i1 (i2 + 1) (lvg_ne g0 rfl (by decide)) (lvg_ne g1 rfl (by decide)) (by omega) lvg_self (by omega) sh9 ir10 (by omega)
  · refine e_ldI g4 ?_
    refine e_ldA g0 ?_
    refine e_gR (SM_k sh3 hM.1) (SM_r sh3 (hM.2.1 2 (by decide)).1) ?_
    refine e_ldI g1 ?_
    refine e_aI (N := 2) (SM_k sh3 (hM.2.1 2 (by decide)).2.1) (SM_n sh3 (hM.2.1 2 (by decide)).2.2.1) (by omega) (by decide) (fun v11 hv12 => ?_)
    refine e_ifc ?_ ?_
    · obtain ⟨q13, rfl⟩ : ∃ q, n = q + 1 := ⟨n - 1, by omega⟩
      refine u_X8_chooses_174 ?_
      unfold bX8_chooses_174
      refine e_cN 0 rfl ?_
      obtain ⟨q14, rfl⟩ : ∃ q, q13 = q + 1 := ⟨q13 - 1, by omega⟩
      refine u_X8_chooses_175 ?_
      unfold bX8_chooses_175
      refine y_mB (N := 16) hM sh3 ir4 (by decide) rfl rfl (by omega) (by decide) (by omega) (by decide) (fun N e => nomatch (show (none : Option Nat) = some N from e)) (fun e => absurd e (by decide)) (fun S15 he16 sh17 ir18 => ?_)
      refine e_inc g2 ?_
      exact t_5 q14 (by omega) _ _ i1 (i2 + 1) (lvg_ne g0 rfl (by decide)) (lvg_ne g1 rfl (by decide)) (by omega) lvg_self (by omega) sh17 ir18 (by omega)
    · refine e_cN 1 rfl ?_
      obtain ⟨q19, rfl⟩ : ∃ q, n = q + 1 := ⟨n - 1, by omega⟩
      refine u_X8_chooses_175 ?_
      unfold bX8_chooses_175
      refine y_mB (N := 16) hM sh3 ir4 (by decide) rfl rfl (by omega) (by decide) (by omega) (by decide) (fun N e => nomatch (show (none : Option Nat) = some N from e)) (fun e => absurd e (by decide)) (fun S20 he21 sh22 ir23 => ?_)
      refine e_inc g2 ?_
      exact t_5 q19 (by omega) _ _ i1 (i2 + 1) (lvg_ne g0 rfl (by decide)) (lvg_ne g1 rfl (by decide)) (by omega) lvg_self (by omega) sh22 ir23 (by omega)
theorem A_X8_chooses {Q : Option Value → MM → Prop} {S0 : MM} {m : Nat} {A : Nat → Nat} (hM : MS S0 m A) (K : ∀ S', SM [12, 13, 40] m A S0 S' → IM S' m A → Q none S') : ∀ n k, k ≤ n → P_X8_chooses_0 Q S0 m A k ∧ P_X8_chooses_5 Q S0 m A k ∧ P_X8_chooses_27 Q S0 m A k ∧ P_X8_chooses_80 Q S0 m A k ∧ P_X8_chooses_112 Q S0 m A k ∧ P_X8_chooses_142 Q S0 m A k := by
  intro n
  induction n with
  | zero =>
    intro k hk
    have e : k = 0 := by omega
    subst e
    exact ⟨(fun lv S i1 _ _ _ _ _ hF => absurd hF (by omega)), (fun lv S i1 i2 _ _ _ _ _ _ _ hF => absurd hF (by omega)), (fun lv S i1 i2 w3 w4 i5 _ _ _ _ _ _ _ _ _ _ _ hF => absurd hF (by omega)), (fun lv S i1 i2 w3 w4 i5 _ _ _ _ _ _ _ _ _ _ _ hF => absurd hF (by omega)), (fun lv S i1 i2 w3 w4 i5 _ _ _ _ _ _ _ _ _ _ _ hF => absurd hF (by omega)), (fun lv S i1 i2 w3 w4 i5 _ _ _ _ _ _ _ _ _ _ _ hF => absurd hF (by omega))⟩
  | succ n ih =>
    intro k hk
    by_cases hn : k ≤ n
    · exact ih k hn
    · have e : k = n + 1 := by omega
      subst e
      have T_0 : ∀ k, k ≤ n → P_X8_chooses_0 Q S0 m A k := fun k hk => (ih k hk).1
      have T_5 : ∀ k, k ≤ n → P_X8_chooses_5 Q S0 m A k := fun k hk => (ih k hk).2.1
      have T_27 : ∀ k, k ≤ n → P_X8_chooses_27 Q S0 m A k := fun k hk => (ih k hk).2.2.1
      have T_80 : ∀ k, k ≤ n → P_X8_chooses_80 Q S0 m A k := fun k hk => (ih k hk).2.2.2.1
      have T_112 : ∀ k, k ≤ n → P_X8_chooses_112 Q S0 m A k := fun k hk => (ih k hk).2.2.2.2.1
      have T_142 : ∀ k, k ≤ n → P_X8_chooses_142 Q S0 m A k := fun k hk => (ih k hk).2.2.2.2.2
      exact ⟨B_X8_chooses_0 hM K T_5, B_X8_chooses_5 hM K T_27, B_X8_chooses_27 hM K T_27 T_80 T_112, B_X8_chooses_80 hM K T_27, B_X8_chooses_112 hM K T_142, B_X8_chooses_142 hM K T_5⟩
theorem z_X8_chooses {Q : Option Value → MM → Prop} {S0 : MM} {m : Nat} {A : Nat → Nat} {i1 : Nat} (hM : MS S0 m A) (im : IM S0 m A) (h1 : i1 < 2) (K : ∀ S', SM [12, 13, 40] m A S0 S' → IM S' m A → Q none S') : wX8_chooses [.ref m, .int (nI i1)] S0 Q := by
  exact Exists.intro 36363 ((A_X8_chooses hM K 36363 36363 (Nat.le_refl _)).1 _ S0 i1 rfl rfl h1 SM.rf im (by omega))
theorem u_X8_isOther_0 {Q : Option Value → MM → Prop} {n : Nat} {lv : Lv} {st : List Value} {S : MM} {c z : Nat} (h : bX8_isOther_0 Q (wpn (kX8_isOther Q) n) lv st S c z) : wpn (kX8_isOther Q) (n + 1) 0 lv st S c z := h
theorem u_X8_isOther_65 {Q : Option Value → MM → Prop} {n : Nat} {lv : Lv} {st : List Value} {S : MM} {c z : Nat} (h : bX8_isOther_65 Q (wpn (kX8_isOther Q) n) lv st S c z) : wpn (kX8_isOther Q) (n + 1) 65 lv st S c z := h
theorem u_X8_isOther_70 {Q : Option Value → MM → Prop} {n : Nat} {lv : Lv} {st : List Value} {S : MM} {c z : Nat} (h : bX8_isOther_70 Q (wpn (kX8_isOther Q) n) lv st S c z) : wpn (kX8_isOther Q) (n + 1) 70 lv st S c z := h
theorem u_X8_isOther_74 {Q : Option Value → MM → Prop} {n : Nat} {lv : Lv} {st : List Value} {S : MM} {c z : Nat} (h : bX8_isOther_74 Q (wpn (kX8_isOther Q) n) lv st S c z) : wpn (kX8_isOther Q) (n + 1) 74 lv st S c z := h
theorem u_X8_isOther_75 {Q : Option Value → MM → Prop} {n : Nat} {lv : Lv} {st : List Value} {S : MM} {c z : Nat} (h : bX8_isOther_75 Q (wpn (kX8_isOther Q) n) lv st S c z) : wpn (kX8_isOther Q) (n + 1) 75 lv st S c z := h
theorem z_X8_isOther {Q : Option Value → MM → Prop} {S0 : MM} {m : Nat} {A : Nat → Nat} {i1 : Nat} (hM : MS S0 m A) (im : IM S0 m A) (h1 : i1 < 16) (K : ∀ j S', SM [] m A S0 S' → IM S' m A → j < 2 → Q (some (.int (nI j))) S') : wX8_isOther [.ref m, .int (nI i1)] S0 Q := by
  have sh : SM [] m A S0 S0 := SM.rf
  refine Exists.intro 60 (u_X8_isOther_0 ?_)
  unfold bX8_isOther_0
  refine e_ldA rfl ?_
  refine e_gR (SM_k sh hM.1) (SM_r sh (hM.2.1 9 (by decide)).1) ?_
  refine e_ldI rfl ?_
  refine e_aI (N := 16) (SM_k sh (hM.2.1 9 (by decide)).2.1) (SM_n sh (hM.2.1 9 (by decide)).2.2.1) (by omega) (by decide) (fun v1 hv2 => ?_)
  refine e_ifz ?_ ?_
  · refine u_X8_isOther_74 ?_
    unfold bX8_isOther_74
    refine e_cN 0 rfl ?_
    refine u_X8_isOther_75 ?_
    unfold bX8_isOther_75
    exact e_rZ (by omega) (K 0 _ sh im (by omega))
  · refine e_ldA rfl ?_
    refine e_gR (SM_k sh hM.1) (SM_r sh (hM.2.1 19 (by decide)).1) ?_
    refine e_cN 3 rfl ?_
    refine e_ldI rfl ?_
    refine e_mul ?_
    refine e_aI (N := 48) (SM_k sh (hM.2.1 19 (by decide)).2.1) (SM_n sh (hM.2.1 19 (by decide)).2.2.1) (by omega) (by decide) (fun v3 hv4 => ?_)
    refine e_ldA rfl ?_
    refine e_gR (SM_k sh hM.1) (SM_r sh (hM.2.1 3 (by decide)).1) ?_
    refine e_ldI rfl ?_
    refine e_aI (N := 16) (SM_k sh (hM.2.1 3 (by decide)).2.1) (SM_n sh (hM.2.1 3 (by decide)).2.2.1) (by omega) (by decide) (fun v5 hv6 => ?_)
    refine e_ifc ?_ ?_
    · refine e_ldA rfl ?_
      refine e_gR (SM_k sh hM.1) (SM_r sh (hM.2.1 19 (by decide)).1) ?_
      refine e_cN 3 rfl ?_
      refine e_ldI rfl ?_
      refine e_mul ?_
      refine e_cN 1 rfl ?_
      refine e_add ?_
      refine e_aI (N := 48) (SM_k sh (hM.2.1 19 (by decide)).2.1) (SM_n sh (hM.2.1 19 (by decide)).2.2.1) (by omega) (by decide) (fun v7 hv8 => ?_)
      refine e_ldA rfl ?_
      refine e_gR (SM_k sh hM.1) (SM_r sh (hM.2.1 18 (by decide)).1) ?_
      refine e_cN 5 rfl ?_
      refine e_ldI rfl ?_
      refine e_mul ?_
      refine e_aI (N := 80) (SM_k sh (hM.2.1 18 (by decide)).2.1) (SM_n sh (hM.2.1 18 (by decide)).2.2.1) (by omega) (by decide) (fun v9 hv10 => ?_)
      refine e_ifc ?_ ?_
      · refine e_ldA rfl ?_
        refine e_gR (SM_k sh hM.1) (SM_r sh (hM.2.1 19 (by decide)).1) ?_
        refine e_cN 3 rfl ?_
        refine e_ldI rfl ?_
        refine e_mul ?_
        refine e_cN 2 rfl ?_
        refine e_add ?_
        refine e_aI (N := 48) (SM_k sh (hM.2.1 19 (by decide)).2.1) (SM_n sh (hM.2.1 19 (by decide)).2.2.1) (by omega) (by decide) (fun v11 hv12 => ?_)
        refine e_ldA rfl ?_
        refine e_gR (SM_k sh hM.1) (SM_r sh (hM.2.1 18 (by decide)).1) ?_
        refine e_cN 5 rfl ?_
        refine e_ldI rfl ?_
        refine e_mul ?_
        refine e_cN 1 rfl ?_
        refine u_X8_isOther_65 ?_
        unfold bX8_isOther_65
        refine e_add ?_
        refine e_aI (N := 80) (SM_k sh (hM.2.1 18 (by decide)).2.1) (SM_n sh (hM.2.1 18 (by decide)).2.2.1) (by omega) (by decide) (fun v13 hv14 => ?_)
        refine e_ifc ?_ ?_
        · refine u_X8_isOther_74 ?_
          unfold bX8_isOther_74
          refine e_cN 0 rfl ?_
          refine u_X8_isOther_75 ?_
          unfold bX8_isOther_75
          exact e_rZ (by omega) (K 0 _ sh im (by omega))
        · refine u_X8_isOther_70 ?_
          unfold bX8_isOther_70
          refine e_cN 1 rfl ?_
          refine u_X8_isOther_75 ?_
          unfold bX8_isOther_75
          exact e_rZ (by omega) (K 1 _ sh im (by omega))
      · refine u_X8_isOther_70 ?_
        unfold bX8_isOther_70
        refine e_cN 1 rfl ?_
        refine u_X8_isOther_75 ?_
        unfold bX8_isOther_75
        exact e_rZ (by omega) (K 1 _ sh im (by omega))
    · refine u_X8_isOther_70 ?_
      unfold bX8_isOther_70
      refine e_cN 1 rfl ?_
      refine u_X8_isOther_75 ?_
      unfold bX8_isOther_75
      exact e_rZ (by omega) (K 1 _ sh im (by omega))
theorem u_X8_isTold_0 {Q : Option Value → MM → Prop} {n : Nat} {lv : Lv} {st : List Value} {S : MM} {c z : Nat} (h : bX8_isTold_0 Q (wpn (kX8_isTold Q) n) lv st S c z) : wpn (kX8_isTold Q) (n + 1) 0 lv st S c z := h
theorem u_X8_isTold_12 {Q : Option Value → MM → Prop} {n : Nat} {lv : Lv} {st : List Value} {S : MM} {c z : Nat} (h : bX8_isTold_12 Q (wpn (kX8_isTold Q) n) lv st S c z) : wpn (kX8_isTold Q) (n + 1) 12 lv st S c z := h
theorem u_X8_isTold_14 {Q : Option Value → MM → Prop} {n : Nat} {lv : Lv} {st : List Value} {S : MM} {c z : Nat} (h : bX8_isTold_14 Q (wpn (kX8_isTold Q) n) lv st S c z) : wpn (kX8_isTold Q) (n + 1) 14 lv st S c z := h
theorem u_X8_isTold_40 {Q : Option Value → MM → Prop} {n : Nat} {lv : Lv} {st : List Value} {S : MM} {c z : Nat} (h : bX8_isTold_40 Q (wpn (kX8_isTold Q) n) lv st S c z) : wpn (kX8_isTold Q) (n + 1) 40 lv st S c z := h
theorem u_X8_isTold_46 {Q : Option Value → MM → Prop} {n : Nat} {lv : Lv} {st : List Value} {S : MM} {c z : Nat} (h : bX8_isTold_46 Q (wpn (kX8_isTold Q) n) lv st S c z) : wpn (kX8_isTold Q) (n + 1) 46 lv st S c z := h
def P_X8_isTold_0 (Q : Option Value → MM → Prop) (S0 : MM) (m : Nat) (A : Nat → Nat) (n : Nat) : Prop := ∀ (lv : Lv) (S : MM) (i1 : Nat), lvg lv 0 = some (.ref m) → lvg lv 1 = some (.int (nI i1)) → i1 < 16 → SM [] m A S0 S → IM S m A → 372 ≤ n → wpn (kX8_isTold Q) n 0 lv [] S 0 0
def P_X8_isTold_14 (Q : Option Value → MM → Prop) (S0 : MM) (m : Nat) (A : Nat → Nat) (n : Nat) : Prop := ∀ (lv : Lv) (S : MM) (i1 : Nat) (i2 : Nat), lvg lv 0 = some (.ref m) → lvg lv 1 = some (.int (nI i1)) → i1 < 16 → lvg lv 2 = some (.int (nI i2)) → i2 < 6 → SM [] m A S0 S → IM S m A → 31 + 62 * (5 - i2) ≤ n → wpn (kX8_isTold Q) n 14 lv [] S 0 0
theorem B_X8_isTold_0 {Q : Option Value → MM → Prop} {S0 : MM} {m : Nat} {A : Nat → Nat} {n : Nat} (hM : MS S0 m A) (K : ∀ j S', SM [] m A S0 S' → IM S' m A → j < 2 → Q (some (.int (nI j))) S') (t_14 : ∀ k, k ≤ n → P_X8_isTold_14 Q S0 m A k) : P_X8_isTold_0 Q S0 m A (n + 1) := by
  intro lv S i1 g0 g1 h1 sh im hF
  refine u_X8_isTold_0 ?_
  unfold bX8_isTold_0
  refine e_ldA g0 ?_
  refine e_gR (SM_k sh hM.1) (SM_r sh (hM.2.1 21 (by decide)).1) ?_
  refine e_ldI g1 ?_
  refine e_aI (N := 16) (SM_k sh (hM.2.1 21 (by decide)).2.1) (SM_n sh (hM.2.1 21 (by decide)).2.2.1) (by omega) (by decide) (fun v1 hv2 => ?_)
  refine e_cI ?_
  refine e_ifc ?_ ?_
  · refine e_cN 0 rfl ?_
    exact e_rZ (by omega) (K 0 _ sh im (by omega))
  · obtain ⟨q3, rfl⟩ : ∃ q, n = q + 1 := ⟨n - 1, by omega⟩
    refine u_X8_isTold_12 ?_
    unfold bX8_isTold_12
    refine e_cN 0 rfl ?_
    refine e_stI ?_
    exact t_14 q3 (by omega) _ _ i1 0 (lvg_ne g0 rfl (by decide)) (lvg_ne g1 rfl (by decide)) (by omega) lvg_self (by omega) sh im (by omega)
theorem B_X8_isTold_14 {Q : Option Value → MM → Prop} {S0 : MM} {m : Nat} {A : Nat → Nat} {n : Nat} (hM : MS S0 m A) (K : ∀ j S', SM [] m A S0 S' → IM S' m A → j < 2 → Q (some (.int (nI j))) S') (t_14 : ∀ k, k ≤ n → P_X8_isTold_14 Q S0 m A k) : P_X8_isTold_14 Q S0 m A (n + 1) := by
  intro lv S i1 i2 g0 g1 h1 g2 h2 sh im hF
  refine u_X8_isTold_14 ?_
  unfold bX8_isTold_14
  refine e_ldI g2 ?_
  refine e_cN 5 rfl ?_
  refine e_ge (by omega) (by omega) (fun h1 => ?_) (fun h1 => ?_)
  · obtain ⟨q2, rfl⟩ : ∃ q, n = q + 1 := ⟨n - 1, by omega⟩
    refine u_X8_isTold_46 ?_
    unfold bX8_isTold_46
    refine e_cN 1 rfl ?_
    exact e_rZ (by omega) (K 1 _ sh im (by omega))
  · refine e_ldA g0 ?_
    refine e_gR (SM_k sh hM.1) (SM_r sh (hM.2.1 20 (by decide)).1) ?_
    refine e_cN 5 rfl ?_
    refine e_ldI g1 ?_
    refine e_mul ?_
    refine e_ldI g2 ?_
    refine e_add ?_
    refine e_aI (N := 80) (SM_k sh (hM.2.1 20 (by decide)).2.1) (SM_n sh (hM.2.1 20 (by decide)).2.2.1) (by omega) (by decide) (fun v3 hv4 => ?_)
    refine e_ldA g0 ?_
    refine e_ldI g1 ?_
    refine e_ldI g2 ?_
    refine And.intro (SM_k sh hM.1) (And.intro ⟨by decide, by decide⟩ (z_X8_own (MS_SM hM sh) im (show i1 < 16 by omega) (fun r9 S5 s6 ir7 => ?_)))
    have sh8 := SM.tr sh s6 (by decide)
    refine e_ifc ?_ ?_
    · obtain ⟨q10, rfl⟩ : ∃ q, n = q + 1 := ⟨n - 1, by omega⟩
      refine u_X8_isTold_40 ?_
      unfold bX8_isTold_40
      refine e_inc g2 ?_
      exact t_14 q10 (by omega) _ _ i1 (i2 + 1) (lvg_ne g0 rfl (by decide)) (lvg_ne g1 rfl (by decide)) (by omega) lvg_self (by omega) sh8 ir7 (by omega)
    · refine e_cN 0 rfl ?_
      exact e_rZ (by omega) (K 0 _ sh8 ir7 (by omega))
theorem A_X8_isTold {Q : Option Value → MM → Prop} {S0 : MM} {m : Nat} {A : Nat → Nat} (hM : MS S0 m A) (K : ∀ j S', SM [] m A S0 S' → IM S' m A → j < 2 → Q (some (.int (nI j))) S') : ∀ n k, k ≤ n → P_X8_isTold_0 Q S0 m A k ∧ P_X8_isTold_14 Q S0 m A k := by
  intro n
  induction n with
  | zero =>
    intro k hk
    have e : k = 0 := by omega
    subst e
    exact ⟨(fun lv S i1 _ _ _ _ _ hF => absurd hF (by omega)), (fun lv S i1 i2 _ _ _ _ _ _ _ hF => absurd hF (by omega))⟩
  | succ n ih =>
    intro k hk
    by_cases hn : k ≤ n
    · exact ih k hn
    · have e : k = n + 1 := by omega
      subst e
      have T_0 : ∀ k, k ≤ n → P_X8_isTold_0 Q S0 m A k := fun k hk => (ih k hk).1
      have T_14 : ∀ k, k ≤ n → P_X8_isTold_14 Q S0 m A k := fun k hk => (ih k hk).2
      exact ⟨B_X8_isTold_0 hM K T_14, B_X8_isTold_14 hM K T_14⟩
theorem z_X8_isTold {Q : Option Value → MM → Prop} {S0 : MM} {m : Nat} {A : Nat → Nat} {i1 : Nat} (hM : MS S0 m A) (im : IM S0 m A) (h1 : i1 < 16) (K : ∀ j S', SM [] m A S0 S' → IM S' m A → j < 2 → Q (some (.int (nI j))) S') : wX8_isTold [.ref m, .int (nI i1)] S0 Q := by
  exact Exists.intro 372 ((A_X8_isTold hM K 372 372 (Nat.le_refl _)).1 _ S0 i1 rfl rfl h1 SM.rf im (by omega))
theorem u_X8_agrees_0 {Q : Option Value → MM → Prop} {n : Nat} {lv : Lv} {st : List Value} {S : MM} {c z : Nat} (h : bX8_agrees_0 Q (wpn (kX8_agrees Q) n) lv st S c z) : wpn (kX8_agrees Q) (n + 1) 0 lv st S c z := h
theorem u_X8_agrees_74 {Q : Option Value → MM → Prop} {n : Nat} {lv : Lv} {st : List Value} {S : MM} {c z : Nat} (h : bX8_agrees_74 Q (wpn (kX8_agrees Q) n) lv st S c z) : wpn (kX8_agrees Q) (n + 1) 74 lv st S c z := h
theorem u_X8_agrees_78 {Q : Option Value → MM → Prop} {n : Nat} {lv : Lv} {st : List Value} {S : MM} {c z : Nat} (h : bX8_agrees_78 Q (wpn (kX8_agrees Q) n) lv st S c z) : wpn (kX8_agrees Q) (n + 1) 78 lv st S c z := h
theorem u_X8_agrees_79 {Q : Option Value → MM → Prop} {n : Nat} {lv : Lv} {st : List Value} {S : MM} {c z : Nat} (h : bX8_agrees_79 Q (wpn (kX8_agrees Q) n) lv st S c z) : wpn (kX8_agrees Q) (n + 1) 79 lv st S c z := h
theorem z_X8_agrees {Q : Option Value → MM → Prop} {S0 : MM} {m : Nat} {A : Nat → Nat} {i1 : Nat} (hM : MS S0 m A) (im : IM S0 m A) (h1 : i1 < 8) (K : ∀ j S', SM [] m A S0 S' → IM S' m A → j < 2 → Q (some (.int (nI j))) S') : wX8_agrees [.ref m, .int (nI i1)] S0 Q := by
  have sh : SM [] m A S0 S0 := SM.rf
  refine Exists.intro 60 (u_X8_agrees_0 ?_)
  unfold bX8_agrees_0
  refine e_ldA rfl ?_
  refine e_gR (SM_k sh hM.1) (SM_r sh (hM.2.1 24 (by decide)).1) ?_
  refine e_ldI rfl ?_
  refine e_aI (N := 8) (SM_k sh (hM.2.1 24 (by decide)).2.1) (SM_n sh (hM.2.1 24 (by decide)).2.2.1) (by omega) (by decide) (fun v1 hv2 => ?_)
  refine e_if0 (fun h3 => ?_) (fun h3 => ?_)
  · refine u_X8_agrees_78 ?_
    unfold bX8_agrees_78
    refine e_cN 0 rfl ?_
    refine u_X8_agrees_79 ?_
    unfold bX8_agrees_79
    exact e_rZ (by omega) (K 0 _ sh im (by omega))
  · refine e_ldA rfl ?_
    refine e_gR (SM_k sh hM.1) (SM_r sh (hM.2.1 25 (by decide)).1) ?_
    refine e_ldI rfl ?_
    refine e_aI (N := 8) (SM_k sh (hM.2.1 25 (by decide)).2.1) (SM_n sh (hM.2.1 25 (by decide)).2.2.1) (by omega) (by decide) (fun v4 hv5 => ?_)
    refine e_if0 (fun h6 => ?_) (fun h6 => ?_)
    · refine u_X8_agrees_78 ?_
      unfold bX8_agrees_78
      refine e_cN 0 rfl ?_
      refine u_X8_agrees_79 ?_
      unfold bX8_agrees_79
      exact e_rZ (by omega) (K 0 _ sh im (by omega))
    · refine e_ldA rfl ?_
      refine e_gR (SM_k sh hM.1) (SM_r sh (hM.2.1 3 (by decide)).1) ?_
      refine e_ldA rfl ?_
      refine e_ldI rfl ?_
      refine e_cN 0 rfl ?_
      refine And.intro (SM_k sh hM.1) (And.intro ⟨by decide, by decide⟩ (z_X8_portAt (MS_SM hM sh) im (show i1 < 8 by omega) (show 0 < 2 by omega) (fun n11 S7 s8 ir9 hn12 => ?_)))
      have sh10 := SM.tr sh s8 (by decide)
      refine e_aI (N := 16) (SM_k sh10 (hM.2.1 3 (by decide)).2.1) (SM_n sh10 (hM.2.1 3 (by decide)).2.2.1) (by omega) (by decide) (fun v13 hv14 => ?_)
      refine e_ifz ?_ ?_
      · refine u_X8_agrees_78 ?_
        unfold bX8_agrees_78
        refine e_cN 0 rfl ?_
        refine u_X8_agrees_79 ?_
        unfold bX8_agrees_79
        exact e_rZ (by omega) (K 0 _ sh10 ir9 (by omega))
      · refine e_ldA rfl ?_
        refine e_gR (SM_k sh10 hM.1) (SM_r sh10 (hM.2.1 3 (by decide)).1) ?_
        refine e_ldA rfl ?_
        refine e_ldI rfl ?_
        refine e_cN 1 rfl ?_
        refine And.intro (SM_k sh10 hM.1) (And.intro ⟨by decide, by decide⟩ (z_X8_portAt (MS_SM hM sh10) ir9 (show i1 < 8 by omega) (show 1 < 2 by omega) (fun n19 S15 s16 ir17 hn20 => ?_)))
        have sh18 := SM.tr sh10 s16 (by decide)
        refine e_aI (N := 16) (SM_k sh18 (hM.2.1 3 (by decide)).2.1) (SM_n sh18 (hM.2.1 3 (by decide)).2.2.1) (by omega) (by decide) (fun v21 hv22 => ?_)
        refine e_ifz ?_ ?_
        · refine u_X8_agrees_78 ?_
          unfold bX8_agrees_78
          refine e_cN 0 rfl ?_
          refine u_X8_agrees_79 ?_
          unfold bX8_agrees_79
          exact e_rZ (by omega) (K 0 _ sh18 ir17 (by omega))
        · refine e_ldA rfl ?_
          refine e_gR (SM_k sh18 hM.1) (SM_r sh18 (hM.2.1 5 (by decide)).1) ?_
          refine e_ldA rfl ?_
          refine e_ldI rfl ?_
          refine e_cN 0 rfl ?_
          refine And.intro (SM_k sh18 hM.1) (And.intro ⟨by decide, by decide⟩ (z_X8_portAt (MS_SM hM sh18) ir17 (show i1 < 8 by omega) (show 0 < 2 by omega) (fun n27 S23 s24 ir25 hn28 => ?_)))
          have sh26 := SM.tr sh18 s24 (by decide)
          refine e_aI (N := 16) (SM_k sh26 (hM.2.1 5 (by decide)).2.1) (SM_n sh26 (hM.2.1 5 (by decide)).2.2.1) (by omega) (by decide) (fun v29 hv30 => ?_)
          refine e_if0 (fun h31 => ?_) (fun h31 => ?_)
          · refine e_ldA rfl ?_
            refine e_gR (SM_k sh26 hM.1) (SM_r sh26 (hM.2.1 5 (by decide)).1) ?_
            refine e_ldA rfl ?_
            refine e_ldI rfl ?_
            refine e_cN 1 rfl ?_
            refine And.intro (SM_k sh26 hM.1) (And.intro ⟨by decide, by decide⟩ (z_X8_portAt (MS_SM hM sh26) ir25 (show i1 < 8 by omega) (show 1 < 2 by omega) (fun n36 S32 s33 ir34 hn37 => ?_)))
            have sh35 := SM.tr sh26 s33 (by decide)
            refine e_aI (N := 16) (SM_k sh35 (hM.2.1 5 (by decide)).2.1) (SM_n sh35 (hM.2.1 5 (by decide)).2.2.1) (by omega) (by decide) (fun v38 hv39 => ?_)
            refine e_if0 (fun h40 => ?_) (fun h40 => ?_)
            · refine u_X8_agrees_78 ?_
              unfold bX8_agrees_78
              refine e_cN 0 rfl ?_
              refine u_X8_agrees_79 ?_
              unfold bX8_agrees_79
              exact e_rZ (by omega) (K 0 _ sh35 ir34 (by omega))
            · refine u_X8_agrees_74 ?_
              unfold bX8_agrees_74
              refine e_cN 1 rfl ?_
              refine u_X8_agrees_79 ?_
              unfold bX8_agrees_79
              exact e_rZ (by omega) (K 1 _ sh35 ir34 (by omega))
          · refine u_X8_agrees_74 ?_
            unfold bX8_agrees_74
            refine e_cN 1 rfl ?_
            refine u_X8_agrees_79 ?_
            unfold bX8_agrees_79
            exact e_rZ (by omega) (K 1 _ sh26 ir25 (by omega))
theorem u_X8_isMeant_0 {Q : Option Value → MM → Prop} {n : Nat} {lv : Lv} {st : List Value} {S : MM} {c z : Nat} (h : bX8_isMeant_0 Q (wpn (kX8_isMeant Q) n) lv st S c z) : wpn (kX8_isMeant Q) (n + 1) 0 lv st S c z := h
theorem u_X8_isMeant_10 {Q : Option Value → MM → Prop} {n : Nat} {lv : Lv} {st : List Value} {S : MM} {c z : Nat} (h : bX8_isMeant_10 Q (wpn (kX8_isMeant Q) n) lv st S c z) : wpn (kX8_isMeant Q) (n + 1) 10 lv st S c z := h
theorem u_X8_isMeant_14 {Q : Option Value → MM → Prop} {n : Nat} {lv : Lv} {st : List Value} {S : MM} {c z : Nat} (h : bX8_isMeant_14 Q (wpn (kX8_isMeant Q) n) lv st S c z) : wpn (kX8_isMeant Q) (n + 1) 14 lv st S c z := h
theorem u_X8_isMeant_86 {Q : Option Value → MM → Prop} {n : Nat} {lv : Lv} {st : List Value} {S : MM} {c z : Nat} (h : bX8_isMeant_86 Q (wpn (kX8_isMeant Q) n) lv st S c z) : wpn (kX8_isMeant Q) (n + 1) 86 lv st S c z := h
theorem u_X8_isMeant_147 {Q : Option Value → MM → Prop} {n : Nat} {lv : Lv} {st : List Value} {S : MM} {c z : Nat} (h : bX8_isMeant_147 Q (wpn (kX8_isMeant Q) n) lv st S c z) : wpn (kX8_isMeant Q) (n + 1) 147 lv st S c z := h
theorem u_X8_isMeant_151 {Q : Option Value → MM → Prop} {n : Nat} {lv : Lv} {st : List Value} {S : MM} {c z : Nat} (h : bX8_isMeant_151 Q (wpn (kX8_isMeant Q) n) lv st S c z) : wpn (kX8_isMeant Q) (n + 1) 151 lv st S c z := h
theorem u_X8_isMeant_162 {Q : Option Value → MM → Prop} {n : Nat} {lv : Lv} {st : List Value} {S : MM} {c z : Nat} (h : bX8_isMeant_162 Q (wpn (kX8_isMeant Q) n) lv st S c z) : wpn (kX8_isMeant Q) (n + 1) 162 lv st S c z := h
theorem u_X8_isMeant_163 {Q : Option Value → MM → Prop} {n : Nat} {lv : Lv} {st : List Value} {S : MM} {c z : Nat} (h : bX8_isMeant_163 Q (wpn (kX8_isMeant Q) n) lv st S c z) : wpn (kX8_isMeant Q) (n + 1) 163 lv st S c z := h
theorem u_X8_isMeant_165 {Q : Option Value → MM → Prop} {n : Nat} {lv : Lv} {st : List Value} {S : MM} {c z : Nat} (h : bX8_isMeant_165 Q (wpn (kX8_isMeant Q) n) lv st S c z) : wpn (kX8_isMeant Q) (n + 1) 165 lv st S c z := h
theorem u_X8_isMeant_171 {Q : Option Value → MM → Prop} {n : Nat} {lv : Lv} {st : List Value} {S : MM} {c z : Nat} (h : bX8_isMeant_171 Q (wpn (kX8_isMeant Q) n) lv st S c z) : wpn (kX8_isMeant Q) (n + 1) 171 lv st S c z := h
theorem u_X8_isMeant_194 {Q : Option Value → MM → Prop} {n : Nat} {lv : Lv} {st : List Value} {S : MM} {c z : Nat} (h : bX8_isMeant_194 Q (wpn (kX8_isMeant Q) n) lv st S c z) : wpn (kX8_isMeant Q) (n + 1) 194 lv st S c z := h
theorem u_X8_isMeant_195 {Q : Option Value → MM → Prop} {n : Nat} {lv : Lv} {st : List Value} {S : MM} {c z : Nat} (h : bX8_isMeant_195 Q (wpn (kX8_isMeant Q) n) lv st S c z) : wpn (kX8_isMeant Q) (n + 1) 195 lv st S c z := h
def P_X8_isMeant_0 (Q : Option Value → MM → Prop) (S0 : MM) (m : Nat) (A : Nat → Nat) (n : Nat) : Prop := ∀ (lv : Lv) (S : MM) (i1 : Nat), lvg lv 0 = some (.ref m) → lvg lv 1 = some (.int (nI i1)) → i1 < 8 → SM [] m A S0 S → IM S m A → 558 ≤ n → wpn (kX8_isMeant Q) n 0 lv [] S 0 0
def P_X8_isMeant_14 (Q : Option Value → MM → Prop) (S0 : MM) (m : Nat) (A : Nat → Nat) (n : Nat) : Prop := ∀ (lv : Lv) (S : MM) (i1 : Nat) (w2 : Int32) (i3 : Nat), lvg lv 0 = some (.ref m) → lvg lv 1 = some (.int (nI i1)) → i1 < 8 → lvg lv 2 = some (.int w2) → lvg lv 3 = some (.int (nI i3)) → i3 < 9 → SM [] m A S0 S → IM S m A → 31 + 62 * (8 - i3) ≤ n → wpn (kX8_isMeant Q) n 14 lv [] S 0 0
theorem B_X8_isMeant_0 {Q : Option Value → MM → Prop} {S0 : MM} {m : Nat} {A : Nat → Nat} {n : Nat} (hM : MS S0 m A) (K : ∀ j S', SM [] m A S0 S' → IM S' m A → j < 2 → Q (some (.int (nI j))) S') (t_14 : ∀ k, k ≤ n → P_X8_isMeant_14 Q S0 m A k) : P_X8_isMeant_0 Q S0 m A (n + 1) := by
  intro lv S i1 g0 g1 h1 sh im hF
  refine u_X8_isMeant_0 ?_
  unfold bX8_isMeant_0
  refine e_ldA g0 ?_
  refine e_ldI g1 ?_
  refine And.intro (SM_k sh hM.1) (And.intro ⟨by decide, by decide⟩ (z_X8_agrees (MS_SM hM sh) im (show i1 < 8 by omega) (fun n5 S1 s2 ir3 hn6 => ?_)))
  have sh4 := SM.tr sh s2 (by decide)
  refine e_ifN (by omega) (fun h7 => ?_) (fun h7 => ?_)
  · refine e_cN 0 rfl ?_
    exact e_rZ (by omega) (K 0 _ sh4 ir3 (by omega))
  · obtain ⟨q8, rfl⟩ : ∃ q, n = q + 1 := ⟨n - 1, by omega⟩
    refine u_X8_isMeant_10 ?_
    unfold bX8_isMeant_10
    refine e_cN 0 rfl ?_
    refine e_stI ?_
    refine e_cN 0 rfl ?_
    refine e_stI ?_
    exact t_14 q8 (by omega) _ _ i1 _ 0 (lvg_ne (lvg_ne g0 rfl (by decide)) rfl (by decide)) (lvg_ne (lvg_ne g1 rfl (by decide)) rfl (by decide)) (by omega) (lvg_ne lvg_self rfl (by decide)) lvg_self (by omega) sh4 ir3 (by omega)
theorem B_X8_isMeant_14 {Q : Option Value → MM → Prop} {S0 : MM} {m : Nat} {A : Nat → Nat} {n : Nat} (hM : MS S0 m A) (K : ∀ j S', SM [] m A S0 S' → IM S' m A → j < 2 → Q (some (.int (nI j))) S') (t_14 : ∀ k, k ≤ n → P_X8_isMeant_14 Q S0 m A k) : P_X8_isMeant_14 Q S0 m A (n + 1) := by
  intro lv S i1 w2 i3 g0 g1 h1 g2 g3 h3 sh im hF
  refine u_X8_isMeant_14 ?_
  unfold bX8_isMeant_14
  refine e_ldI g3 ?_
  refine e_cN 8 rfl ?_
  refine e_ge (by omega) (by omega) (fun h1 => ?_) (fun h1 => ?_)
  · obtain ⟨q2, rfl⟩ : ∃ q, n = q + 1 := ⟨n - 1, by omega⟩
    refine u_X8_isMeant_171 ?_
    unfold bX8_isMeant_171
    refine e_ldI g2 ?_
    refine e_ldA g0 ?_
    refine e_gR (SM_k sh hM.1) (SM_r sh (hM.2.1 2 (by decide)).1) ?_
    refine e_cN 0 rfl ?_
    refine e_aI (N := 2) (SM_k sh (hM.2.1 2 (by decide)).2.1) (SM_n sh (hM.2.1 2 (by decide)).2.2.1) (by omega) (by decide) (fun v3 hv4 => ?_)
    refine e_ldA g0 ?_
    refine e_gR (SM_k sh hM.1) (SM_r sh (hM.2.1 2 (by decide)).1) ?_
    refine e_cN 1 rfl ?_
    refine e_aI (N := 2) (SM_k sh (hM.2.1 2 (by decide)).2.1) (SM_n sh (hM.2.1 2 (by decide)).2.2.1) (by omega) (by decide) (fun v5 hv6 => ?_)
    refine e_mMg rfl (fun r7 => ?_)
    refine e_ifc ?_ ?_
    · obtain ⟨q8, rfl⟩ : ∃ q, q2 = q + 1 := ⟨q2 - 1, by omega⟩
      refine u_X8_isMeant_194 ?_
      unfold bX8_isMeant_194
      refine e_cN 0 rfl ?_
      obtain ⟨q9, rfl⟩ : ∃ q, q8 = q + 1 := ⟨q8 - 1, by omega⟩
      refine u_X8_isMeant_195 ?_
      unfold bX8_isMeant_195
      exact e_rZ (by omega) (K 0 _ sh im (by omega))
    · refine e_cN 1 rfl ?_
      obtain ⟨q10, rfl⟩ : ∃ q, q2 = q + 1 := ⟨q2 - 1, by omega⟩
      refine u_X8_isMeant_195 ?_
      unfold bX8_isMeant_195
      exact e_rZ (by omega) (K 1 _ sh im (by omega))
  · refine e_ldI g3 ?_
    refine e_ldI g1 ?_
    refine e_eq (by omega) (by omega) (fun h11 => ?_) (fun h11 => ?_)
    · obtain ⟨q12, rfl⟩ : ∃ q, n = q + 1 := ⟨n - 1, by omega⟩
      refine u_X8_isMeant_165 ?_
      unfold bX8_isMeant_165
      refine e_inc g3 ?_
      exact t_14 q12 (by omega) _ _ i1 _ (i3 + 1) (lvg_ne g0 rfl (by decide)) (lvg_ne g1 rfl (by decide)) (by omega) (lvg_ne g2 rfl (by decide)) lvg_self (by omega) sh im (by omega)
    · refine e_ldA g0 ?_
      refine e_ldI g3 ?_
      refine And.intro (SM_k sh hM.1) (And.intro ⟨by decide, by decide⟩ (z_X8_agrees (MS_SM hM sh) im (show i3 < 8 by omega) (fun n17 S13 s14 ir15 hn18 => ?_)))
      have sh16 := SM.tr sh s14 (by decide)
      refine e_ifN (by omega) (fun h19 => ?_) (fun h19 => ?_)
      · obtain ⟨q20, rfl⟩ : ∃ q, n = q + 1 := ⟨n - 1, by omega⟩
        refine u_X8_isMeant_165 ?_
        unfold bX8_isMeant_165
        refine e_inc g3 ?_
        exact t_14 q20 (by omega) _ _ i1 _ (i3 + 1) (lvg_ne g0 rfl (by decide)) (lvg_ne g1 rfl (by decide)) (by omega) (lvg_ne g2 rfl (by decide)) lvg_self (by omega) sh16 ir15 (by omega)
      · refine e_ldA g0 ?_
        refine e_gR (SM_k sh16 hM.1) (SM_r sh16 (hM.2.1 3 (by decide)).1) ?_
        refine e_ldA g0 ?_
        refine e_ldI g1 ?_
        refine e_cN 0 rfl ?_
        refine And.intro (SM_k sh16 hM.1) (And.intro ⟨by decide, by decide⟩ (z_X8_portAt (MS_SM hM sh16) ir15 (show i1 < 8 by omega) (show 0 < 2 by omega) (fun n25 S21 s22 ir23 hn26 => ?_)))
        have sh24 := SM.tr sh16 s22 (by decide)
        refine e_aI (N := 16) (SM_k sh24 (hM.2.1 3 (by decide)).2.1) (SM_n sh24 (hM.2.1 3 (by decide)).2.2.1) (by omega) (by decide) (fun v27 hv28 => ?_)
        refine e_ldA g0 ?_
        refine e_gR (SM_k sh24 hM.1) (SM_r sh24 (hM.2.1 3 (by decide)).1) ?_
        refine e_ldA g0 ?_
        refine e_ldI g3 ?_
        refine e_cN 0 rfl ?_
        refine And.intro (SM_k sh24 hM.1) (And.intro ⟨by decide, by decide⟩ (z_X8_portAt (MS_SM hM sh24) ir23 (show i3 < 8 by omega) (show 0 < 2 by omega) (fun n33 S29 s30 ir31 hn34 => ?_)))
        have sh32 := SM.tr sh24 s30 (by decide)
        refine e_aI (N := 16) (SM_k sh32 (hM.2.1 3 (by decide)).2.1) (SM_n sh32 (hM.2.1 3 (by decide)).2.2.1) (by omega) (by decide) (fun v35 hv36 => ?_)
        refine e_ifc ?_ ?_
        · refine e_ldA g0 ?_
          refine e_gR (SM_k sh32 hM.1) (SM_r sh32 (hM.2.1 3 (by decide)).1) ?_
          refine e_ldA g0 ?_
          refine e_ldI g1 ?_
          refine e_cN 1 rfl ?_
          refine And.intro (SM_k sh32 hM.1) (And.intro ⟨by decide, by decide⟩ (z_X8_portAt (MS_SM hM sh32) ir31 (show i1 < 8 by omega) (show 1 < 2 by omega) (fun n41 S37 s38 ir39 hn42 => ?_)))
          have sh40 := SM.tr sh32 s38 (by decide)
          refine e_aI (N := 16) (SM_k sh40 (hM.2.1 3 (by decide)).2.1) (SM_n sh40 (hM.2.1 3 (by decide)).2.2.1) (by omega) (by decide) (fun v43 hv44 => ?_)
          refine e_ldA g0 ?_
          refine e_gR (SM_k sh40 hM.1) (SM_r sh40 (hM.2.1 3 (by decide)).1) ?_
          refine e_ldA g0 ?_
          refine e_ldI g3 ?_
          refine e_cN 1 rfl ?_
          refine And.intro (SM_k sh40 hM.1) (And.intro ⟨by decide, by decide⟩ (z_X8_portAt (MS_SM hM sh40) ir39 (show i3 < 8 by omega) (show 1 < 2 by omega) (fun n49 S45 s46 ir47 hn50 => ?_)))
          have sh48 := SM.tr sh40 s46 (by decide)
          refine e_aI (N := 16) (SM_k sh48 (hM.2.1 3 (by decide)).2.1) (SM_n sh48 (hM.2.1 3 (by decide)).2.2.1) (by omega) (by decide) (fun v51 hv52 => ?_)
          refine e_ifc ?_ ?_
          · obtain ⟨q53, rfl⟩ : ∃ q, n = q + 1 := ⟨n - 1, by omega⟩
            refine u_X8_isMeant_86 ?_
            unfold bX8_isMeant_86
            refine e_ldA g0 ?_
            refine e_ldI g1 ?_
            refine e_ldA g0 ?_
            refine And.intro (SM_k sh48 hM.1) (And.intro ⟨by decide, by decide⟩ (z_X8_stronger (MS_SM hM sh48) ir47 (fun n58 S54 s55 ir56 hn59 => ?_)))
            have sh57 := SM.tr sh48 s55 (by decide)
            refine And.intro (SM_k sh57 hM.1) (And.intro ⟨by decide, by decide⟩ (z_X8_portAt (MS_SM hM sh57) ir56 (show i1 < 8 by omega) (show n58 < 2 by omega) (fun n64 S60 s61 ir62 hn65 => ?_)))
            have sh63 := SM.tr sh57 s61 (by decide)
            refine e_stI ?_
            refine e_ldA (lvg_ne g0 rfl (by decide)) ?_
            refine e_ldI (lvg_ne g3 rfl (by decide)) ?_
            refine e_ldA (lvg_ne g0 rfl (by decide)) ?_
            refine And.intro (SM_k sh63 hM.1) (And.intro ⟨by decide, by decide⟩ (z_X8_stronger (MS_SM hM sh63) ir62 (fun n70 S66 s67 ir68 hn71 => ?_)))
            have sh69 := SM.tr sh63 s67 (by decide)
            refine And.intro (SM_k sh69 hM.1) (And.intro ⟨by decide, by decide⟩ (z_X8_portAt (MS_SM hM sh69) ir68 (show i3 < 8 by omega) (show n70 < 2 by omega) (fun n76 S72 s73 ir74 hn77 => ?_)))
            have sh75 := SM.tr sh69 s73 (by decide)
            refine e_stI ?_
            refine e_ldI (lvg_ne (lvg_ne g2 rfl (by decide)) rfl (by decide)) ?_
            refine e_ldA (lvg_ne (lvg_ne g0 rfl (by decide)) rfl (by decide)) ?_
            refine e_gR (SM_k sh75 hM.1) (SM_r sh75 (hM.2.1 4 (by decide)).1) ?_
            refine e_ldI lvg_self ?_
            refine e_aI (N := 16) (SM_k sh75 (hM.2.1 4 (by decide)).2.1) (SM_n sh75 (hM.2.1 4 (by decide)).2.2.1) (by omega) (by decide) (fun v78 hv79 => ?_)
            refine e_ldA (lvg_ne (lvg_ne g0 rfl (by decide)) rfl (by decide)) ?_
            refine e_gR (SM_k sh75 hM.1) (SM_r sh75 (hM.2.1 4 (by decide)).1) ?_
            refine e_ldI (lvg_ne lvg_self rfl (by decide)) ?_
            refine e_aI (N := 16) (SM_k sh75 (hM.2.1 4 (by decide)).2.1) (SM_n sh75 (hM.2.1 4 (by decide)).2.2.1) (by omega) (by decide) (fun v80 hv81 => ?_)
            refine e_ifc ?_ ?_
            · obtain ⟨q82, rfl⟩ : ∃ q, q53 = q + 1 := ⟨q53 - 1, by omega⟩
              refine u_X8_isMeant_151 ?_
              unfold bX8_isMeant_151
              refine e_ldI lvg_self ?_
              refine e_ldI (lvg_ne lvg_self rfl (by decide)) ?_
              refine e_ge (by omega) (by omega) (fun h83 => ?_) (fun h83 => ?_)
              · obtain ⟨q84, rfl⟩ : ∃ q, q82 = q + 1 := ⟨q82 - 1, by omega⟩
                refine u_X8_isMeant_162 ?_
                unfold bX8_isMeant_162
                refine e_cN 0 rfl ?_
                obtain ⟨q85, rfl⟩ : ∃ q, q84 = q + 1 := ⟨q84 - 1, by omega⟩
                refine u_X8_isMeant_163 ?_
                unfold bX8_isMeant_163
                refine e_bopU (fun r86 => ?_)
                refine e_stI ?_
                obtain ⟨q87, rfl⟩ : ∃ q, q85 = q + 1 := ⟨q85 - 1, by omega⟩
                refine u_X8_isMeant_165 ?_
                unfold bX8_isMeant_165
                refine e_inc (lvg_ne (lvg_ne (lvg_ne g3 rfl (by decide)) rfl (by decide)) rfl (by decide)) ?_
                exact t_14 q87 (by omega) _ _ i1 _ (i3 + 1) (lvg_ne (lvg_ne (lvg_ne (lvg_ne g0 rfl (by decide)) rfl (by decide)) rfl (by decide)) rfl (by decide)) (lvg_ne (lvg_ne (lvg_ne (lvg_ne g1 rfl (by decide)) rfl (by decide)) rfl (by decide)) rfl (by decide)) (by omega) (lvg_ne lvg_self rfl (by decide)) lvg_self (by omega) sh75 ir74 (by omega)
              · refine e_cN 1 rfl ?_
                obtain ⟨q88, rfl⟩ : ∃ q, q82 = q + 1 := ⟨q82 - 1, by omega⟩
                refine u_X8_isMeant_163 ?_
                unfold bX8_isMeant_163
                refine e_bopU (fun r89 => ?_)
                refine e_stI ?_
                obtain ⟨q90, rfl⟩ : ∃ q, q88 = q + 1 := ⟨q88 - 1, by omega⟩
                refine u_X8_isMeant_165 ?_
                unfold bX8_isMeant_165
                refine e_inc (lvg_ne (lvg_ne (lvg_ne g3 rfl (by decide)) rfl (by decide)) rfl (by decide)) ?_
                exact t_14 q90 (by omega) _ _ i1 _ (i3 + 1) (lvg_ne (lvg_ne (lvg_ne (lvg_ne g0 rfl (by decide)) rfl (by decide)) rfl (by decide)) rfl (by decide)) (lvg_ne (lvg_ne (lvg_ne (lvg_ne g1 rfl (by decide)) rfl (by decide)) rfl (by decide)) rfl (by decide)) (by omega) (lvg_ne lvg_self rfl (by decide)) lvg_self (by omega) sh75 ir74 (by omega)
            · refine e_ldA (lvg_ne (lvg_ne g0 rfl (by decide)) rfl (by decide)) ?_
              refine e_gR (SM_k sh75 hM.1) (SM_r sh75 (hM.2.1 4 (by decide)).1) ?_
              refine e_ldI lvg_self ?_
              refine e_aI (N := 16) (SM_k sh75 (hM.2.1 4 (by decide)).2.1) (SM_n sh75 (hM.2.1 4 (by decide)).2.2.1) (by omega) (by decide) (fun v91 hv92 => ?_)
              refine e_ldA (lvg_ne (lvg_ne g0 rfl (by decide)) rfl (by decide)) ?_
              refine e_gR (SM_k sh75 hM.1) (SM_r sh75 (hM.2.1 4 (by decide)).1) ?_
              refine e_ldI (lvg_ne lvg_self rfl (by decide)) ?_
              refine e_aI (N := 16) (SM_k sh75 (hM.2.1 4 (by decide)).2.1) (SM_n sh75 (hM.2.1 4 (by decide)).2.2.1) (by omega) (by decide) (fun v93 hv94 => ?_)
              refine e_ifc ?_ ?_
              · obtain ⟨q95, rfl⟩ : ∃ q, q53 = q + 1 := ⟨q53 - 1, by omega⟩
                refine u_X8_isMeant_147 ?_
                unfold bX8_isMeant_147
                refine e_cN 0 rfl ?_
                obtain ⟨q96, rfl⟩ : ∃ q, q95 = q + 1 := ⟨q95 - 1, by omega⟩
                refine u_X8_isMeant_163 ?_
                unfold bX8_isMeant_163
                refine e_bopU (fun r97 => ?_)
                refine e_stI ?_
                obtain ⟨q98, rfl⟩ : ∃ q, q96 = q + 1 := ⟨q96 - 1, by omega⟩
                refine u_X8_isMeant_165 ?_
                unfold bX8_isMeant_165
                refine e_inc (lvg_ne (lvg_ne (lvg_ne g3 rfl (by decide)) rfl (by decide)) rfl (by decide)) ?_
                exact t_14 q98 (by omega) _ _ i1 _ (i3 + 1) (lvg_ne (lvg_ne (lvg_ne (lvg_ne g0 rfl (by decide)) rfl (by decide)) rfl (by decide)) rfl (by decide)) (lvg_ne (lvg_ne (lvg_ne (lvg_ne g1 rfl (by decide)) rfl (by decide)) rfl (by decide)) rfl (by decide)) (by omega) (lvg_ne lvg_self rfl (by decide)) lvg_self (by omega) sh75 ir74 (by omega)
              · refine e_cN 1 rfl ?_
                obtain ⟨q99, rfl⟩ : ∃ q, q53 = q + 1 := ⟨q53 - 1, by omega⟩
                refine u_X8_isMeant_163 ?_
                unfold bX8_isMeant_163
                refine e_bopU (fun r100 => ?_)
                refine e_stI ?_
                obtain ⟨q101, rfl⟩ : ∃ q, q99 = q + 1 := ⟨q99 - 1, by omega⟩
                refine u_X8_isMeant_165 ?_
                unfold bX8_isMeant_165
                refine e_inc (lvg_ne (lvg_ne (lvg_ne g3 rfl (by decide)) rfl (by decide)) rfl (by decide)) ?_
                exact t_14 q101 (by omega) _ _ i1 _ (i3 + 1) (lvg_ne (lvg_ne (lvg_ne (lvg_ne g0 rfl (by decide)) rfl (by decide)) rfl (by decide)) rfl (by decide)) (lvg_ne (lvg_ne (lvg_ne (lvg_ne g1 rfl (by decide)) rfl (by decide)) rfl (by decide)) rfl (by decide)) (by omega) (lvg_ne lvg_self rfl (by decide)) lvg_self (by omega) sh75 ir74 (by omega)
          · obtain ⟨q102, rfl⟩ : ∃ q, n = q + 1 := ⟨n - 1, by omega⟩
            refine u_X8_isMeant_165 ?_
            unfold bX8_isMeant_165
            refine e_inc g3 ?_
            exact t_14 q102 (by omega) _ _ i1 _ (i3 + 1) (lvg_ne g0 rfl (by decide)) (lvg_ne g1 rfl (by decide)) (by omega) (lvg_ne g2 rfl (by decide)) lvg_self (by omega) sh48 ir47 (by omega)
        · obtain ⟨q103, rfl⟩ : ∃ q, n = q + 1 := ⟨n - 1, by omega⟩
          refine u_X8_isMeant_165 ?_
          unfold bX8_isMeant_165
          refine e_inc g3 ?_
          exact t_14 q103 (by omega) _ _ i1 _ (i3 + 1) (lvg_ne g0 rfl (by decide)) (lvg_ne g1 rfl (by decide)) (by omega) (lvg_ne g2 rfl (by decide)) lvg_self (by omega) sh32 ir31 (by omega)
theorem A_X8_isMeant {Q : Option Value → MM → Prop} {S0 : MM} {m : Nat} {A : Nat → Nat} (hM : MS S0 m A) (K : ∀ j S', SM [] m A S0 S' → IM S' m A → j < 2 → Q (some (.int (nI j))) S') : ∀ n k, k ≤ n → P_X8_isMeant_0 Q S0 m A k ∧ P_X8_isMeant_14 Q S0 m A k := by
  intro n
  induction n with
  | zero =>
    intro k hk
    have e : k = 0 := by omega
    subst e
    exact ⟨(fun lv S i1 _ _ _ _ _ hF => absurd hF (by omega)), (fun lv S i1 w2 i3 _ _ _ _ _ _ _ _ hF => absurd hF (by omega))⟩
  | succ n ih =>
    intro k hk
    by_cases hn : k ≤ n
    · exact ih k hn
    · have e : k = n + 1 := by omega
      subst e
      have T_0 : ∀ k, k ≤ n → P_X8_isMeant_0 Q S0 m A k := fun k hk => (ih k hk).1
      have T_14 : ∀ k, k ≤ n → P_X8_isMeant_14 Q S0 m A k := fun k hk => (ih k hk).2
      exact ⟨B_X8_isMeant_0 hM K T_14, B_X8_isMeant_14 hM K T_14⟩
theorem z_X8_isMeant {Q : Option Value → MM → Prop} {S0 : MM} {m : Nat} {A : Nat → Nat} {i1 : Nat} (hM : MS S0 m A) (im : IM S0 m A) (h1 : i1 < 8) (K : ∀ j S', SM [] m A S0 S' → IM S' m A → j < 2 → Q (some (.int (nI j))) S') : wX8_isMeant [.ref m, .int (nI i1)] S0 Q := by
  exact Exists.intro 558 ((A_X8_isMeant hM K 558 558 (Nat.le_refl _)).1 _ S0 i1 rfl rfl h1 SM.rf im (by omega))
theorem u_X8_on_0 {Q : Option Value → MM → Prop} {n : Nat} {lv : Lv} {st : List Value} {S : MM} {c z : Nat} (h : bX8_on_0 Q (wpn (kX8_on Q) n) lv st S c z) : wpn (kX8_on Q) (n + 1) 0 lv st S c z := h
theorem u_X8_on_6 {Q : Option Value → MM → Prop} {n : Nat} {lv : Lv} {st : List Value} {S : MM} {c z : Nat} (h : bX8_on_6 Q (wpn (kX8_on Q) n) lv st S c z) : wpn (kX8_on Q) (n + 1) 6 lv st S c z := h
theorem u_X8_on_54 {Q : Option Value → MM → Prop} {n : Nat} {lv : Lv} {st : List Value} {S : MM} {c z : Nat} (h : bX8_on_54 Q (wpn (kX8_on Q) n) lv st S c z) : wpn (kX8_on Q) (n + 1) 54 lv st S c z := h
theorem u_X8_on_55 {Q : Option Value → MM → Prop} {n : Nat} {lv : Lv} {st : List Value} {S : MM} {c z : Nat} (h : bX8_on_55 Q (wpn (kX8_on Q) n) lv st S c z) : wpn (kX8_on Q) (n + 1) 55 lv st S c z := h
theorem u_X8_on_63 {Q : Option Value → MM → Prop} {n : Nat} {lv : Lv} {st : List Value} {S : MM} {c z : Nat} (h : bX8_on_63 Q (wpn (kX8_on Q) n) lv st S c z) : wpn (kX8_on Q) (n + 1) 63 lv st S c z := h
theorem u_X8_on_64 {Q : Option Value → MM → Prop} {n : Nat} {lv : Lv} {st : List Value} {S : MM} {c z : Nat} (h : bX8_on_64 Q (wpn (kX8_on Q) n) lv st S c z) : wpn (kX8_on Q) (n + 1) 64 lv st S c z := h
theorem u_X8_on_73 {Q : Option Value → MM → Prop} {n : Nat} {lv : Lv} {st : List Value} {S : MM} {c z : Nat} (h : bX8_on_73 Q (wpn (kX8_on Q) n) lv st S c z) : wpn (kX8_on Q) (n + 1) 73 lv st S c z := h
def P_X8_on_0 (Q : Option Value → MM → Prop) (S0 : MM) (m : Nat) (A : Nat → Nat) (n : Nat) : Prop := ∀ (lv : Lv) (S : MM) (w1 : Int32) (w2 : Int32) (i3 : Nat), lvg lv 0 = some (.ref m) → lvg lv 1 = some (.int w1) → lvg lv 2 = some (.int w2) → lvg lv 3 = some (.int (nI i3)) → i3 < 2 → SM [] m A S0 S → IM S m A → 372093 ≤ n → wpn (kX8_on Q) n 0 lv [] S 0 0
def P_X8_on_6 (Q : Option Value → MM → Prop) (S0 : MM) (m : Nat) (A : Nat → Nat) (n : Nat) : Prop := ∀ (lv : Lv) (S : MM) (w1 : Int32) (w2 : Int32) (i3 : Nat) (w4 : Int32) (i5 : Nat), lvg lv 0 = some (.ref m) → lvg lv 1 = some (.int w1) → lvg lv 2 = some (.int w2) → lvg lv 3 = some (.int (nI i3)) → i3 < 2 → lvg lv 4 = some (.int w4) → lvg lv 5 = some (.int (nI i5)) → i5 < 4001 → SM [] m A S0 S → IM S m A → 62 + 93 * (4000 - i5) ≤ n → wpn (kX8_on Q) n 6 lv [] S 0 0
def P_X8_on_55 (Q : Option Value → MM → Prop) (S0 : MM) (m : Nat) (A : Nat → Nat) (n : Nat) : Prop := ∀ (lv : Lv) (S : MM) (w1 : Int32) (w2 : Int32) (i3 : Nat) (w4 : Int32) (i5 : Nat) (is0 : Nat) (ws1 : Int32), lvg lv 0 = some (.ref m) → lvg lv 1 = some (.int w1) → lvg lv 2 = some (.int w2) → lvg lv 3 = some (.int (nI i3)) → i3 < 2 → lvg lv 4 = some (.int w4) → lvg lv 5 = some (.int (nI i5)) → i5 < 4000 → is0 < 2 → SM [] m A S0 S → IM S m A → 31 + 93 * (4000 - i5) ≤ n → wpn (kX8_on Q) n 55 lv [.int (nI is0), .int ws1] S 0 0
theorem B_X8_on_0 {Q : Option Value → MM → Prop} {S0 : MM} {m : Nat} {A : Nat → Nat} {n : Nat} (hM : MS S0 m A) (K : ∀ r S', SM [] m A S0 S' → IM S' m A → Q (some (.int r)) S') (t_6 : ∀ k, k ≤ n → P_X8_on_6 Q S0 m A k) : P_X8_on_0 Q S0 m A (n + 1) := by
  intro lv S w1 w2 i3 g0 g1 g2 g3 h3 sh im hF
  refine u_X8_on_0 ?_
  unfold bX8_on_0
  refine e_cN 0 rfl ?_
  refine e_stI ?_
  refine e_cN 0 rfl ?_
  refine e_stI ?_
  exact t_6 n (by omega) _ _ _ _ i3 _ 0 (lvg_ne (lvg_ne g0 rfl (by decide)) rfl (by decide)) (lvg_ne (lvg_ne g1 rfl (by decide)) rfl (by decide)) (lvg_ne (lvg_ne g2 rfl (by decide)) rfl (by decide)) (lvg_ne (lvg_ne g3 rfl (by decide)) rfl (by decide)) (by omega) (lvg_ne lvg_self rfl (by decide)) lvg_self (by omega) sh im (by omega)
theorem B_X8_on_6 {Q : Option Value → MM → Prop} {S0 : MM} {m : Nat} {A : Nat → Nat} {n : Nat} (hM : MS S0 m A) (K : ∀ r S', SM [] m A S0 S' → IM S' m A → Q (some (.int r)) S') (t_6 : ∀ k, k ≤ n → P_X8_on_6 Q S0 m A k) (t_55 : ∀ k, k ≤ n → P_X8_on_55 Q S0 m A k) : P_X8_on_6 Q S0 m A (n + 1) := by
  intro lv S w1 w2 i3 w4 i5 g0 g1 g2 g3 h3 g4 g5 h5 sh im hF
  refine u_X8_on_6 ?_
  unfold bX8_on_6
  refine e_ldI g5 ?_
  refine e_ldA g0 ?_
  obtain ⟨n1, hn2, vn3⟩ := im.2.1 32 4001 rfl
  refine e_gV (v := nI n1) (SM_k sh hM.1) vn3 ?_
  refine e_ge (by omega) (by omega) (fun h4 => ?_) (fun h4 => ?_)
  · obtain ⟨q5, rfl⟩ : ∃ q, n = q + 1 := ⟨n - 1, by omega⟩
    refine u_X8_on_73 ?_
    unfold bX8_on_73
    refine e_ldI g4 ?_
    exact e_rI (K _ _ sh im)
  · refine e_ldI g4 ?_
    refine e_ldA g0 ?_
    refine e_gR (SM_k sh hM.1) (SM_r sh (hM.2.1 27 (by decide)).1) ?_
    refine e_ldI g5 ?_
    obtain ⟨n6, hn7, vn8⟩ := im.1 27 8 rfl i5
    refine e_aV (N := 4000) (v := nI n6) (SM_k sh (hM.2.1 27 (by decide)).2.1) (SM_n sh (hM.2.1 27 (by decide)).2.2.1) (by omega) (by decide) vn8 ?_
    refine e_ldI g1 ?_
    refine e_ifc ?_ ?_
    · refine e_ldA g0 ?_
      refine e_gR (SM_k sh hM.1) (SM_r sh (hM.2.1 28 (by decide)).1) ?_
      refine e_ldI g5 ?_
      obtain ⟨n9, hn10, vn11⟩ := im.1 28 2 rfl i5
      refine e_aV (N := 4000) (v := nI n9) (SM_k sh (hM.2.1 28 (by decide)).2.1) (SM_n sh (hM.2.1 28 (by decide)).2.2.1) (by omega) (by decide) vn11 ?_
      refine e_ldI g2 ?_
      refine e_ifc ?_ ?_
      · refine e_ldA g0 ?_
        refine e_gR (SM_k sh hM.1) (SM_r sh (hM.2.1 30 (by decide)).1) ?_
        refine e_ldI g5 ?_
        refine e_aI (N := 4000) (SM_k sh (hM.2.1 30 (by decide)).2.1) (SM_n sh (hM.2.1 30 (by decide)).2.2.1) (by omega) (by decide) (fun v12 hv13 => ?_)
        have p3014 : v12 = -1 ∨ ∃ f, f < 4200 ∧ v12 = nI f := by rw [← hv13]; exact im.2.2 i5
        refine e_cI ?_
        refine ⟨fun h15 => ?_, fun h15 => ?_⟩
        · refine e_cN 1 rfl ?_
          exact t_55 n (by omega) _ _ _ _ i3 _ i5 1 _ g0 g1 g2 g3 (by omega) g4 g5 (by omega) (by omega) sh im (by omega)
        · obtain ⟨n16, hn17, e18⟩ : ∃ f, f < 4200 ∧ v12 = nI f := p3014.elim (fun z => absurd z h15) id
          obtain ⟨q19, rfl⟩ : ∃ q, n = q + 1 := ⟨n - 1, by omega⟩
          refine u_X8_on_54 ?_
          unfold bX8_on_54
          refine e_cN 0 rfl ?_
          exact t_55 q19 (by omega) _ _ _ _ i3 _ i5 0 _ g0 g1 g2 g3 (by omega) g4 g5 (by omega) (by omega) sh im (by omega)
      · obtain ⟨q20, rfl⟩ : ∃ q, n = q + 1 := ⟨n - 1, by omega⟩
        refine u_X8_on_63 ?_
        unfold bX8_on_63
        refine e_cN 0 rfl ?_
        obtain ⟨q21, rfl⟩ : ∃ q, q20 = q + 1 := ⟨q20 - 1, by omega⟩
        refine u_X8_on_64 ?_
        unfold bX8_on_64
        refine e_bopU (fun r22 => ?_)
        refine e_stI ?_
        refine e_inc (lvg_ne g5 rfl (by decide)) ?_
        exact t_6 q21 (by omega) _ _ _ _ i3 _ (i5 + 1) (lvg_ne (lvg_ne g0 rfl (by decide)) rfl (by decide)) (lvg_ne (lvg_ne g1 rfl (by decide)) rfl (by decide)) (lvg_ne (lvg_ne g2 rfl (by decide)) rfl (by decide)) (lvg_ne (lvg_ne g3 rfl (by decide)) rfl (by decide)) (by omega) (lvg_ne lvg_self rfl (by decide)) lvg_self (by omega) sh im (by omega)
    · obtain ⟨q23, rfl⟩ : ∃ q, n = q + 1 := ⟨n - 1, by omega⟩
      refine u_X8_on_63 ?_
      unfold bX8_on_63
      refine e_cN 0 rfl ?_
      obtain ⟨q24, rfl⟩ : ∃ q, q23 = q + 1 := ⟨q23 - 1, by omega⟩
      refine u_X8_on_64 ?_
      unfold bX8_on_64
      refine e_bopU (fun r25 => ?_)
      refine e_stI ?_
      refine e_inc (lvg_ne g5 rfl (by decide)) ?_
      exact t_6 q24 (by omega) _ _ _ _ i3 _ (i5 + 1) (lvg_ne (lvg_ne g0 rfl (by decide)) rfl (by decide)) (lvg_ne (lvg_ne g1 rfl (by decide)) rfl (by decide)) (lvg_ne (lvg_ne g2 rfl (by decide)) rfl (by decide)) (lvg_ne (lvg_ne g3 rfl (by decide)) rfl (by decide)) (by omega) (lvg_ne lvg_self rfl (by decide)) lvg_self (by omega) sh im (by omega)
theorem B_X8_on_55 {Q : Option Value → MM → Prop} {S0 : MM} {m : Nat} {A : Nat → Nat} {n : Nat} (hM : MS S0 m A) (K : ∀ r S', SM [] m A S0 S' → IM S' m A → Q (some (.int r)) S') (t_6 : ∀ k, k ≤ n → P_X8_on_6 Q S0 m A k) : P_X8_on_55 Q S0 m A (n + 1) := by
  intro lv S w1 w2 i3 w4 i5 is0 ws1 g0 g1 g2 g3 h3 g4 g5 h5 hs0 sh im hF
  refine u_X8_on_55 ?_
  unfold bX8_on_55
  refine e_ldI g3 ?_
  refine e_eq (by omega) (by omega) (fun h1 => ?_) (fun h1 => ?_)
  · refine e_cN 1 rfl ?_
    obtain ⟨q2, rfl⟩ : ∃ q, n = q + 1 := ⟨n - 1, by omega⟩
    refine u_X8_on_64 ?_
    unfold bX8_on_64
    refine e_bopU (fun r3 => ?_)
    refine e_stI ?_
    refine e_inc (lvg_ne g5 rfl (by decide)) ?_
    exact t_6 q2 (by omega) _ _ _ _ i3 _ (i5 + 1) (lvg_ne (lvg_ne g0 rfl (by decide)) rfl (by decide)) (lvg_ne (lvg_ne g1 rfl (by decide)) rfl (by decide)) (lvg_ne (lvg_ne g2 rfl (by decide)) rfl (by decide)) (lvg_ne (lvg_ne g3 rfl (by decide)) rfl (by decide)) (by omega) (lvg_ne lvg_self rfl (by decide)) lvg_self (by omega) sh im (by omega)
  · obtain ⟨q4, rfl⟩ : ∃ q, n = q + 1 := ⟨n - 1, by omega⟩
    refine u_X8_on_63 ?_
    unfold bX8_on_63
    refine e_cN 0 rfl ?_
    obtain ⟨q5, rfl⟩ : ∃ q, q4 = q + 1 := ⟨q4 - 1, by omega⟩
    refine u_X8_on_64 ?_
    unfold bX8_on_64
    refine e_bopU (fun r6 => ?_)
    refine e_stI ?_
    refine e_inc (lvg_ne g5 rfl (by decide)) ?_
    exact t_6 q5 (by omega) _ _ _ _ i3 _ (i5 + 1) (lvg_ne (lvg_ne g0 rfl (by decide)) rfl (by decide)) (lvg_ne (lvg_ne g1 rfl (by decide)) rfl (by decide)) (lvg_ne (lvg_ne g2 rfl (by decide)) rfl (by decide)) (lvg_ne (lvg_ne g3 rfl (by decide)) rfl (by decide)) (by omega) (lvg_ne lvg_self rfl (by decide)) lvg_self (by omega) sh im (by omega)
theorem A_X8_on {Q : Option Value → MM → Prop} {S0 : MM} {m : Nat} {A : Nat → Nat} (hM : MS S0 m A) (K : ∀ r S', SM [] m A S0 S' → IM S' m A → Q (some (.int r)) S') : ∀ n k, k ≤ n → P_X8_on_0 Q S0 m A k ∧ P_X8_on_6 Q S0 m A k ∧ P_X8_on_55 Q S0 m A k := by
  intro n
  induction n with
  | zero =>
    intro k hk
    have e : k = 0 := by omega
    subst e
    exact ⟨(fun lv S w1 w2 i3 _ _ _ _ _ _ _ hF => absurd hF (by omega)), (fun lv S w1 w2 i3 w4 i5 _ _ _ _ _ _ _ _ _ _ hF => absurd hF (by omega)), (fun lv S w1 w2 i3 w4 i5 is0 ws1 _ _ _ _ _ _ _ _ _ _ _ hF => absurd hF (by omega))⟩
  | succ n ih =>
    intro k hk
    by_cases hn : k ≤ n
    · exact ih k hn
    · have e : k = n + 1 := by omega
      subst e
      have T_0 : ∀ k, k ≤ n → P_X8_on_0 Q S0 m A k := fun k hk => (ih k hk).1
      have T_6 : ∀ k, k ≤ n → P_X8_on_6 Q S0 m A k := fun k hk => (ih k hk).2.1
      have T_55 : ∀ k, k ≤ n → P_X8_on_55 Q S0 m A k := fun k hk => (ih k hk).2.2
      exact ⟨B_X8_on_0 hM K T_6, B_X8_on_6 hM K T_6 T_55, B_X8_on_55 hM K T_6⟩
theorem z_X8_on {Q : Option Value → MM → Prop} {S0 : MM} {m : Nat} {A : Nat → Nat} {w1 : Int32} {w2 : Int32} {i3 : Nat} (hM : MS S0 m A) (im : IM S0 m A) (h3 : i3 < 2) (K : ∀ r S', SM [] m A S0 S' → IM S' m A → Q (some (.int r)) S') : wX8_on [.ref m, .int w1, .int w2, .int (nI i3)] S0 Q := by
  exact Exists.intro 372093 ((A_X8_on hM K 372093 372093 (Nat.le_refl _)).1 _ S0 w1 w2 i3 rfl rfl rfl rfl h3 SM.rf im (by omega))
theorem u_X8_ages_0 {Q : Option Value → MM → Prop} {n : Nat} {lv : Lv} {st : List Value} {S : MM} {c z : Nat} (h : bX8_ages_0 Q (wpn (kX8_ages Q) n) lv st S c z) : wpn (kX8_ages Q) (n + 1) 0 lv st S c z := h
theorem u_X8_ages_20 {Q : Option Value → MM → Prop} {n : Nat} {lv : Lv} {st : List Value} {S : MM} {c z : Nat} (h : bX8_ages_20 Q (wpn (kX8_ages Q) n) lv st S c z) : wpn (kX8_ages Q) (n + 1) 20 lv st S c z := h
theorem u_X8_ages_29 {Q : Option Value → MM → Prop} {n : Nat} {lv : Lv} {st : List Value} {S : MM} {c z : Nat} (h : bX8_ages_29 Q (wpn (kX8_ages Q) n) lv st S c z) : wpn (kX8_ages Q) (n + 1) 29 lv st S c z := h
theorem u_X8_ages_30 {Q : Option Value → MM → Prop} {n : Nat} {lv : Lv} {st : List Value} {S : MM} {c z : Nat} (h : bX8_ages_30 Q (wpn (kX8_ages Q) n) lv st S c z) : wpn (kX8_ages Q) (n + 1) 30 lv st S c z := h
theorem u_X8_ages_50 {Q : Option Value → MM → Prop} {n : Nat} {lv : Lv} {st : List Value} {S : MM} {c z : Nat} (h : bX8_ages_50 Q (wpn (kX8_ages Q) n) lv st S c z) : wpn (kX8_ages Q) (n + 1) 50 lv st S c z := h
theorem u_X8_ages_82 {Q : Option Value → MM → Prop} {n : Nat} {lv : Lv} {st : List Value} {S : MM} {c z : Nat} (h : bX8_ages_82 Q (wpn (kX8_ages Q) n) lv st S c z) : wpn (kX8_ages Q) (n + 1) 82 lv st S c z := h
theorem u_X8_ages_94 {Q : Option Value → MM → Prop} {n : Nat} {lv : Lv} {st : List Value} {S : MM} {c z : Nat} (h : bX8_ages_94 Q (wpn (kX8_ages Q) n) lv st S c z) : wpn (kX8_ages Q) (n + 1) 94 lv st S c z := h
def P_X8_ages_0 (Q : Option Value → MM → Prop) (S0 : MM) (m : Nat) (A : Nat → Nat) (n : Nat) : Prop := ∀ (lv : Lv) (S : MM) (i1 : Nat), lvg lv 0 = some (.ref m) → lvg lv 1 = some (.int (nI i1)) → i1 < 16 → SM [7, 8, 18] m A S0 S → IM S m A → 62 ≤ n → wpn (kX8_ages Q) n 0 lv [] S 0 0
def P_X8_ages_20 (Q : Option Value → MM → Prop) (S0 : MM) (m : Nat) (A : Nat → Nat) (n : Nat) : Prop := ∀ (lv : Lv) (S : MM) (i1 : Nat), lvg lv 0 = some (.ref m) → lvg lv 1 = some (.int (nI i1)) → i1 < 16 → SM [7, 8, 18] m A S0 S → IM S m A → 31 ≤ n → wpn (kX8_ages Q) n 20 lv [] S 0 0
theorem B_X8_ages_0 {Q : Option Value → MM → Prop} {S0 : MM} {m : Nat} {A : Nat → Nat} {n : Nat} (hM : MS S0 m A) (K : ∀ S', SM [7, 8, 18] m A S0 S' → IM S' m A → Q none S') (t_20 : ∀ k, k ≤ n → P_X8_ages_20 Q S0 m A k) : P_X8_ages_0 Q S0 m A (n + 1) := by
  intro lv S i1 g0 g1 h1 sh im hF
  refine u_X8_ages_0 ?_
  unfold bX8_ages_0
  refine e_ldA g0 ?_
  refine e_gR (SM_k sh hM.1) (SM_r sh (hM.2.1 7 (by decide)).1) ?_
  refine e_ldI g1 ?_
  refine e_aI (N := 16) (SM_k sh (hM.2.1 7 (by decide)).2.1) (SM_n sh (hM.2.1 7 (by decide)).2.2.1) (by omega) (by decide) (fun v1 hv2 => ?_)
  refine e_cN 1 rfl ?_
  refine e_ifc ?_ ?_
  · exact t_20 n (by omega) _ _ i1 g0 g1 (by omega) sh im (by omega)
  · refine e_ldA g0 ?_
    refine e_gR (SM_k sh hM.1) (SM_r sh (hM.2.1 7 (by decide)).1) ?_
    refine e_ldI g1 ?_
    refine e_aI (N := 16) (SM_k sh (hM.2.1 7 (by decide)).2.1) (SM_n sh (hM.2.1 7 (by decide)).2.2.1) (by omega) (by decide) (fun v3 hv4 => ?_)
    refine e_cN 2 rfl ?_
    refine e_ifc ?_ ?_
    · exact t_20 n (by omega) _ _ i1 g0 g1 (by omega) sh im (by omega)
    · obtain ⟨q5, rfl⟩ : ∃ q, n = q + 1 := ⟨n - 1, by omega⟩
      refine u_X8_ages_29 ?_
      unfold bX8_ages_29
      exact e_rV (K _ sh im)
theorem B_X8_ages_20 {Q : Option Value → MM → Prop} {S0 : MM} {m : Nat} {A : Nat → Nat} {n : Nat} (hM : MS S0 m A) (K : ∀ S', SM [7, 8, 18] m A S0 S' → IM S' m A → Q none S')  : P_X8_ages_20 Q S0 m A (n + 1) := by
  intro lv S i1 g0 g1 h1 sh im hF
  refine u_X8_ages_20 ?_
  unfold bX8_ages_20
  refine e_ldA g0 ?_
  refine e_gR (SM_k sh hM.1) (SM_r sh (hM.2.1 15 (by decide)).1) ?_
  refine e_ldI g1 ?_
  refine e_aI (N := 16) (SM_k sh (hM.2.1 15 (by decide)).2.1) (SM_n sh (hM.2.1 15 (by decide)).2.2.1) (by omega) (by decide) (fun v1 hv2 => ?_)
  refine e_if0 (fun h3 => ?_) (fun h3 => ?_)
  · obtain ⟨q4, rfl⟩ : ∃ q, n = q + 1 := ⟨n - 1, by omega⟩
    refine u_X8_ages_30 ?_
    unfold bX8_ages_30
    refine e_ldA g0 ?_
    refine e_gR (SM_k sh hM.1) (SM_r sh (hM.2.1 8 (by decide)).1) ?_
    refine e_ldI g1 ?_
    refine e_du2 ?_
    refine e_aI (N := 16) (SM_k sh (hM.2.1 8 (by decide)).2.1) (SM_n sh (hM.2.1 8 (by decide)).2.2.1) (by omega) (by decide) (fun v5 hv6 => ?_)
    refine e_cN 1 rfl ?_
    refine e_bopU (fun r7 => ?_)
    refine y_mA (N := 16) hM sh im (by decide) rfl rfl (by omega) (by decide) (by decide) (fun N e => nomatch (show (none : Option Nat) = some N from e)) (fun e => absurd e (by decide)) (fun S8 he9 sh10 ir11 => ?_)
    refine e_ldA g0 ?_
    refine e_gR (SM_k sh10 hM.1) (SM_r sh10 (hM.2.1 8 (by decide)).1) ?_
    refine e_ldI g1 ?_
    refine e_aI (N := 16) (SM_k sh10 (hM.2.1 8 (by decide)).2.1) (SM_n sh10 (hM.2.1 8 (by decide)).2.2.1) (by omega) (by decide) (fun v12 hv13 => ?_)
    refine e_ifz ?_ ?_
    · obtain ⟨q14, rfl⟩ : ∃ q, q4 = q + 1 := ⟨q4 - 1, by omega⟩
      refine u_X8_ages_50 ?_
      unfold bX8_ages_50
      refine e_ldA g0 ?_
      refine e_gR (SM_k sh10 hM.1) (SM_r sh10 (hM.2.1 7 (by decide)).1) ?_
      refine e_ldI g1 ?_
      refine e_aI (N := 16) (SM_k sh10 (hM.2.1 7 (by decide)).2.1) (SM_n sh10 (hM.2.1 7 (by decide)).2.2.1) (by omega) (by decide) (fun v15 hv16 => ?_)
      refine e_cN 2 rfl ?_
      refine e_ifc ?_ ?_
      · refine e_ldA g0 ?_
        refine e_gR (SM_k sh10 hM.1) (SM_r sh10 (hM.2.1 7 (by decide)).1) ?_
        refine e_ldI g1 ?_
        refine e_cN 1 rfl ?_
        refine y_mA (N := 16) hM sh10 ir11 (by decide) rfl rfl (by omega) (by decide) (by decide) (fun N e => nomatch (show (none : Option Nat) = some N from e)) (fun e => absurd e (by decide)) (fun S17 he18 sh19 ir20 => ?_)
        refine e_ldA g0 ?_
        refine e_gR (SM_k sh19 hM.1) (SM_r sh19 (hM.2.1 8 (by decide)).1) ?_
        refine e_ldI g1 ?_
        refine e_cN 3 rfl ?_
        refine y_mA (N := 16) hM sh19 ir20 (by decide) rfl rfl (by omega) (by decide) (by decide) (fun N e => nomatch (show (none : Option Nat) = some N from e)) (fun e => absurd e (by decide)) (fun S21 he22 sh23 ir24 => ?_)
        refine e_ldA g0 ?_
        refine e_ldI g1 ?_
        refine And.intro (SM_k sh23 hM.1) (And.intro ⟨by decide, by decide⟩ (z_X8_partnerStops (MS_SM hM sh23) ir24 (show i1 < 16 by omega) (fun S25 s26 ir27 => ?_)))
        have sh28 := SM.tr sh23 s26 (by decide)
        obtain ⟨q29, rfl⟩ : ∃ q, q14 = q + 1 := ⟨q14 - 1, by omega⟩
        refine u_X8_ages_94 ?_
        unfold bX8_ages_94
        exact e_rV (K _ sh28 ir27)
      · obtain ⟨q30, rfl⟩ : ∃ q, q14 = q + 1 := ⟨q14 - 1, by omega⟩
        refine u_X8_ages_82 ?_
        unfold bX8_ages_82
        refine e_ldA g0 ?_
        refine e_gR (SM_k sh10 hM.1) (SM_r sh10 (hM.2.1 7 (by decide)).1) ?_
        refine e_ldI g1 ?_
        refine e_cN 3 rfl ?_
        refine y_mA (N := 16) hM sh10 ir11 (by decide) rfl rfl (by omega) (by decide) (by decide) (fun N e => nomatch (show (none : Option Nat) = some N from e)) (fun e => absurd e (by decide)) (fun S31 he32 sh33 ir34 => ?_)
        refine e_ldA g0 ?_
        refine e_ldI g1 ?_
        refine And.intro (SM_k sh33 hM.1) (And.intro ⟨by decide, by decide⟩ (z_X8_forgets (MS_SM hM sh33) ir34 (show i1 < 16 by omega) (fun S35 s36 ir37 => ?_)))
        have sh38 := SM.tr sh33 s36 (by decide)
        obtain ⟨q39, rfl⟩ : ∃ q, q30 = q + 1 := ⟨q30 - 1, by omega⟩
        refine u_X8_ages_94 ?_
        unfold bX8_ages_94
        exact e_rV (K _ sh38 ir37)
    · exact e_rV (K _ sh10 ir11)
  · obtain ⟨q40, rfl⟩ : ∃ q, n = q + 1 := ⟨n - 1, by omega⟩
    refine u_X8_ages_29 ?_
    unfold bX8_ages_29
    exact e_rV (K _ sh im)
theorem A_X8_ages {Q : Option Value → MM → Prop} {S0 : MM} {m : Nat} {A : Nat → Nat} (hM : MS S0 m A) (K : ∀ S', SM [7, 8, 18] m A S0 S' → IM S' m A → Q none S') : ∀ n k, k ≤ n → P_X8_ages_0 Q S0 m A k ∧ P_X8_ages_20 Q S0 m A k := by
  intro n
  induction n with
  | zero =>
    intro k hk
    have e : k = 0 := by omega
    subst e
    exact ⟨(fun lv S i1 _ _ _ _ _ hF => absurd hF (by omega)), (fun lv S i1 _ _ _ _ _ hF => absurd hF (by omega))⟩
  | succ n ih =>
    intro k hk
    by_cases hn : k ≤ n
    · exact ih k hn
    · have e : k = n + 1 := by omega
      subst e
      have T_0 : ∀ k, k ≤ n → P_X8_ages_0 Q S0 m A k := fun k hk => (ih k hk).1
      have T_20 : ∀ k, k ≤ n → P_X8_ages_20 Q S0 m A k := fun k hk => (ih k hk).2
      exact ⟨B_X8_ages_0 hM K T_20, B_X8_ages_20 hM K ⟩
theorem z_X8_ages {Q : Option Value → MM → Prop} {S0 : MM} {m : Nat} {A : Nat → Nat} {i1 : Nat} (hM : MS S0 m A) (im : IM S0 m A) (h1 : i1 < 16) (K : ∀ S', SM [7, 8, 18] m A S0 S' → IM S' m A → Q none S') : wX8_ages [.ref m, .int (nI i1)] S0 Q := by
  exact Exists.intro 62 ((A_X8_ages hM K 62 62 (Nat.le_refl _)).1 _ S0 i1 rfl rfl h1 SM.rf im (by omega))
theorem u_X8_steps_0 {Q : Option Value → MM → Prop} {n : Nat} {lv : Lv} {st : List Value} {S : MM} {c z : Nat} (h : bX8_steps_0 Q (wpn (kX8_steps Q) n) lv st S c z) : wpn (kX8_steps Q) (n + 1) 0 lv st S c z := h
theorem u_X8_steps_9 {Q : Option Value → MM → Prop} {n : Nat} {lv : Lv} {st : List Value} {S : MM} {c z : Nat} (h : bX8_steps_9 Q (wpn (kX8_steps Q) n) lv st S c z) : wpn (kX8_steps Q) (n + 1) 9 lv st S c z := h
theorem u_X8_steps_26 {Q : Option Value → MM → Prop} {n : Nat} {lv : Lv} {st : List Value} {S : MM} {c z : Nat} (h : bX8_steps_26 Q (wpn (kX8_steps Q) n) lv st S c z) : wpn (kX8_steps Q) (n + 1) 26 lv st S c z := h
theorem u_X8_steps_33 {Q : Option Value → MM → Prop} {n : Nat} {lv : Lv} {st : List Value} {S : MM} {c z : Nat} (h : bX8_steps_33 Q (wpn (kX8_steps Q) n) lv st S c z) : wpn (kX8_steps Q) (n + 1) 33 lv st S c z := h
theorem u_X8_steps_84 {Q : Option Value → MM → Prop} {n : Nat} {lv : Lv} {st : List Value} {S : MM} {c z : Nat} (h : bX8_steps_84 Q (wpn (kX8_steps Q) n) lv st S c z) : wpn (kX8_steps Q) (n + 1) 84 lv st S c z := h
theorem u_X8_steps_145 {Q : Option Value → MM → Prop} {n : Nat} {lv : Lv} {st : List Value} {S : MM} {c z : Nat} (h : bX8_steps_145 Q (wpn (kX8_steps Q) n) lv st S c z) : wpn (kX8_steps Q) (n + 1) 145 lv st S c z := h
theorem u_X8_steps_152 {Q : Option Value → MM → Prop} {n : Nat} {lv : Lv} {st : List Value} {S : MM} {c z : Nat} (h : bX8_steps_152 Q (wpn (kX8_steps Q) n) lv st S c z) : wpn (kX8_steps Q) (n + 1) 152 lv st S c z := h
theorem u_X8_steps_180 {Q : Option Value → MM → Prop} {n : Nat} {lv : Lv} {st : List Value} {S : MM} {c z : Nat} (h : bX8_steps_180 Q (wpn (kX8_steps Q) n) lv st S c z) : wpn (kX8_steps Q) (n + 1) 180 lv st S c z := h
theorem u_X8_steps_193 {Q : Option Value → MM → Prop} {n : Nat} {lv : Lv} {st : List Value} {S : MM} {c z : Nat} (h : bX8_steps_193 Q (wpn (kX8_steps Q) n) lv st S c z) : wpn (kX8_steps Q) (n + 1) 193 lv st S c z := h
theorem u_X8_steps_206 {Q : Option Value → MM → Prop} {n : Nat} {lv : Lv} {st : List Value} {S : MM} {c z : Nat} (h : bX8_steps_206 Q (wpn (kX8_steps Q) n) lv st S c z) : wpn (kX8_steps Q) (n + 1) 206 lv st S c z := h
theorem u_X8_steps_219 {Q : Option Value → MM → Prop} {n : Nat} {lv : Lv} {st : List Value} {S : MM} {c z : Nat} (h : bX8_steps_219 Q (wpn (kX8_steps Q) n) lv st S c z) : wpn (kX8_steps Q) (n + 1) 219 lv st S c z := h
theorem u_X8_steps_232 {Q : Option Value → MM → Prop} {n : Nat} {lv : Lv} {st : List Value} {S : MM} {c z : Nat} (h : bX8_steps_232 Q (wpn (kX8_steps Q) n) lv st S c z) : wpn (kX8_steps Q) (n + 1) 232 lv st S c z := h
theorem u_X8_steps_242 {Q : Option Value → MM → Prop} {n : Nat} {lv : Lv} {st : List Value} {S : MM} {c z : Nat} (h : bX8_steps_242 Q (wpn (kX8_steps Q) n) lv st S c z) : wpn (kX8_steps Q) (n + 1) 242 lv st S c z := h
def P_X8_steps_0 (Q : Option Value → MM → Prop) (S0 : MM) (m : Nat) (A : Nat → Nat) (n : Nat) : Prop := ∀ (lv : Lv) (S : MM) (i1 : Nat), lvg lv 0 = some (.ref m) → lvg lv 1 = some (.int (nI i1)) → i1 < 16 → SM [9, 10, 19, 40] m A S0 S → IM S m A → 62 ≤ n → wpn (kX8_steps Q) n 0 lv [] S 0 0
def P_X8_steps_26 (Q : Option Value → MM → Prop) (S0 : MM) (m : Nat) (A : Nat → Nat) (n : Nat) : Prop := ∀ (lv : Lv) (S : MM) (i1 : Nat), lvg lv 0 = some (.ref m) → lvg lv 1 = some (.int (nI i1)) → i1 < 16 → SM [9, 10, 19, 40] m A S0 S → IM S m A → 31 ≤ n → wpn (kX8_steps Q) n 26 lv [] S 0 0
theorem B_X8_steps_0 {Q : Option Value → MM → Prop} {S0 : MM} {m : Nat} {A : Nat → Nat} {n : Nat} (hM : MS S0 m A) (K : ∀ S', SM [9, 10, 19, 40] m A S0 S' → IM S' m A → Q none S') (t_26 : ∀ k, k ≤ n → P_X8_steps_26 Q S0 m A k) : P_X8_steps_0 Q S0 m A (n + 1) := by
  intro lv S i1 g0 g1 h1 sh im hF
  refine u_X8_steps_0 ?_
  unfold bX8_steps_0
  refine e_ldA g0 ?_
  refine e_ldI g1 ?_
  refine And.intro (SM_k sh hM.1) (And.intro ⟨by decide, by decide⟩ (z_X8_isLit (MS_SM hM sh) im (show i1 < 16 by omega) (fun n5 S1 s2 ir3 hn6 => ?_)))
  have sh4 := SM.tr sh s2 (by decide)
  refine e_ifN (by omega) (fun h7 => ?_) (fun h7 => ?_)
  · exact e_rV (K _ sh4 ir3)
  · obtain ⟨q8, rfl⟩ : ∃ q, n = q + 1 := ⟨n - 1, by omega⟩
    refine u_X8_steps_9 ?_
    unfold bX8_steps_9
    refine e_ldA g0 ?_
    refine e_gR (SM_k sh4 hM.1) (SM_r sh4 (hM.2.1 13 (by decide)).1) ?_
    refine e_ldI g1 ?_
    refine e_aI (N := 16) (SM_k sh4 (hM.2.1 13 (by decide)).2.1) (SM_n sh4 (hM.2.1 13 (by decide)).2.2.1) (by omega) (by decide) (fun v9 hv10 => ?_)
    refine e_if0 (fun h11 => ?_) (fun h11 => ?_)
    · exact t_26 q8 (by omega) _ _ i1 g0 g1 (by omega) sh4 ir3 (by omega)
    · refine e_ldA g0 ?_
      refine e_ldI g1 ?_
      refine And.intro (SM_k sh4 hM.1) (And.intro ⟨by decide, by decide⟩ (z_X8_isOther (MS_SM hM sh4) ir3 (show i1 < 16 by omega) (fun n16 S12 s13 ir14 hn17 => ?_)))
      have sh15 := SM.tr sh4 s13 (by decide)
      refine e_ifN (by omega) (fun h18 => ?_) (fun h18 => ?_)
      · obtain ⟨q19, rfl⟩ : ∃ q, q8 = q + 1 := ⟨q8 - 1, by omega⟩
        refine u_X8_steps_33 ?_
        unfold bX8_steps_33
        refine e_ldA g0 ?_
        refine e_ldI g1 ?_
        refine e_cN 8 rfl ?_
        refine And.intro (SM_k sh15 hM.1) (And.intro ⟨by decide, by decide⟩ (z_X8_isPartner (MS_SM hM sh15) ir14 (show i1 < 16 by omega) (fun n24 S20 s21 ir22 hn25 => ?_)))
        have sh23 := SM.tr sh15 s21 (by decide)
        refine e_stI ?_
        refine e_ldA (lvg_ne g0 rfl (by decide)) ?_
        refine e_ldI (lvg_ne g1 rfl (by decide)) ?_
        refine e_cN 16 rfl ?_
        refine And.intro (SM_k sh23 hM.1) (And.intro ⟨by decide, by decide⟩ (z_X8_isPartner (MS_SM hM sh23) ir22 (show i1 < 16 by omega) (fun n30 S26 s27 ir28 hn31 => ?_)))
        have sh29 := SM.tr sh23 s27 (by decide)
        refine e_stI ?_
        refine e_ldA (lvg_ne (lvg_ne g0 rfl (by decide)) rfl (by decide)) ?_
        refine e_gR (SM_k sh29 hM.1) (SM_r sh29 (hM.2.1 9 (by decide)).1) ?_
        refine e_ldI (lvg_ne (lvg_ne g1 rfl (by decide)) rfl (by decide)) ?_
        refine e_aI (N := 16) (SM_k sh29 (hM.2.1 9 (by decide)).2.1) (SM_n sh29 (hM.2.1 9 (by decide)).2.2.1) (by omega) (by decide) (fun v32 hv33 => ?_)
        refine e_sw0 (by decide) ?_ (fun j34 h35 e36 => ?_)
        · obtain ⟨q37, rfl⟩ : ∃ q, q19 = q + 1 := ⟨q19 - 1, by omega⟩
          refine u_X8_steps_219 ?_
          unfold bX8_steps_219
          refine e_ldI (lvg_ne lvg_self rfl (by decide)) ?_
          refine e_ifN (by omega) (fun h38 => ?_) (fun h38 => ?_)
          · refine e_ldA (lvg_ne (lvg_ne g0 rfl (by decide)) rfl (by decide)) ?_
            refine e_ldI (lvg_ne (lvg_ne g1 rfl (by decide)) rfl (by decide)) ?_
            refine e_cN 2 rfl ?_
            refine And.intro (SM_k sh29 hM.1) (And.intro ⟨by decide, by decide⟩ (z_X8_goesTo (MS_SM hM sh29) ir28 (show i1 < 16 by omega) (fun S39 s40 ir41 => ?_)))
            have sh42 := SM.tr sh29 s40 (by decide)
            obtain ⟨q43, rfl⟩ : ∃ q, q37 = q + 1 := ⟨q37 - 1, by omega⟩
            refine u_X8_steps_242 ?_
            unfold bX8_steps_242
            exact e_rV (K _ sh42 ir41)
          · obtain ⟨q44, rfl⟩ : ∃ q, q37 = q + 1 := ⟨q37 - 1, by omega⟩
            refine u_X8_steps_232 ?_
            unfold bX8_steps_232
            refine e_ldI lvg_self ?_
            refine e_ifN (by omega) (fun h45 => ?_) (fun h45 => ?_)
            · refine e_ldA (lvg_ne (lvg_ne g0 rfl (by decide)) rfl (by decide)) ?_
              refine e_ldI (lvg_ne (lvg_ne g1 rfl (by decide)) rfl (by decide)) ?_
              refine e_cN 3 rfl ?_
              refine And.intro (SM_k sh29 hM.1) (And.intro ⟨by decide, by decide⟩ (z_X8_goesTo (MS_SM hM sh29) ir28 (show i1 < 16 by omega) (fun S46 s47 ir48 => ?_)))
              have sh49 := SM.tr sh29 s47 (by decide)
              obtain ⟨q50, rfl⟩ : ∃ q, q44 = q + 1 := ⟨q44 - 1, by omega⟩
              refine u_X8_steps_242 ?_
              unfold bX8_steps_242
              exact e_rV (K _ sh49 ir48)
            · obtain ⟨q51, rfl⟩ : ∃ q, q44 = q + 1 := ⟨q44 - 1, by omega⟩
              refine u_X8_steps_242 ?_
              unfold bX8_steps_242
              exact e_rV (K _ sh29 ir28)
        · match j34, h35, e36 with
          | 0, _, e36 =>
            subst e36
            obtain ⟨q52, rfl⟩ : ∃ q, q19 = q + 1 := ⟨q19 - 1, by omega⟩
            refine u_X8_steps_84 ?_
            unfold bX8_steps_84
            refine e_ldA (lvg_ne (lvg_ne g0 rfl (by decide)) rfl (by decide)) ?_
            refine e_ldI (lvg_ne (lvg_ne g1 rfl (by decide)) rfl (by decide)) ?_
            refine e_cN 1 rfl ?_
            refine And.intro (SM_k sh29 hM.1) (And.intro ⟨by decide, by decide⟩ (z_X8_goesTo (MS_SM hM sh29) ir28 (show i1 < 16 by omega) (fun S53 s54 ir55 => ?_)))
            have sh56 := SM.tr sh29 s54 (by decide)
            refine e_ldA (lvg_ne (lvg_ne g0 rfl (by decide)) rfl (by decide)) ?_
            refine e_gR (SM_k sh56 hM.1) (SM_r sh56 (hM.2.1 10 (by decide)).1) ?_
            refine e_ldI (lvg_ne (lvg_ne g1 rfl (by decide)) rfl (by decide)) ?_
            refine e_cN 2 rfl ?_
            refine y_mA (N := 16) hM sh56 ir55 (by decide) rfl rfl (by omega) (by decide) (by decide) (fun N e => nomatch (show (none : Option Nat) = some N from e)) (fun e => absurd e (by decide)) (fun S57 he58 sh59 ir60 => ?_)
            refine e_ldA (lvg_ne (lvg_ne g0 rfl (by decide)) rfl (by decide)) ?_
            refine e_gR (SM_k sh59 hM.1) (SM_r sh59 (hM.2.1 19 (by decide)).1) ?_
            refine e_cN 3 rfl ?_
            refine e_ldI (lvg_ne (lvg_ne g1 rfl (by decide)) rfl (by decide)) ?_
            refine e_mul ?_
            refine e_ldA (lvg_ne (lvg_ne g0 rfl (by decide)) rfl (by decide)) ?_
            refine e_gR (SM_k sh59 hM.1) (SM_r sh59 (hM.2.1 3 (by decide)).1) ?_
            refine e_ldI (lvg_ne (lvg_ne g1 rfl (by decide)) rfl (by decide)) ?_
            refine e_aI (N := 16) (SM_k sh59 (hM.2.1 3 (by decide)).2.1) (SM_n sh59 (hM.2.1 3 (by decide)).2.2.1) (by omega) (by decide) (fun v61 hv62 => ?_)
            refine y_mA (N := 48) hM sh59 ir60 (by decide) rfl rfl (by omega) (by decide) (by decide) (fun N e => nomatch (show (none : Option Nat) = some N from e)) (fun e => absurd e (by decide)) (fun S63 he64 sh65 ir66 => ?_)
            refine e_ldA (lvg_ne (lvg_ne g0 rfl (by decide)) rfl (by decide)) ?_
            refine e_gR (SM_k sh65 hM.1) (SM_r sh65 (hM.2.1 19 (by decide)).1) ?_
            refine e_cN 3 rfl ?_
            refine e_ldI (lvg_ne (lvg_ne g1 rfl (by decide)) rfl (by decide)) ?_
            refine e_mul ?_
            refine e_cN 1 rfl ?_
            refine e_add ?_
            refine e_ldA (lvg_ne (lvg_ne g0 rfl (by decide)) rfl (by decide)) ?_
            refine e_gR (SM_k sh65 hM.1) (SM_r sh65 (hM.2.1 18 (by decide)).1) ?_
            refine e_cN 5 rfl ?_
            refine e_ldI (lvg_ne (lvg_ne g1 rfl (by decide)) rfl (by decide)) ?_
            refine e_mul ?_
            refine e_aI (N := 80) (SM_k sh65 (hM.2.1 18 (by decide)).2.1) (SM_n sh65 (hM.2.1 18 (by decide)).2.2.1) (by omega) (by decide) (fun v67 hv68 => ?_)
            refine y_mA (N := 48) hM sh65 ir66 (by decide) rfl rfl (by omega) (by decide) (by decide) (fun N e => nomatch (show (none : Option Nat) = some N from e)) (fun e => absurd e (by decide)) (fun S69 he70 sh71 ir72 => ?_)
            refine e_ldA (lvg_ne (lvg_ne g0 rfl (by decide)) rfl (by decide)) ?_
            refine e_gR (SM_k sh71 hM.1) (SM_r sh71 (hM.2.1 19 (by decide)).1) ?_
            refine e_cN 3 rfl ?_
            refine e_ldI (lvg_ne (lvg_ne g1 rfl (by decide)) rfl (by decide)) ?_
            refine e_mul ?_
            refine e_cN 2 rfl ?_
            refine e_add ?_
            refine e_ldA (lvg_ne (lvg_ne g0 rfl (by decide)) rfl (by decide)) ?_
            refine e_gR (SM_k sh71 hM.1) (SM_r sh71 (hM.2.1 18 (by decide)).1) ?_
            refine e_cN 5 rfl ?_
            refine e_ldI (lvg_ne (lvg_ne g1 rfl (by decide)) rfl (by decide)) ?_
            refine e_mul ?_
            obtain ⟨q73, rfl⟩ : ∃ q, q52 = q + 1 := ⟨q52 - 1, by omega⟩
            refine u_X8_steps_145 ?_
            unfold bX8_steps_145
            refine e_cN 1 rfl ?_
            refine e_add ?_
            refine e_aI (N := 80) (SM_k sh71 (hM.2.1 18 (by decide)).2.1) (SM_n sh71 (hM.2.1 18 (by decide)).2.2.1) (by omega) (by decide) (fun v74 hv75 => ?_)
            refine y_mA (N := 48) hM sh71 ir72 (by decide) rfl rfl (by omega) (by decide) (by decide) (fun N e => nomatch (show (none : Option Nat) = some N from e)) (fun e => absurd e (by decide)) (fun S76 he77 sh78 ir79 => ?_)
            obtain ⟨q80, rfl⟩ : ∃ q, q73 = q + 1 := ⟨q73 - 1, by omega⟩
            refine u_X8_steps_242 ?_
            unfold bX8_steps_242
            exact e_rV (K _ sh78 ir79)
          | 1, _, e36 =>
            subst e36
            obtain ⟨q81, rfl⟩ : ∃ q, q19 = q + 1 := ⟨q19 - 1, by omega⟩
            refine u_X8_steps_152 ?_
            unfold bX8_steps_152
            refine e_ldA (lvg_ne (lvg_ne g0 rfl (by decide)) rfl (by decide)) ?_
            refine e_gR (SM_k sh29 hM.1) (SM_r sh29 (hM.2.1 10 (by decide)).1) ?_
            refine e_ldI (lvg_ne (lvg_ne g1 rfl (by decide)) rfl (by decide)) ?_
            refine e_du2 ?_
            refine e_aI (N := 16) (SM_k sh29 (hM.2.1 10 (by decide)).2.1) (SM_n sh29 (hM.2.1 10 (by decide)).2.2.1) (by omega) (by decide) (fun v82 hv83 => ?_)
            refine e_cN 1 rfl ?_
            refine e_bopU (fun r84 => ?_)
            refine y_mA (N := 16) hM sh29 ir28 (by decide) rfl rfl (by omega) (by decide) (by decide) (fun N e => nomatch (show (none : Option Nat) = some N from e)) (fun e => absurd e (by decide)) (fun S85 he86 sh87 ir88 => ?_)
            refine e_ldA (lvg_ne (lvg_ne g0 rfl (by decide)) rfl (by decide)) ?_
            refine e_gR (SM_k sh87 hM.1) (SM_r sh87 (hM.2.1 10 (by decide)).1) ?_
            refine e_ldI (lvg_ne (lvg_ne g1 rfl (by decide)) rfl (by decide)) ?_
            refine e_aI (N := 16) (SM_k sh87 (hM.2.1 10 (by decide)).2.1) (SM_n sh87 (hM.2.1 10 (by decide)).2.2.1) (by omega) (by decide) (fun v89 hv90 => ?_)
            refine e_if0 (fun h91 => ?_) (fun h91 => ?_)
            · refine e_ldA (lvg_ne (lvg_ne g0 rfl (by decide)) rfl (by decide)) ?_
              refine e_ldI (lvg_ne (lvg_ne g1 rfl (by decide)) rfl (by decide)) ?_
              refine e_cN 2 rfl ?_
              refine And.intro (SM_k sh87 hM.1) (And.intro ⟨by decide, by decide⟩ (z_X8_goesTo (MS_SM hM sh87) ir88 (show i1 < 16 by omega) (fun S92 s93 ir94 => ?_)))
              have sh95 := SM.tr sh87 s93 (by decide)
              obtain ⟨q96, rfl⟩ : ∃ q, q81 = q + 1 := ⟨q81 - 1, by omega⟩
              refine u_X8_steps_242 ?_
              unfold bX8_steps_242
              exact e_rV (K _ sh95 ir94)
            · obtain ⟨q97, rfl⟩ : ∃ q, q81 = q + 1 := ⟨q81 - 1, by omega⟩
              refine u_X8_steps_242 ?_
              unfold bX8_steps_242
              exact e_rV (K _ sh87 ir88)
          | 2, _, e36 =>
            subst e36
            obtain ⟨q98, rfl⟩ : ∃ q, q19 = q + 1 := ⟨q19 - 1, by omega⟩
            refine u_X8_steps_180 ?_
            unfold bX8_steps_180
            refine e_ldI (lvg_ne lvg_self rfl (by decide)) ?_
            refine e_ifN (by omega) (fun h99 => ?_) (fun h99 => ?_)
            · obtain ⟨q100, rfl⟩ : ∃ q, q98 = q + 1 := ⟨q98 - 1, by omega⟩
              refine u_X8_steps_242 ?_
              unfold bX8_steps_242
              exact e_rV (K _ sh29 ir28)
            · refine e_ldA (lvg_ne (lvg_ne g0 rfl (by decide)) rfl (by decide)) ?_
              refine e_ldI (lvg_ne (lvg_ne g1 rfl (by decide)) rfl (by decide)) ?_
              refine e_cN 3 rfl ?_
              refine And.intro (SM_k sh29 hM.1) (And.intro ⟨by decide, by decide⟩ (z_X8_goesTo (MS_SM hM sh29) ir28 (show i1 < 16 by omega) (fun S101 s102 ir103 => ?_)))
              have sh104 := SM.tr sh29 s102 (by decide)
              obtain ⟨q105, rfl⟩ : ∃ q, q98 = q + 1 := ⟨q98 - 1, by omega⟩
              refine u_X8_steps_242 ?_
              unfold bX8_steps_242
              exact e_rV (K _ sh104 ir103)
          | 3, _, e36 =>
            subst e36
            obtain ⟨q106, rfl⟩ : ∃ q, q19 = q + 1 := ⟨q19 - 1, by omega⟩
            refine u_X8_steps_193 ?_
            unfold bX8_steps_193
            refine e_ldI (lvg_ne lvg_self rfl (by decide)) ?_
            refine e_ifN (by omega) (fun h107 => ?_) (fun h107 => ?_)
            · refine e_ldA (lvg_ne (lvg_ne g0 rfl (by decide)) rfl (by decide)) ?_
              refine e_ldI (lvg_ne (lvg_ne g1 rfl (by decide)) rfl (by decide)) ?_
              refine e_cN 2 rfl ?_
              refine And.intro (SM_k sh29 hM.1) (And.intro ⟨by decide, by decide⟩ (z_X8_goesTo (MS_SM hM sh29) ir28 (show i1 < 16 by omega) (fun S108 s109 ir110 => ?_)))
              have sh111 := SM.tr sh29 s109 (by decide)
              obtain ⟨q112, rfl⟩ : ∃ q, q106 = q + 1 := ⟨q106 - 1, by omega⟩
              refine u_X8_steps_242 ?_
              unfold bX8_steps_242
              exact e_rV (K _ sh111 ir110)
            · obtain ⟨q113, rfl⟩ : ∃ q, q106 = q + 1 := ⟨q106 - 1, by omega⟩
              refine u_X8_steps_206 ?_
              unfold bX8_steps_206
              refine e_ldI lvg_self ?_
              refine e_ifN (by omega) (fun h114 => ?_) (fun h114 => ?_)
              · obtain ⟨q115, rfl⟩ : ∃ q, q113 = q + 1 := ⟨q113 - 1, by omega⟩
                refine u_X8_steps_242 ?_
                unfold bX8_steps_242
                exact e_rV (K _ sh29 ir28)
              · refine e_ldA (lvg_ne (lvg_ne g0 rfl (by decide)) rfl (by decide)) ?_
                refine e_ldI (lvg_ne (lvg_ne g1 rfl (by decide)) rfl (by decide)) ?_
                refine e_cN 4 rfl ?_
                refine And.intro (SM_k sh29 hM.1) (And.intro ⟨by decide, by decide⟩ (z_X8_goesTo (MS_SM hM sh29) ir28 (show i1 < 16 by omega) (fun S116 s117 ir118 => ?_)))
                have sh119 := SM.tr sh29 s117 (by decide)
                obtain ⟨q120, rfl⟩ : ∃ q, q113 = q + 1 := ⟨q113 - 1, by omega⟩
                refine u_X8_steps_242 ?_
                unfold bX8_steps_242
                exact e_rV (K _ sh119 ir118)
          | nn + 4, hh, _ => exact absurd hh (by omega)
      · exact t_26 q8 (by omega) _ _ i1 g0 g1 (by omega) sh15 ir14 (by omega)
theorem B_X8_steps_26 {Q : Option Value → MM → Prop} {S0 : MM} {m : Nat} {A : Nat → Nat} {n : Nat} (hM : MS S0 m A) (K : ∀ S', SM [9, 10, 19, 40] m A S0 S' → IM S' m A → Q none S')  : P_X8_steps_26 Q S0 m A (n + 1) := by
  intro lv S i1 g0 g1 h1 sh im hF
  refine u_X8_steps_26 ?_
  unfold bX8_steps_26
  refine e_ldA g0 ?_
  refine e_ldI g1 ?_
  refine e_cN 0 rfl ?_
  refine And.intro (SM_k sh hM.1) (And.intro ⟨by decide, by decide⟩ (z_X8_goesTo (MS_SM hM sh) im (show i1 < 16 by omega) (fun S1 s2 ir3 => ?_)))
  have sh4 := SM.tr sh s2 (by decide)
  exact e_rV (K _ sh4 ir3)
theorem A_X8_steps {Q : Option Value → MM → Prop} {S0 : MM} {m : Nat} {A : Nat → Nat} (hM : MS S0 m A) (K : ∀ S', SM [9, 10, 19, 40] m A S0 S' → IM S' m A → Q none S') : ∀ n k, k ≤ n → P_X8_steps_0 Q S0 m A k ∧ P_X8_steps_26 Q S0 m A k := by
  intro n
  induction n with
  | zero =>
    intro k hk
    have e : k = 0 := by omega
    subst e
    exact ⟨(fun lv S i1 _ _ _ _ _ hF => absurd hF (by omega)), (fun lv S i1 _ _ _ _ _ hF => absurd hF (by omega))⟩
  | succ n ih =>
    intro k hk
    by_cases hn : k ≤ n
    · exact ih k hn
    · have e : k = n + 1 := by omega
      subst e
      have T_0 : ∀ k, k ≤ n → P_X8_steps_0 Q S0 m A k := fun k hk => (ih k hk).1
      have T_26 : ∀ k, k ≤ n → P_X8_steps_26 Q S0 m A k := fun k hk => (ih k hk).2
      exact ⟨B_X8_steps_0 hM K T_26, B_X8_steps_26 hM K ⟩
theorem z_X8_steps {Q : Option Value → MM → Prop} {S0 : MM} {m : Nat} {A : Nat → Nat} {i1 : Nat} (hM : MS S0 m A) (im : IM S0 m A) (h1 : i1 < 16) (K : ∀ S', SM [9, 10, 19, 40] m A S0 S' → IM S' m A → Q none S') : wX8_steps [.ref m, .int (nI i1)] S0 Q := by
  exact Exists.intro 62 ((A_X8_steps hM K 62 62 (Nat.le_refl _)).1 _ S0 i1 rfl rfl h1 SM.rf im (by omega))
theorem u_X8_moves_0 {Q : Option Value → MM → Prop} {n : Nat} {lv : Lv} {st : List Value} {S : MM} {c z : Nat} (h : bX8_moves_0 Q (wpn (kX8_moves Q) n) lv st S c z) : wpn (kX8_moves Q) (n + 1) 0 lv st S c z := h
theorem u_X8_moves_50 {Q : Option Value → MM → Prop} {n : Nat} {lv : Lv} {st : List Value} {S : MM} {c z : Nat} (h : bX8_moves_50 Q (wpn (kX8_moves Q) n) lv st S c z) : wpn (kX8_moves Q) (n + 1) 50 lv st S c z := h
theorem u_X8_moves_84 {Q : Option Value → MM → Prop} {n : Nat} {lv : Lv} {st : List Value} {S : MM} {c z : Nat} (h : bX8_moves_84 Q (wpn (kX8_moves Q) n) lv st S c z) : wpn (kX8_moves Q) (n + 1) 84 lv st S c z := h
def P_X8_moves_0 (Q : Option Value → MM → Prop) (S0 : MM) (m : Nat) (A : Nat → Nat) (n : Nat) : Prop := ∀ (lv : Lv) (S : MM) (i1 : Nat) (i2 : Nat), lvg lv 0 = some (.ref m) → lvg lv 1 = some (.int (nI i1)) → i1 < 4000 → lvg lv 2 = some (.int (nI i2)) → i2 < 4000 → SM [27, 28, 29, 30, 31] m A S0 S → IM S m A → 682 ≤ n → wpn (kX8_moves Q) n 0 lv [] S 0 0
def P_X8_moves_50 (Q : Option Value → MM → Prop) (S0 : MM) (m : Nat) (A : Nat → Nat) (n : Nat) : Prop := ∀ (lv : Lv) (S : MM) (i1 : Nat) (i2 : Nat) (i3 : Nat), lvg lv 0 = some (.ref m) → lvg lv 1 = some (.int (nI i1)) → i1 < 4000 → lvg lv 2 = some (.int (nI i2)) → i2 < 4000 → lvg lv 3 = some (.int (nI i3)) → i3 < 11 → SM [27, 28, 29, 30, 31] m A S0 S → IM S m A → 31 + 62 * (10 - i3) ≤ n → wpn (kX8_moves Q) n 50 lv [] S 0 0
theorem B_X8_moves_0 {Q : Option Value → MM → Prop} {S0 : MM} {m : Nat} {A : Nat → Nat} {n : Nat} (hM : MS S0 m A) (K : ∀ S', SM [27, 28, 29, 30, 31] m A S0 S' → IM S' m A → Q none S') (t_50 : ∀ k, k ≤ n → P_X8_moves_50 Q S0 m A k) : P_X8_moves_0 Q S0 m A (n + 1) := by
  intro lv S i1 i2 g0 g1 h1 g2 h2 sh im hF
  refine u_X8_moves_0 ?_
  unfold bX8_moves_0
  refine e_ldA g0 ?_
  refine e_gR (SM_k sh hM.1) (SM_r sh (hM.2.1 27 (by decide)).1) ?_
  refine e_ldI g2 ?_
  refine e_ldA g0 ?_
  refine e_gR (SM_k sh hM.1) (SM_r sh (hM.2.1 27 (by decide)).1) ?_
  refine e_ldI g1 ?_
  obtain ⟨n1, hn2, vn3⟩ := im.1 27 8 rfl i1
  refine e_aV (N := 4000) (v := nI n1) (SM_k sh (hM.2.1 27 (by decide)).2.1) (SM_n sh (hM.2.1 27 (by decide)).2.2.1) (by omega) (by decide) vn3 ?_
  refine y_mA (N := 4000) hM sh im (by decide) rfl rfl (by omega) (by decide) (by decide) (fun N e => by have e2 : some 8 = some N := e; cases e2; exact ⟨n1, by omega, rfl⟩) (fun e => absurd e (by decide)) (fun S4 he5 sh6 ir7 => ?_)
  refine e_ldA g0 ?_
  refine e_gR (SM_k sh6 hM.1) (SM_r sh6 (hM.2.1 28 (by decide)).1) ?_
  refine e_ldI g2 ?_
  refine e_ldA g0 ?_
  refine e_gR (SM_k sh6 hM.1) (SM_r sh6 (hM.2.1 28 (by decide)).1) ?_
  refine e_ldI g1 ?_
  obtain ⟨n8, hn9, vn10⟩ := ir7.1 28 2 rfl i1
  refine e_aV (N := 4000) (v := nI n8) (SM_k sh6 (hM.2.1 28 (by decide)).2.1) (SM_n sh6 (hM.2.1 28 (by decide)).2.2.1) (by omega) (by decide) vn10 ?_
  refine y_mA (N := 4000) hM sh6 ir7 (by decide) rfl rfl (by omega) (by decide) (by decide) (fun N e => by have e2 : some 2 = some N := e; cases e2; exact ⟨n8, by omega, rfl⟩) (fun e => absurd e (by decide)) (fun S11 he12 sh13 ir14 => ?_)
  refine e_ldA g0 ?_
  refine e_gR (SM_k sh13 hM.1) (SM_r sh13 (hM.2.1 29 (by decide)).1) ?_
  refine e_ldI g2 ?_
  refine e_ldA g0 ?_
  refine e_gR (SM_k sh13 hM.1) (SM_r sh13 (hM.2.1 29 (by decide)).1) ?_
  refine e_ldI g1 ?_
  refine e_aI (N := 4000) (SM_k sh13 (hM.2.1 29 (by decide)).2.1) (SM_n sh13 (hM.2.1 29 (by decide)).2.2.1) (by omega) (by decide) (fun v15 hv16 => ?_)
  refine y_mA (N := 4000) hM sh13 ir14 (by decide) rfl rfl (by omega) (by decide) (by decide) (fun N e => nomatch (show (none : Option Nat) = some N from e)) (fun e => absurd e (by decide)) (fun S17 he18 sh19 ir20 => ?_)
  refine e_ldA g0 ?_
  refine e_gR (SM_k sh19 hM.1) (SM_r sh19 (hM.2.1 30 (by decide)).1) ?_
  refine e_ldI g2 ?_
  refine e_ldA g0 ?_
  refine e_gR (SM_k sh19 hM.1) (SM_r sh19 (hM.2.1 30 (by decide)).1) ?_
  refine e_ldI g1 ?_
  refine e_aI (N := 4000) (SM_k sh19 (hM.2.1 30 (by decide)).2.1) (SM_n sh19 (hM.2.1 30 (by decide)).2.2.1) (by omega) (by decide) (fun v21 hv22 => ?_)
  have p3023 : v21 = -1 ∨ ∃ f, f < 4200 ∧ v21 = nI f := by rw [← hv22]; exact ir20.2.2 i1
  refine y_mA (N := 4000) hM sh19 ir20 (by decide) rfl rfl (by omega) (by decide) (by decide) (fun N e => nomatch (show (none : Option Nat) = some N from e)) (fun _ => p3023) (fun S24 he25 sh26 ir27 => ?_)
  refine e_cN 0 rfl ?_
  refine e_stI ?_
  exact t_50 n (by omega) _ _ i1 i2 0 (lvg_ne g0 rfl (by decide)) (lvg_ne g1 rfl (by decide)) (by omega) (lvg_ne g2 rfl (by decide)) (by omega) lvg_self (by omega) sh26 ir27 (by omega)
theorem B_X8_moves_50 {Q : Option Value → MM → Prop} {S0 : MM} {m : Nat} {A : Nat → Nat} {n : Nat} (hM : MS S0 m A) (K : ∀ S', SM [27, 28, 29, 30, 31] m A S0 S' → IM S' m A → Q none S') (t_50 : ∀ k, k ≤ n → P_X8_moves_50 Q S0 m A k) : P_X8_moves_50 Q S0 m A (n + 1) := by
  intro lv S i1 i2 i3 g0 g1 h1 g2 h2 g3 h3 sh im hF
  refine u_X8_moves_50 ?_
  unfold bX8_moves_50
  refine e_ldI g3 ?_
  refine e_cN 10 rfl ?_
  refine e_ge (by omega) (by omega) (fun h1 => ?_) (fun h1 => ?_)
  · obtain ⟨q2, rfl⟩ : ∃ q, n = q + 1 := ⟨n - 1, by omega⟩
    refine u_X8_moves_84 ?_
    unfold bX8_moves_84
    exact e_rV (K _ sh im)
  · refine e_ldA g0 ?_
    refine e_gR (SM_k sh hM.1) (SM_r sh (hM.2.1 31 (by decide)).1) ?_
    refine e_cN 10 rfl ?_
    refine e_ldI g2 ?_
    refine e_mul ?_
    refine e_ldI g3 ?_
    refine e_add ?_
    refine e_ldA g0 ?_
    refine e_gR (SM_k sh hM.1) (SM_r sh (hM.2.1 31 (by decide)).1) ?_
    refine e_cN 10 rfl ?_
    refine e_ldI g1 ?_
    refine e_mul ?_
    refine e_ldI g3 ?_
    refine e_add ?_
    refine e_aI (N := 40000) (SM_k sh (hM.2.1 31 (by decide)).2.1) (SM_n sh (hM.2.1 31 (by decide)).2.2.1) (by omega) (by decide) (fun v3 hv4 => ?_)
    refine y_mA (N := 40000) hM sh im (by decide) rfl rfl (by omega) (by decide) (by decide) (fun N e => nomatch (show (none : Option Nat) = some N from e)) (fun e => absurd e (by decide)) (fun S5 he6 sh7 ir8 => ?_)
    refine e_inc g3 ?_
    exact t_50 n (by omega) _ _ i1 i2 (i3 + 1) (lvg_ne g0 rfl (by decide)) (lvg_ne g1 rfl (by decide)) (by omega) (lvg_ne g2 rfl (by decide)) (by omega) lvg_self (by omega) sh7 ir8 (by omega)
theorem A_X8_moves {Q : Option Value → MM → Prop} {S0 : MM} {m : Nat} {A : Nat → Nat} (hM : MS S0 m A) (K : ∀ S', SM [27, 28, 29, 30, 31] m A S0 S' → IM S' m A → Q none S') : ∀ n k, k ≤ n → P_X8_moves_0 Q S0 m A k ∧ P_X8_moves_50 Q S0 m A k := by
  intro n
  induction n with
  | zero =>
    intro k hk
    have e : k = 0 := by omega
    subst e
    exact ⟨(fun lv S i1 i2 _ _ _ _ _ _ _ hF => absurd hF (by omega)), (fun lv S i1 i2 i3 _ _ _ _ _ _ _ _ _ hF => absurd hF (by omega))⟩
  | succ n ih =>
    intro k hk
    by_cases hn : k ≤ n
    · exact ih k hn
    · have e : k = n + 1 := by omega
      subst e
      have T_0 : ∀ k, k ≤ n → P_X8_moves_0 Q S0 m A k := fun k hk => (ih k hk).1
      have T_50 : ∀ k, k ≤ n → P_X8_moves_50 Q S0 m A k := fun k hk => (ih k hk).2
      exact ⟨B_X8_moves_0 hM K T_50, B_X8_moves_50 hM K T_50⟩
theorem z_X8_moves {Q : Option Value → MM → Prop} {S0 : MM} {m : Nat} {A : Nat → Nat} {i1 : Nat} {i2 : Nat} (hM : MS S0 m A) (im : IM S0 m A) (h1 : i1 < 4000) (h2 : i2 < 4000) (K : ∀ S', SM [27, 28, 29, 30, 31] m A S0 S' → IM S' m A → Q none S') : wX8_moves [.ref m, .int (nI i1), .int (nI i2)] S0 Q := by
  exact Exists.intro 682 ((A_X8_moves hM K 682 682 (Nat.le_refl _)).1 _ S0 i1 i2 rfl rfl h1 rfl h2 SM.rf im (by omega))
theorem u_X8_noteComes_0 {Q : Option Value → MM → Prop} {n : Nat} {lv : Lv} {st : List Value} {S : MM} {c z : Nat} (h : bX8_noteComes_0 Q (wpn (kX8_noteComes Q) n) lv st S c z) : wpn (kX8_noteComes Q) (n + 1) 0 lv st S c z := h
theorem u_X8_noteComes_8 {Q : Option Value → MM → Prop} {n : Nat} {lv : Lv} {st : List Value} {S : MM} {c z : Nat} (h : bX8_noteComes_8 Q (wpn (kX8_noteComes Q) n) lv st S c z) : wpn (kX8_noteComes Q) (n + 1) 8 lv st S c z := h
theorem u_X8_noteComes_51 {Q : Option Value → MM → Prop} {n : Nat} {lv : Lv} {st : List Value} {S : MM} {c z : Nat} (h : bX8_noteComes_51 Q (wpn (kX8_noteComes Q) n) lv st S c z) : wpn (kX8_noteComes Q) (n + 1) 51 lv st S c z := h
theorem u_X8_noteComes_52 {Q : Option Value → MM → Prop} {n : Nat} {lv : Lv} {st : List Value} {S : MM} {c z : Nat} (h : bX8_noteComes_52 Q (wpn (kX8_noteComes Q) n) lv st S c z) : wpn (kX8_noteComes Q) (n + 1) 52 lv st S c z := h
theorem u_X8_noteComes_79 {Q : Option Value → MM → Prop} {n : Nat} {lv : Lv} {st : List Value} {S : MM} {c z : Nat} (h : bX8_noteComes_79 Q (wpn (kX8_noteComes Q) n) lv st S c z) : wpn (kX8_noteComes Q) (n + 1) 79 lv st S c z := h
theorem u_X8_noteComes_93 {Q : Option Value → MM → Prop} {n : Nat} {lv : Lv} {st : List Value} {S : MM} {c z : Nat} (h : bX8_noteComes_93 Q (wpn (kX8_noteComes Q) n) lv st S c z) : wpn (kX8_noteComes Q) (n + 1) 93 lv st S c z := h
theorem u_X8_noteComes_97 {Q : Option Value → MM → Prop} {n : Nat} {lv : Lv} {st : List Value} {S : MM} {c z : Nat} (h : bX8_noteComes_97 Q (wpn (kX8_noteComes Q) n) lv st S c z) : wpn (kX8_noteComes Q) (n + 1) 97 lv st S c z := h
theorem u_X8_noteComes_98 {Q : Option Value → MM → Prop} {n : Nat} {lv : Lv} {st : List Value} {S : MM} {c z : Nat} (h : bX8_noteComes_98 Q (wpn (kX8_noteComes Q) n) lv st S c z) : wpn (kX8_noteComes Q) (n + 1) 98 lv st S c z := h
theorem u_X8_noteComes_105 {Q : Option Value → MM → Prop} {n : Nat} {lv : Lv} {st : List Value} {S : MM} {c z : Nat} (h : bX8_noteComes_105 Q (wpn (kX8_noteComes Q) n) lv st S c z) : wpn (kX8_noteComes Q) (n + 1) 105 lv st S c z := h
theorem u_X8_noteComes_108 {Q : Option Value → MM → Prop} {n : Nat} {lv : Lv} {st : List Value} {S : MM} {c z : Nat} (h : bX8_noteComes_108 Q (wpn (kX8_noteComes Q) n) lv st S c z) : wpn (kX8_noteComes Q) (n + 1) 108 lv st S c z := h
theorem u_X8_noteComes_143 {Q : Option Value → MM → Prop} {n : Nat} {lv : Lv} {st : List Value} {S : MM} {c z : Nat} (h : bX8_noteComes_143 Q (wpn (kX8_noteComes Q) n) lv st S c z) : wpn (kX8_noteComes Q) (n + 1) 143 lv st S c z := h
theorem u_X8_noteComes_162 {Q : Option Value → MM → Prop} {n : Nat} {lv : Lv} {st : List Value} {S : MM} {c z : Nat} (h : bX8_noteComes_162 Q (wpn (kX8_noteComes Q) n) lv st S c z) : wpn (kX8_noteComes Q) (n + 1) 162 lv st S c z := h
theorem u_X8_noteComes_187 {Q : Option Value → MM → Prop} {n : Nat} {lv : Lv} {st : List Value} {S : MM} {c z : Nat} (h : bX8_noteComes_187 Q (wpn (kX8_noteComes Q) n) lv st S c z) : wpn (kX8_noteComes Q) (n + 1) 187 lv st S c z := h
theorem u_X8_noteComes_189 {Q : Option Value → MM → Prop} {n : Nat} {lv : Lv} {st : List Value} {S : MM} {c z : Nat} (h : bX8_noteComes_189 Q (wpn (kX8_noteComes Q) n) lv st S c z) : wpn (kX8_noteComes Q) (n + 1) 189 lv st S c z := h
theorem u_X8_noteComes_202 {Q : Option Value → MM → Prop} {n : Nat} {lv : Lv} {st : List Value} {S : MM} {c z : Nat} (h : bX8_noteComes_202 Q (wpn (kX8_noteComes Q) n) lv st S c z) : wpn (kX8_noteComes Q) (n + 1) 202 lv st S c z := h
def P_X8_noteComes_0 (Q : Option Value → MM → Prop) (S0 : MM) (m : Nat) (A : Nat → Nat) (n : Nat) : Prop := ∀ (lv : Lv) (S : MM) (i1 : Nat) (i2 : Nat), lvg lv 0 = some (.ref m) → lvg lv 1 = some (.int (nI i1)) → i1 < 4000 → lvg lv 2 = some (.int (nI i2)) → i2 < 16 → SM [7, 8, 14, 15, 17, 18] m A S0 S → IM S m A → 5766 ≤ n → wpn (kX8_noteComes Q) n 0 lv [] S 0 0
def P_X8_noteComes_8 (Q : Option Value → MM → Prop) (S0 : MM) (m : Nat) (A : Nat → Nat) (n : Nat) : Prop := ∀ (lv : Lv) (S : MM) (i1 : Nat) (i2 : Nat) (i3 : Nat) (i4 : Nat) (i5 : Nat), lvg lv 0 = some (.ref m) → lvg lv 1 = some (.int (nI i1)) → i1 < 4000 → lvg lv 2 = some (.int (nI i2)) → i2 < 16 → lvg lv 3 = some (.int (nI i3)) → i3 < 2 → lvg lv 4 = some (.int (nI i4)) → i4 < 2 → lvg lv 5 = some (.int (nI i5)) → i5 < 6 → SM [7, 8, 14, 15, 17, 18] m A S0 S → IM S m A → 930 + 961 * (5 - i5) ≤ n → wpn (kX8_noteComes Q) n 8 lv [] S 0 0
def P_X8_noteComes_52 (Q : Option Value → MM → Prop) (S0 : MM) (m : Nat) (A : Nat → Nat) (n : Nat) : Prop := ∀ (lv : Lv) (S : MM) (i1 : Nat) (i2 : Nat) (i3 : Nat) (i4 : Nat) (i5 : Nat) (w6 : Int32) (is0 : Nat), lvg lv 0 = some (.ref m) → lvg lv 1 = some (.int (nI i1)) → i1 < 4000 → lvg lv 2 = some (.int (nI i2)) → i2 < 16 → lvg lv 3 = some (.int (nI i3)) → i3 < 2 → lvg lv 4 = some (.int (nI i4)) → i4 < 2 → lvg lv 5 = some (.int (nI i5)) → i5 < 5 → lvg lv 6 = some (.int w6) → is0 < 2 → SM [7, 8, 14, 15, 17, 18] m A S0 S → IM S m A → 31 + 961 * (5 - i5) ≤ n → wpn (kX8_noteComes Q) n 52 lv [.int (nI is0)] S 0 0
def P_X8_noteComes_108 (Q : Option Value → MM → Prop) (S0 : MM) (m : Nat) (A : Nat → Nat) (n : Nat) : Prop := ∀ (lv : Lv) (S : MM) (i1 : Nat) (i2 : Nat) (i3 : Nat) (i4 : Nat) (i5 : Nat), lvg lv 0 = some (.ref m) → lvg lv 1 = some (.int (nI i1)) → i1 < 4000 → lvg lv 2 = some (.int (nI i2)) → i2 < 16 → lvg lv 3 = some (.int (nI i3)) → i3 < 2 → lvg lv 4 = some (.int (nI i4)) → i4 < 2 → lvg lv 5 = some (.int (nI i5)) → i5 < 6 → SM [7, 8, 14, 15, 17, 18] m A S0 S → IM S m A → 124 + 155 * (5 - i5) ≤ n → wpn (kX8_noteComes Q) n 108 lv [] S 0 0
def P_X8_noteComes_162 (Q : Option Value → MM → Prop) (S0 : MM) (m : Nat) (A : Nat → Nat) (n : Nat) : Prop := ∀ (lv : Lv) (S : MM) (i1 : Nat) (i2 : Nat) (i3 : Nat) (i4 : Nat) (i5 : Nat), lvg lv 0 = some (.ref m) → lvg lv 1 = some (.int (nI i1)) → i1 < 4000 → lvg lv 2 = some (.int (nI i2)) → i2 < 16 → lvg lv 3 = some (.int (nI i3)) → i3 < 2 → lvg lv 4 = some (.int (nI i4)) → i4 < 2 → lvg lv 5 = some (.int (nI i5)) → i5 < 6 → SM [7, 8, 14, 15, 17, 18] m A S0 S → IM S m A → 93 ≤ n → wpn (kX8_noteComes Q) n 162 lv [] S 0 0
def P_X8_noteComes_189 (Q : Option Value → MM → Prop) (S0 : MM) (m : Nat) (A : Nat → Nat) (n : Nat) : Prop := ∀ (lv : Lv) (S : MM) (i1 : Nat) (i2 : Nat) (i3 : Nat) (i4 : Nat) (i5 : Nat) (is0 : Nat) (is1 : Nat), lvg lv 0 = some (.ref m) → lvg lv 1 = some (.int (nI i1)) → i1 < 4000 → lvg lv 2 = some (.int (nI i2)) → i2 < 16 → lvg lv 3 = some (.int (nI i3)) → i3 < 2 → lvg lv 4 = some (.int (nI i4)) → i4 < 2 → lvg lv 5 = some (.int (nI i5)) → i5 < 6 → is0 < 91 → is1 < 16 → SM [7, 8, 14, 15, 17, 18] m A S0 S → IM S m A → 62 ≤ n → wpn (kX8_noteComes Q) n 189 lv [.int (nI is0), .int (nI is1), .ref (A 8)] S 0 0
def P_X8_noteComes_202 (Q : Option Value → MM → Prop) (S0 : MM) (m : Nat) (A : Nat → Nat) (n : Nat) : Prop := ∀ (lv : Lv) (S : MM) (i1 : Nat) (i2 : Nat) (i3 : Nat) (i4 : Nat) (i5 : Nat), lvg lv 0 = some (.ref m) → lvg lv 1 = some (.int (nI i1)) → i1 < 4000 → lvg lv 2 = some (.int (nI i2)) → i2 < 16 → lvg lv 3 = some (.int (nI i3)) → i3 < 2 → lvg lv 4 = some (.int (nI i4)) → i4 < 2 → lvg lv 5 = some (.int (nI i5)) → i5 < 6 → SM [7, 8, 14, 15, 17, 18] m A S0 S → IM S m A → 31 ≤ n → wpn (kX8_noteComes Q) n 202 lv [] S 0 0
theorem B_X8_noteComes_0 {Q : Option Value → MM → Prop} {S0 : MM} {m : Nat} {A : Nat → Nat} {n : Nat} (hM : MS S0 m A) (K : ∀ S', SM [7, 8, 14, 15, 17, 18] m A S0 S' → IM S' m A → Q none S') (t_8 : ∀ k, k ≤ n → P_X8_noteComes_8 Q S0 m A k) : P_X8_noteComes_0 Q S0 m A (n + 1) := by
  intro lv S i1 i2 g0 g1 h1 g2 h2 sh im hF
  refine u_X8_noteComes_0 ?_
  unfold bX8_noteComes_0
  refine e_cN 1 rfl ?_
  refine e_stI ?_
  refine e_cN 1 rfl ?_
  refine e_stI ?_
  refine e_cN 0 rfl ?_
  refine e_stI ?_
  exact t_8 n (by omega) _ _ i1 i2 1 1 0 (lvg_ne (lvg_ne (lvg_ne g0 rfl (by decide)) rfl (by decide)) rfl (by decide)) (lvg_ne (lvg_ne (lvg_ne g1 rfl (by decide)) rfl (by decide)) rfl (by decide)) (by omega) (lvg_ne (lvg_ne (lvg_ne g2 rfl (by decide)) rfl (by decide)) rfl (by decide)) (by omega) (lvg_ne (lvg_ne lvg_self rfl (by decide)) rfl (by decide)) (by omega) (lvg_ne lvg_self rfl (by decide)) (by omega) lvg_self (by omega) sh im (by omega)
theorem B_X8_noteComes_8 {Q : Option Value → MM → Prop} {S0 : MM} {m : Nat} {A : Nat → Nat} {n : Nat} (hM : MS S0 m A) (K : ∀ S', SM [7, 8, 14, 15, 17, 18] m A S0 S' → IM S' m A → Q none S') (t_52 : ∀ k, k ≤ n → P_X8_noteComes_52 Q S0 m A k) (t_108 : ∀ k, k ≤ n → P_X8_noteComes_108 Q S0 m A k) : P_X8_noteComes_8 Q S0 m A (n + 1) := by
  intro lv S i1 i2 i3 i4 i5 g0 g1 h1 g2 h2 g3 h3 g4 h4 g5 h5 sh im hF
  refine u_X8_noteComes_8 ?_
  unfold bX8_noteComes_8
  refine e_ldI g5 ?_
  refine e_cN 5 rfl ?_
  refine e_ge (by omega) (by omega) (fun h1 => ?_) (fun h1 => ?_)
  · obtain ⟨q2, rfl⟩ : ∃ q, n = q + 1 := ⟨n - 1, by omega⟩
    refine u_X8_noteComes_105 ?_
    unfold bX8_noteComes_105
    refine e_cN 0 rfl ?_
    refine e_stI ?_
    exact t_108 q2 (by omega) _ _ i1 i2 i3 i4 0 (lvg_ne g0 rfl (by decide)) (lvg_ne g1 rfl (by decide)) (by omega) (lvg_ne g2 rfl (by decide)) (by omega) (lvg_ne g3 rfl (by decide)) (by omega) (lvg_ne g4 rfl (by decide)) (by omega) lvg_self (by omega) sh im (by omega)
  · refine e_ldA g0 ?_
    refine e_gR (SM_k sh hM.1) (SM_r sh (hM.2.1 31 (by decide)).1) ?_
    refine e_cN 10 rfl ?_
    refine e_ldI g1 ?_
    refine e_mul ?_
    refine e_cN 5 rfl ?_
    refine e_add ?_
    refine e_ldI g5 ?_
    refine e_add ?_
    refine e_aI (N := 40000) (SM_k sh (hM.2.1 31 (by decide)).2.1) (SM_n sh (hM.2.1 31 (by decide)).2.2.1) (by omega) (by decide) (fun v3 hv4 => ?_)
    refine e_stI ?_
    refine e_ldI (lvg_ne g4 rfl (by decide)) ?_
    refine e_ifN (by omega) (fun h5 => ?_) (fun h5 => ?_)
    · obtain ⟨q6, rfl⟩ : ∃ q, n = q + 1 := ⟨n - 1, by omega⟩
      refine u_X8_noteComes_51 ?_
      unfold bX8_noteComes_51
      refine e_cN 0 rfl ?_
      exact t_52 q6 (by omega) _ _ i1 i2 i3 i4 i5 _ 0 (lvg_ne g0 rfl (by decide)) (lvg_ne g1 rfl (by decide)) (by omega) (lvg_ne g2 rfl (by decide)) (by omega) (lvg_ne g3 rfl (by decide)) (by omega) (lvg_ne g4 rfl (by decide)) (by omega) (lvg_ne g5 rfl (by decide)) (by omega) lvg_self (by omega) sh im (by omega)
    · refine e_ldI lvg_self ?_
      refine e_ldA (lvg_ne g0 rfl (by decide)) ?_
      refine e_ldI (lvg_ne g2 rfl (by decide)) ?_
      refine e_ldI (lvg_ne g5 rfl (by decide)) ?_
      refine And.intro (SM_k sh hM.1) (And.intro ⟨by decide, by decide⟩ (z_X8_own (MS_SM hM sh) im (show i2 < 16 by omega) (fun r11 S7 s8 ir9 => ?_)))
      have sh10 := SM.tr sh s8 (by decide)
      refine e_ifc ?_ ?_
      · refine e_cN 1 rfl ?_
        exact t_52 n (by omega) _ _ i1 i2 i3 i4 i5 _ 1 (lvg_ne g0 rfl (by decide)) (lvg_ne g1 rfl (by decide)) (by omega) (lvg_ne g2 rfl (by decide)) (by omega) (lvg_ne g3 rfl (by decide)) (by omega) (lvg_ne g4 rfl (by decide)) (by omega) (lvg_ne g5 rfl (by decide)) (by omega) lvg_self (by omega) sh10 ir9 (by omega)
      · obtain ⟨q12, rfl⟩ : ∃ q, n = q + 1 := ⟨n - 1, by omega⟩
        refine u_X8_noteComes_51 ?_
        unfold bX8_noteComes_51
        refine e_cN 0 rfl ?_
        exact t_52 q12 (by omega) _ _ i1 i2 i3 i4 i5 _ 0 (lvg_ne g0 rfl (by decide)) (lvg_ne g1 rfl (by decide)) (by omega) (lvg_ne g2 rfl (by decide)) (by omega) (lvg_ne g3 rfl (by decide)) (by omega) (lvg_ne g4 rfl (by decide)) (by omega) (lvg_ne g5 rfl (by decide)) (by omega) lvg_self (by omega) sh10 ir9 (by omega)
theorem B_X8_noteComes_52 {Q : Option Value → MM → Prop} {S0 : MM} {m : Nat} {A : Nat → Nat} {n : Nat} (hM : MS S0 m A) (K : ∀ S', SM [7, 8, 14, 15, 17, 18] m A S0 S' → IM S' m A → Q none S') (t_8 : ∀ k, k ≤ n → P_X8_noteComes_8 Q S0 m A k) : P_X8_noteComes_52 Q S0 m A (n + 1) := by
  intro lv S i1 i2 i3 i4 i5 w6 is0 g0 g1 h1 g2 h2 g3 h3 g4 h4 g5 h5 g6 hs0 sh im hF
  refine u_X8_noteComes_52 ?_
  unfold bX8_noteComes_52
  refine e_stI ?_
  refine e_ldI (lvg_ne g3 rfl (by decide)) ?_
  refine e_ifN (by omega) (fun h1 => ?_) (fun h1 => ?_)
  · obtain ⟨q2, rfl⟩ : ∃ q, n = q + 1 := ⟨n - 1, by omega⟩
    refine u_X8_noteComes_97 ?_
    unfold bX8_noteComes_97
    refine e_cN 0 rfl ?_
    obtain ⟨q3, rfl⟩ : ∃ q, q2 = q + 1 := ⟨q2 - 1, by omega⟩
    refine u_X8_noteComes_98 ?_
    unfold bX8_noteComes_98
    refine e_stI ?_
    refine e_inc (lvg_ne (lvg_ne g5 rfl (by decide)) rfl (by decide)) ?_
    exact t_8 q3 (by omega) _ _ i1 i2 0 is0 (i5 + 1) (lvg_ne (lvg_ne (lvg_ne g0 rfl (by decide)) rfl (by decide)) rfl (by decide)) (lvg_ne (lvg_ne (lvg_ne g1 rfl (by decide)) rfl (by decide)) rfl (by decide)) (by omega) (lvg_ne (lvg_ne (lvg_ne g2 rfl (by decide)) rfl (by decide)) rfl (by decide)) (by omega) (lvg_ne lvg_self rfl (by decide)) (by omega) (lvg_ne (lvg_ne lvg_self rfl (by decide)) rfl (by decide)) (by omega) lvg_self (by omega) sh im (by omega)
  · refine e_ldI (lvg_ne g5 rfl (by decide)) ?_
    refine e_cN 4 rfl ?_
    refine e_ge (by omega) (by omega) (fun h4 => ?_) (fun h4 => ?_)
    · obtain ⟨q5, rfl⟩ : ∃ q, n = q + 1 := ⟨n - 1, by omega⟩
      refine u_X8_noteComes_79 ?_
      unfold bX8_noteComes_79
      refine e_ldI (lvg_ne g6 rfl (by decide)) ?_
      refine e_cN 4 rfl ?_
      refine e_bopU (fun r6 => ?_)
      refine e_ldA (lvg_ne g0 rfl (by decide)) ?_
      refine e_ldI (lvg_ne g2 rfl (by decide)) ?_
      refine And.intro (SM_k sh hM.1) (And.intro ⟨by decide, by decide⟩ (z_X8_bits (MS_SM hM sh) im (show i2 < 16 by omega) (fun r11 S7 s8 ir9 => ?_)))
      have sh10 := SM.tr sh s8 (by decide)
      refine e_cN 4 rfl ?_
      refine e_bopU (fun r12 => ?_)
      refine e_ifc ?_ ?_
      · obtain ⟨q13, rfl⟩ : ∃ q, q5 = q + 1 := ⟨q5 - 1, by omega⟩
        refine u_X8_noteComes_93 ?_
        unfold bX8_noteComes_93
        refine e_cN 1 rfl ?_
        obtain ⟨q14, rfl⟩ : ∃ q, q13 = q + 1 := ⟨q13 - 1, by omega⟩
        refine u_X8_noteComes_98 ?_
        unfold bX8_noteComes_98
        refine e_stI ?_
        refine e_inc (lvg_ne (lvg_ne g5 rfl (by decide)) rfl (by decide)) ?_
        exact t_8 q14 (by omega) _ _ i1 i2 1 is0 (i5 + 1) (lvg_ne (lvg_ne (lvg_ne g0 rfl (by decide)) rfl (by decide)) rfl (by decide)) (lvg_ne (lvg_ne (lvg_ne g1 rfl (by decide)) rfl (by decide)) rfl (by decide)) (by omega) (lvg_ne (lvg_ne (lvg_ne g2 rfl (by decide)) rfl (by decide)) rfl (by decide)) (by omega) (lvg_ne lvg_self rfl (by decide)) (by omega) (lvg_ne (lvg_ne lvg_self rfl (by decide)) rfl (by decide)) (by omega) lvg_self (by omega) sh10 ir9 (by omega)
      · obtain ⟨q15, rfl⟩ : ∃ q, q5 = q + 1 := ⟨q5 - 1, by omega⟩
        refine u_X8_noteComes_97 ?_
        unfold bX8_noteComes_97
        refine e_cN 0 rfl ?_
        obtain ⟨q16, rfl⟩ : ∃ q, q15 = q + 1 := ⟨q15 - 1, by omega⟩
        refine u_X8_noteComes_98 ?_
        unfold bX8_noteComes_98
        refine e_stI ?_
        refine e_inc (lvg_ne (lvg_ne g5 rfl (by decide)) rfl (by decide)) ?_
        exact t_8 q16 (by omega) _ _ i1 i2 0 is0 (i5 + 1) (lvg_ne (lvg_ne (lvg_ne g0 rfl (by decide)) rfl (by decide)) rfl (by decide)) (lvg_ne (lvg_ne (lvg_ne g1 rfl (by decide)) rfl (by decide)) rfl (by decide)) (by omega) (lvg_ne (lvg_ne (lvg_ne g2 rfl (by decide)) rfl (by decide)) rfl (by decide)) (by omega) (lvg_ne lvg_self rfl (by decide)) (by omega) (lvg_ne (lvg_ne lvg_self rfl (by decide)) rfl (by decide)) (by omega) lvg_self (by omega) sh10 ir9 (by omega)
    · refine e_ldI (lvg_ne g6 rfl (by decide)) ?_
      refine e_ldA (lvg_ne g0 rfl (by decide)) ?_
      refine e_ldI (lvg_ne g2 rfl (by decide)) ?_
      refine e_ldI (lvg_ne g5 rfl (by decide)) ?_
      refine And.intro (SM_k sh hM.1) (And.intro ⟨by decide, by decide⟩ (z_X8_own (MS_SM hM sh) im (show i2 < 16 by omega) (fun r21 S17 s18 ir19 => ?_)))
      have sh20 := SM.tr sh s18 (by decide)
      refine e_ifc ?_ ?_
      · obtain ⟨q22, rfl⟩ : ∃ q, n = q + 1 := ⟨n - 1, by omega⟩
        refine u_X8_noteComes_93 ?_
        unfold bX8_noteComes_93
        refine e_cN 1 rfl ?_
        obtain ⟨q23, rfl⟩ : ∃ q, q22 = q + 1 := ⟨q22 - 1, by omega⟩
        refine u_X8_noteComes_98 ?_
        unfold bX8_noteComes_98
        refine e_stI ?_
        refine e_inc (lvg_ne (lvg_ne g5 rfl (by decide)) rfl (by decide)) ?_
        exact t_8 q23 (by omega) _ _ i1 i2 1 is0 (i5 + 1) (lvg_ne (lvg_ne (lvg_ne g0 rfl (by decide)) rfl (by decide)) rfl (by decide)) (lvg_ne (lvg_ne (lvg_ne g1 rfl (by decide)) rfl (by decide)) rfl (by decide)) (by omega) (lvg_ne (lvg_ne (lvg_ne g2 rfl (by decide)) rfl (by decide)) rfl (by decide)) (by omega) (lvg_ne lvg_self rfl (by decide)) (by omega) (lvg_ne (lvg_ne lvg_self rfl (by decide)) rfl (by decide)) (by omega) lvg_self (by omega) sh20 ir19 (by omega)
      · obtain ⟨q24, rfl⟩ : ∃ q, n = q + 1 := ⟨n - 1, by omega⟩
        refine u_X8_noteComes_97 ?_
        unfold bX8_noteComes_97
        refine e_cN 0 rfl ?_
        obtain ⟨q25, rfl⟩ : ∃ q, q24 = q + 1 := ⟨q24 - 1, by omega⟩
        refine u_X8_noteComes_98 ?_
        unfold bX8_noteComes_98
        refine e_stI ?_
        refine e_inc (lvg_ne (lvg_ne g5 rfl (by decide)) rfl (by decide)) ?_
        exact t_8 q25 (by omega) _ _ i1 i2 0 is0 (i5 + 1) (lvg_ne (lvg_ne (lvg_ne g0 rfl (by decide)) rfl (by decide)) rfl (by decide)) (lvg_ne (lvg_ne (lvg_ne g1 rfl (by decide)) rfl (by decide)) rfl (by decide)) (by omega) (lvg_ne (lvg_ne (lvg_ne g2 rfl (by decide)) rfl (by decide)) rfl (by decide)) (by omega) (lvg_ne lvg_self rfl (by decide)) (by omega) (lvg_ne (lvg_ne lvg_self rfl (by decide)) rfl (by decide)) (by omega) lvg_self (by omega) sh20 ir19 (by omega)
theorem B_X8_noteComes_108 {Q : Option Value → MM → Prop} {S0 : MM} {m : Nat} {A : Nat → Nat} {n : Nat} (hM : MS S0 m A) (K : ∀ S', SM [7, 8, 14, 15, 17, 18] m A S0 S' → IM S' m A → Q none S') (t_108 : ∀ k, k ≤ n → P_X8_noteComes_108 Q S0 m A k) (t_162 : ∀ k, k ≤ n → P_X8_noteComes_162 Q S0 m A k) : P_X8_noteComes_108 Q S0 m A (n + 1) := by
  intro lv S i1 i2 i3 i4 i5 g0 g1 h1 g2 h2 g3 h3 g4 h4 g5 h5 sh im hF
  refine u_X8_noteComes_108 ?_
  unfold bX8_noteComes_108
  refine e_ldI g5 ?_
  refine e_cN 5 rfl ?_
  refine e_ge (by omega) (by omega) (fun h1 => ?_) (fun h1 => ?_)
  · obtain ⟨q2, rfl⟩ : ∃ q, n = q + 1 := ⟨n - 1, by omega⟩
    refine u_X8_noteComes_143 ?_
    unfold bX8_noteComes_143
    refine e_ldI g3 ?_
    refine e_ifN (by omega) (fun h3 => ?_) (fun h3 => ?_)
    · refine e_ldA g0 ?_
      refine e_gR (SM_k sh hM.1) (SM_r sh (hM.2.1 18 (by decide)).1) ?_
      refine e_cN 5 rfl ?_
      refine e_ldI g2 ?_
      refine e_mul ?_
      refine e_cN 4 rfl ?_
      refine e_add ?_
      refine e_du2 ?_
      refine e_aI (N := 80) (SM_k sh (hM.2.1 18 (by decide)).2.1) (SM_n sh (hM.2.1 18 (by decide)).2.2.1) (by omega) (by decide) (fun v4 hv5 => ?_)
      refine e_cI ?_
      refine e_bopU (fun r6 => ?_)
      refine y_mA (N := 80) hM sh im (by decide) rfl rfl (by omega) (by decide) (by decide) (fun N e => nomatch (show (none : Option Nat) = some N from e)) (fun e => absurd e (by decide)) (fun S7 he8 sh9 ir10 => ?_)
      exact t_162 q2 (by omega) _ _ i1 i2 i3 i4 i5 g0 g1 (by omega) g2 (by omega) g3 (by omega) g4 (by omega) g5 (by omega) sh9 ir10 (by omega)
    · exact t_162 q2 (by omega) _ _ i1 i2 i3 i4 i5 g0 g1 (by omega) g2 (by omega) g3 (by omega) g4 (by omega) g5 (by omega) sh im (by omega)
  · refine e_ldA g0 ?_
    refine e_gR (SM_k sh hM.1) (SM_r sh (hM.2.1 18 (by decide)).1) ?_
    refine e_cN 5 rfl ?_
    refine e_ldI g2 ?_
    refine e_mul ?_
    refine e_ldI g5 ?_
    refine e_add ?_
    refine e_ldA g0 ?_
    refine e_gR (SM_k sh hM.1) (SM_r sh (hM.2.1 31 (by decide)).1) ?_
    refine e_cN 10 rfl ?_
    refine e_ldI g1 ?_
    refine e_mul ?_
    refine e_ldI g5 ?_
    refine e_add ?_
    refine e_aI (N := 40000) (SM_k sh (hM.2.1 31 (by decide)).2.1) (SM_n sh (hM.2.1 31 (by decide)).2.2.1) (by omega) (by decide) (fun v11 hv12 => ?_)
    refine y_mA (N := 80) hM sh im (by decide) rfl rfl (by omega) (by decide) (by decide) (fun N e => nomatch (show (none : Option Nat) = some N from e)) (fun e => absurd e (by decide)) (fun S13 he14 sh15 ir16 => ?_)
    refine e_inc g5 ?_
    exact t_108 n (by omega) _ _ i1 i2 i3 i4 (i5 + 1) (lvg_ne g0 rfl (by decide)) (lvg_ne g1 rfl (by decide)) (by omega) (lvg_ne g2 rfl (by decide)) (by omega) (lvg_ne g3 rfl (by decide)) (by omega) (lvg_ne g4 rfl (by decide)) (by omega) lvg_self (by omega) sh15 ir16 (by omega)
theorem B_X8_noteComes_162 {Q : Option Value → MM → Prop} {S0 : MM} {m : Nat} {A : Nat → Nat} {n : Nat} (hM : MS S0 m A) (K : ∀ S', SM [7, 8, 14, 15, 17, 18] m A S0 S' → IM S' m A → Q none S') (t_189 : ∀ k, k ≤ n → P_X8_noteComes_189 Q S0 m A k) : P_X8_noteComes_162 Q S0 m A (n + 1) := by
  intro lv S i1 i2 i3 i4 i5 g0 g1 h1 g2 h2 g3 h3 g4 h4 g5 h5 sh im hF
  refine u_X8_noteComes_162 ?_
  unfold bX8_noteComes_162
  refine e_ldA g0 ?_
  refine e_gR (SM_k sh hM.1) (SM_r sh (hM.2.1 7 (by decide)).1) ?_
  refine e_ldI g2 ?_
  refine e_cN 2 rfl ?_
  refine y_mA (N := 16) hM sh im (by decide) rfl rfl (by omega) (by decide) (by decide) (fun N e => nomatch (show (none : Option Nat) = some N from e)) (fun e => absurd e (by decide)) (fun S1 he2 sh3 ir4 => ?_)
  refine e_ldA g0 ?_
  refine e_gR (SM_k sh3 hM.1) (SM_r sh3 (hM.2.1 8 (by decide)).1) ?_
  refine e_ldI g2 ?_
  refine e_ldA g0 ?_
  refine e_gR (SM_k sh3 hM.1) (SM_r sh3 (hM.2.1 6 (by decide)).1) ?_
  refine e_ldI g2 ?_
  refine e_aI (N := 16) (SM_k sh3 (hM.2.1 6 (by decide)).2.1) (SM_n sh3 (hM.2.1 6 (by decide)).2.2.1) (by omega) (by decide) (fun v5 hv6 => ?_)
  refine e_if0 (fun h7 => ?_) (fun h7 => ?_)
  · obtain ⟨q8, rfl⟩ : ∃ q, n = q + 1 := ⟨n - 1, by omega⟩
    refine u_X8_noteComes_187 ?_
    unfold bX8_noteComes_187
    refine e_cN 90 rfl ?_
    exact t_189 q8 (by omega) _ _ i1 i2 i3 i4 i5 90 i2 g0 g1 (by omega) g2 (by omega) g3 (by omega) g4 (by omega) g5 (by omega) (by omega) (by omega) sh3 ir4 (by omega)
  · refine e_cN 3 rfl ?_
    exact t_189 n (by omega) _ _ i1 i2 i3 i4 i5 3 i2 g0 g1 (by omega) g2 (by omega) g3 (by omega) g4 (by omega) g5 (by omega) (by omega) (by omega) sh3 ir4 (by omega)
theorem B_X8_noteComes_189 {Q : Option Value → MM → Prop} {S0 : MM} {m : Nat} {A : Nat → Nat} {n : Nat} (hM : MS S0 m A) (K : ∀ S', SM [7, 8, 14, 15, 17, 18] m A S0 S' → IM S' m A → Q none S') (t_202 : ∀ k, k ≤ n → P_X8_noteComes_202 Q S0 m A k) : P_X8_noteComes_189 Q S0 m A (n + 1) := by
  intro lv S i1 i2 i3 i4 i5 is0 is1 g0 g1 h1 g2 h2 g3 h3 g4 h4 g5 h5 hs0 hs1 sh im hF
  refine u_X8_noteComes_189 ?_
  unfold bX8_noteComes_189
  refine y_mA (N := 16) hM sh im (by decide) rfl rfl (by omega) (by decide) (by decide) (fun N e => nomatch (show (none : Option Nat) = some N from e)) (fun e => absurd e (by decide)) (fun S1 he2 sh3 ir4 => ?_)
  refine e_ldI g4 ?_
  refine e_ifN (by omega) (fun h5 => ?_) (fun h5 => ?_)
  · refine e_ldA g0 ?_
    refine e_gR (SM_k sh3 hM.1) (SM_r sh3 (hM.2.1 14 (by decide)).1) ?_
    refine e_ldI g2 ?_
    refine e_cN 1 rfl ?_
    refine y_mB (N := 16) hM sh3 ir4 (by decide) rfl rfl (by omega) (by decide) (by omega) (by decide) (fun N e => nomatch (show (none : Option Nat) = some N from e)) (fun e => absurd e (by decide)) (fun S6 he7 sh8 ir9 => ?_)
    exact t_202 n (by omega) _ _ i1 i2 i3 i4 i5 g0 g1 (by omega) g2 (by omega) g3 (by omega) g4 (by omega) g5 (by omega) sh8 ir9 (by omega)
  · exact t_202 n (by omega) _ _ i1 i2 i3 i4 i5 g0 g1 (by omega) g2 (by omega) g3 (by omega) g4 (by omega) g5 (by omega) sh3 ir4 (by omega)
theorem B_X8_noteComes_202 {Q : Option Value → MM → Prop} {S0 : MM} {m : Nat} {A : Nat → Nat} {n : Nat} (hM : MS S0 m A) (K : ∀ S', SM [7, 8, 14, 15, 17, 18] m A S0 S' → IM S' m A → Q none S')  : P_X8_noteComes_202 Q S0 m A (n + 1) := by
  intro lv S i1 i2 i3 i4 i5 g0 g1 h1 g2 h2 g3 h3 g4 h4 g5 h5 sh im hF
  refine u_X8_noteComes_202 ?_
  unfold bX8_noteComes_202
  refine e_ldA g0 ?_
  refine e_gR (SM_k sh hM.1) (SM_r sh (hM.2.1 15 (by decide)).1) ?_
  refine e_ldI g2 ?_
  refine e_cN 1 rfl ?_
  refine y_mB (N := 16) hM sh im (by decide) rfl rfl (by omega) (by decide) (by omega) (by decide) (fun N e => nomatch (show (none : Option Nat) = some N from e)) (fun e => absurd e (by decide)) (fun S1 he2 sh3 ir4 => ?_)
  refine e_ldA g0 ?_
  refine e_gR (SM_k sh3 hM.1) (SM_r sh3 (hM.2.1 17 (by decide)).1) ?_
  refine e_ldI g2 ?_
  refine e_du2 ?_
  refine e_aI (N := 16) (SM_k sh3 (hM.2.1 17 (by decide)).2.1) (SM_n sh3 (hM.2.1 17 (by decide)).2.2.1) (by omega) (by decide) (fun v5 hv6 => ?_)
  refine e_cN 1 rfl ?_
  refine e_bopU (fun r7 => ?_)
  refine y_mA (N := 16) hM sh3 ir4 (by decide) rfl rfl (by omega) (by decide) (by decide) (fun N e => nomatch (show (none : Option Nat) = some N from e)) (fun e => absurd e (by decide)) (fun S8 he9 sh10 ir11 => ?_)
  exact e_rV (K _ sh10 ir11)
theorem A_X8_noteComes {Q : Option Value → MM → Prop} {S0 : MM} {m : Nat} {A : Nat → Nat} (hM : MS S0 m A) (K : ∀ S', SM [7, 8, 14, 15, 17, 18] m A S0 S' → IM S' m A → Q none S') : ∀ n k, k ≤ n → P_X8_noteComes_0 Q S0 m A k ∧ P_X8_noteComes_8 Q S0 m A k ∧ P_X8_noteComes_52 Q S0 m A k ∧ P_X8_noteComes_108 Q S0 m A k ∧ P_X8_noteComes_162 Q S0 m A k ∧ P_X8_noteComes_189 Q S0 m A k ∧ P_X8_noteComes_202 Q S0 m A k := by
  intro n
  induction n with
  | zero =>
    intro k hk
    have e : k = 0 := by omega
    subst e
    exact ⟨(fun lv S i1 i2 _ _ _ _ _ _ _ hF => absurd hF (by omega)), (fun lv S i1 i2 i3 i4 i5 _ _ _ _ _ _ _ _ _ _ _ _ _ hF => absurd hF (by omega)), (fun lv S i1 i2 i3 i4 i5 w6 is0 _ _ _ _ _ _ _ _ _ _ _ _ _ _ _ hF => absurd hF (by omega)), (fun lv S i1 i2 i3 i4 i5 _ _ _ _ _ _ _ _ _ _ _ _ _ hF => absurd hF (by omega)), (fun lv S i1 i2 i3 i4 i5 _ _ _ _ _ _ _ _ _ _ _ _ _ hF => absurd hF (by omega)), (fun lv S i1 i2 i3 i4 i5 is0 is1 _ _ _ _ _ _ _ _ _ _ _ _ _ _ _ hF => absurd hF (by omega)), (fun lv S i1 i2 i3 i4 i5 _ _ _ _ _ _ _ _ _ _ _ _ _ hF => absurd hF (by omega))⟩
  | succ n ih =>
    intro k hk
    by_cases hn : k ≤ n
    · exact ih k hn
    · have e : k = n + 1 := by omega
      subst e
      have T_0 : ∀ k, k ≤ n → P_X8_noteComes_0 Q S0 m A k := fun k hk => (ih k hk).1
      have T_8 : ∀ k, k ≤ n → P_X8_noteComes_8 Q S0 m A k := fun k hk => (ih k hk).2.1
      have T_52 : ∀ k, k ≤ n → P_X8_noteComes_52 Q S0 m A k := fun k hk => (ih k hk).2.2.1
      have T_108 : ∀ k, k ≤ n → P_X8_noteComes_108 Q S0 m A k := fun k hk => (ih k hk).2.2.2.1
      have T_162 : ∀ k, k ≤ n → P_X8_noteComes_162 Q S0 m A k := fun k hk => (ih k hk).2.2.2.2.1
      have T_189 : ∀ k, k ≤ n → P_X8_noteComes_189 Q S0 m A k := fun k hk => (ih k hk).2.2.2.2.2.1
      have T_202 : ∀ k, k ≤ n → P_X8_noteComes_202 Q S0 m A k := fun k hk => (ih k hk).2.2.2.2.2.2
      exact ⟨B_X8_noteComes_0 hM K T_8, B_X8_noteComes_8 hM K T_52 T_108, B_X8_noteComes_52 hM K T_8, B_X8_noteComes_108 hM K T_108 T_162, B_X8_noteComes_162 hM K T_189, B_X8_noteComes_189 hM K T_202, B_X8_noteComes_202 hM K ⟩
theorem z_X8_noteComes {Q : Option Value → MM → Prop} {S0 : MM} {m : Nat} {A : Nat → Nat} {i1 : Nat} {i2 : Nat} (hM : MS S0 m A) (im : IM S0 m A) (h1 : i1 < 4000) (h2 : i2 < 16) (K : ∀ S', SM [7, 8, 14, 15, 17, 18] m A S0 S' → IM S' m A → Q none S') : wX8_noteComes [.ref m, .int (nI i1), .int (nI i2)] S0 Q := by
  exact Exists.intro 5766 ((A_X8_noteComes hM K 5766 5766 (Nat.le_refl _)).1 _ S0 i1 i2 rfl rfl h1 rfl h2 SM.rf im (by omega))
theorem u_X8_isUp_0 {Q : Option Value → MM → Prop} {n : Nat} {lv : Lv} {st : List Value} {S : MM} {c z : Nat} (h : bX8_isUp_0 Q (wpn (kX8_isUp Q) n) lv st S c z) : wpn (kX8_isUp Q) (n + 1) 0 lv st S c z := h
theorem z_X8_isUp {Q : Option Value → MM → Prop} {S0 : MM} {m : Nat} {A : Nat → Nat} {i1 : Nat} (hM : MS S0 m A) (im : IM S0 m A) (h1 : i1 < 8) (K : ∀ S', SM [7, 8, 9, 14, 18, 21, 25, 40] m A S0 S' → IM S' m A → Q none S') : wX8_isUp [.ref m, .int (nI i1)] S0 Q := by
  have sh : SM [7, 8, 9, 14, 18, 21, 25, 40] m A S0 S0 := SM.rf
  refine Exists.intro 60 (u_X8_isUp_0 ?_)
  unfold bX8_isUp_0
  refine e_ldA rfl ?_
  refine e_gR (SM_k sh hM.1) (SM_r sh (hM.2.1 25 (by decide)).1) ?_
  refine e_ldI rfl ?_
  refine e_cN 1 rfl ?_
  refine y_mB (N := 8) hM sh im (by decide) rfl rfl (by omega) (by decide) (by omega) (by decide) (fun N e => nomatch (show (none : Option Nat) = some N from e)) (fun e => absurd e (by decide)) (fun S1 he2 sh3 ir4 => ?_)
  refine e_ldA rfl ?_
  refine e_ldA rfl ?_
  refine e_ldI rfl ?_
  refine e_cN 0 rfl ?_
  refine And.intro (SM_k sh3 hM.1) (And.intro ⟨by decide, by decide⟩ (z_X8_portAt (MS_SM hM sh3) ir4 (show i1 < 8 by omega) (show 0 < 2 by omega) (fun n9 S5 s6 ir7 hn10 => ?_)))
  have sh8 := SM.tr sh3 s6 (by decide)
  refine And.intro (SM_k sh8 hM.1) (And.intro ⟨by decide, by decide⟩ (z_X8_isLitNow (MS_SM hM sh8) ir7 (show n9 < 16 by omega) (fun S11 s12 ir13 => ?_)))
  have sh14 := SM.tr sh8 s12 (by decide)
  refine e_ldA rfl ?_
  refine e_ldA rfl ?_
  refine e_ldI rfl ?_
  refine e_cN 1 rfl ?_
  refine And.intro (SM_k sh14 hM.1) (And.intro ⟨by decide, by decide⟩ (z_X8_portAt (MS_SM hM sh14) ir13 (show i1 < 8 by omega) (show 1 < 2 by omega) (fun n19 S15 s16 ir17 hn20 => ?_)))
  have sh18 := SM.tr sh14 s16 (by decide)
  refine And.intro (SM_k sh18 hM.1) (And.intro ⟨by decide, by decide⟩ (z_X8_isLitNow (MS_SM hM sh18) ir17 (show n19 < 16 by omega) (fun S21 s22 ir23 => ?_)))
  have sh24 := SM.tr sh18 s22 (by decide)
  exact e_rV (K _ sh24 ir23)
theorem u_X8_isAnother_0 {Q : Option Value → MM → Prop} {n : Nat} {lv : Lv} {st : List Value} {S : MM} {c z : Nat} (h : bX8_isAnother_0 Q (wpn (kX8_isAnother Q) n) lv st S c z) : wpn (kX8_isAnother Q) (n + 1) 0 lv st S c z := h
theorem u_X8_isAnother_24 {Q : Option Value → MM → Prop} {n : Nat} {lv : Lv} {st : List Value} {S : MM} {c z : Nat} (h : bX8_isAnother_24 Q (wpn (kX8_isAnother Q) n) lv st S c z) : wpn (kX8_isAnother Q) (n + 1) 24 lv st S c z := h
theorem u_X8_isAnother_25 {Q : Option Value → MM → Prop} {n : Nat} {lv : Lv} {st : List Value} {S : MM} {c z : Nat} (h : bX8_isAnother_25 Q (wpn (kX8_isAnother Q) n) lv st S c z) : wpn (kX8_isAnother Q) (n + 1) 25 lv st S c z := h
theorem z_X8_isAnother {Q : Option Value → MM → Prop} {S0 : MM} {m : Nat} {A : Nat → Nat} {i1 : Nat} {w2 : Int32} (hM : MS S0 m A) (im : IM S0 m A) (h1 : i1 < 16) (K : ∀ j S', SM [] m A S0 S' → IM S' m A → j < 2 → Q (some (.int (nI j))) S') : wX8_isAnother [.ref m, .int (nI i1), .int w2] S0 Q := by
  have sh : SM [] m A S0 S0 := SM.rf
  refine Exists.intro 60 (u_X8_isAnother_0 ?_)
  unfold bX8_isAnother_0
  refine e_ldA rfl ?_
  refine e_gR (SM_k sh hM.1) (SM_r sh (hM.2.1 11 (by decide)).1) ?_
  refine e_ldI rfl ?_
  refine e_aI (N := 16) (SM_k sh (hM.2.1 11 (by decide)).2.1) (SM_n sh (hM.2.1 11 (by decide)).2.2.1) (by omega) (by decide) (fun v1 hv2 => ?_)
  refine e_cI ?_
  refine e_ifc ?_ ?_
  · refine u_X8_isAnother_24 ?_
    unfold bX8_isAnother_24
    refine e_cN 0 rfl ?_
    refine u_X8_isAnother_25 ?_
    unfold bX8_isAnother_25
    exact e_rZ (by omega) (K 0 _ sh im (by omega))
  · refine e_ldA rfl ?_
    refine e_gR (SM_k sh hM.1) (SM_r sh (hM.2.1 11 (by decide)).1) ?_
    refine e_ldI rfl ?_
    refine e_aI (N := 16) (SM_k sh (hM.2.1 11 (by decide)).2.1) (SM_n sh (hM.2.1 11 (by decide)).2.2.1) (by omega) (by decide) (fun v3 hv4 => ?_)
    refine e_ldI rfl ?_
    refine e_ifc ?_ ?_
    · refine u_X8_isAnother_24 ?_
      unfold bX8_isAnother_24
      refine e_cN 0 rfl ?_
      refine u_X8_isAnother_25 ?_
      unfold bX8_isAnother_25
      exact e_rZ (by omega) (K 0 _ sh im (by omega))
    · refine e_cN 1 rfl ?_
      refine u_X8_isAnother_25 ?_
      unfold bX8_isAnother_25
      exact e_rZ (by omega) (K 1 _ sh im (by omega))
theorem u_X8_look_0 {Q : Option Value → MM → Prop} {n : Nat} {lv : Lv} {st : List Value} {S : MM} {c z : Nat} (h : bX8_look_0 Q (wpn (kX8_look Q) n) lv st S c z) : wpn (kX8_look Q) (n + 1) 0 lv st S c z := h
theorem u_X8_look_15 {Q : Option Value → MM → Prop} {n : Nat} {lv : Lv} {st : List Value} {S : MM} {c z : Nat} (h : bX8_look_15 Q (wpn (kX8_look Q) n) lv st S c z) : wpn (kX8_look Q) (n + 1) 15 lv st S c z := h
theorem u_X8_look_19 {Q : Option Value → MM → Prop} {n : Nat} {lv : Lv} {st : List Value} {S : MM} {c z : Nat} (h : bX8_look_19 Q (wpn (kX8_look Q) n) lv st S c z) : wpn (kX8_look Q) (n + 1) 19 lv st S c z := h
theorem u_X8_look_20 {Q : Option Value → MM → Prop} {n : Nat} {lv : Lv} {st : List Value} {S : MM} {c z : Nat} (h : bX8_look_20 Q (wpn (kX8_look Q) n) lv st S c z) : wpn (kX8_look Q) (n + 1) 20 lv st S c z := h
theorem u_X8_look_32 {Q : Option Value → MM → Prop} {n : Nat} {lv : Lv} {st : List Value} {S : MM} {c z : Nat} (h : bX8_look_32 Q (wpn (kX8_look Q) n) lv st S c z) : wpn (kX8_look Q) (n + 1) 32 lv st S c z := h
theorem u_X8_look_120 {Q : Option Value → MM → Prop} {n : Nat} {lv : Lv} {st : List Value} {S : MM} {c z : Nat} (h : bX8_look_120 Q (wpn (kX8_look Q) n) lv st S c z) : wpn (kX8_look Q) (n + 1) 120 lv st S c z := h
theorem u_X8_look_128 {Q : Option Value → MM → Prop} {n : Nat} {lv : Lv} {st : List Value} {S : MM} {c z : Nat} (h : bX8_look_128 Q (wpn (kX8_look Q) n) lv st S c z) : wpn (kX8_look Q) (n + 1) 128 lv st S c z := h
theorem u_X8_look_136 {Q : Option Value → MM → Prop} {n : Nat} {lv : Lv} {st : List Value} {S : MM} {c z : Nat} (h : bX8_look_136 Q (wpn (kX8_look Q) n) lv st S c z) : wpn (kX8_look Q) (n + 1) 136 lv st S c z := h
theorem u_X8_look_143 {Q : Option Value → MM → Prop} {n : Nat} {lv : Lv} {st : List Value} {S : MM} {c z : Nat} (h : bX8_look_143 Q (wpn (kX8_look Q) n) lv st S c z) : wpn (kX8_look Q) (n + 1) 143 lv st S c z := h
theorem u_X8_look_151 {Q : Option Value → MM → Prop} {n : Nat} {lv : Lv} {st : List Value} {S : MM} {c z : Nat} (h : bX8_look_151 Q (wpn (kX8_look Q) n) lv st S c z) : wpn (kX8_look Q) (n + 1) 151 lv st S c z := h
theorem u_X8_look_159 {Q : Option Value → MM → Prop} {n : Nat} {lv : Lv} {st : List Value} {S : MM} {c z : Nat} (h : bX8_look_159 Q (wpn (kX8_look Q) n) lv st S c z) : wpn (kX8_look Q) (n + 1) 159 lv st S c z := h
theorem u_X8_look_167 {Q : Option Value → MM → Prop} {n : Nat} {lv : Lv} {st : List Value} {S : MM} {c z : Nat} (h : bX8_look_167 Q (wpn (kX8_look Q) n) lv st S c z) : wpn (kX8_look Q) (n + 1) 167 lv st S c z := h
theorem u_X8_look_175 {Q : Option Value → MM → Prop} {n : Nat} {lv : Lv} {st : List Value} {S : MM} {c z : Nat} (h : bX8_look_175 Q (wpn (kX8_look Q) n) lv st S c z) : wpn (kX8_look Q) (n + 1) 175 lv st S c z := h
theorem u_X8_look_189 {Q : Option Value → MM → Prop} {n : Nat} {lv : Lv} {st : List Value} {S : MM} {c z : Nat} (h : bX8_look_189 Q (wpn (kX8_look Q) n) lv st S c z) : wpn (kX8_look Q) (n + 1) 189 lv st S c z := h
theorem u_X8_look_190 {Q : Option Value → MM → Prop} {n : Nat} {lv : Lv} {st : List Value} {S : MM} {c z : Nat} (h : bX8_look_190 Q (wpn (kX8_look Q) n) lv st S c z) : wpn (kX8_look Q) (n + 1) 190 lv st S c z := h
theorem u_X8_look_191 {Q : Option Value → MM → Prop} {n : Nat} {lv : Lv} {st : List Value} {S : MM} {c z : Nat} (h : bX8_look_191 Q (wpn (kX8_look Q) n) lv st S c z) : wpn (kX8_look Q) (n + 1) 191 lv st S c z := h
theorem u_X8_look_199 {Q : Option Value → MM → Prop} {n : Nat} {lv : Lv} {st : List Value} {S : MM} {c z : Nat} (h : bX8_look_199 Q (wpn (kX8_look Q) n) lv st S c z) : wpn (kX8_look Q) (n + 1) 199 lv st S c z := h
theorem u_X8_look_214 {Q : Option Value → MM → Prop} {n : Nat} {lv : Lv} {st : List Value} {S : MM} {c z : Nat} (h : bX8_look_214 Q (wpn (kX8_look Q) n) lv st S c z) : wpn (kX8_look Q) (n + 1) 214 lv st S c z := h
theorem u_X8_look_222 {Q : Option Value → MM → Prop} {n : Nat} {lv : Lv} {st : List Value} {S : MM} {c z : Nat} (h : bX8_look_222 Q (wpn (kX8_look Q) n) lv st S c z) : wpn (kX8_look Q) (n + 1) 222 lv st S c z := h
theorem u_X8_look_230 {Q : Option Value → MM → Prop} {n : Nat} {lv : Lv} {st : List Value} {S : MM} {c z : Nat} (h : bX8_look_230 Q (wpn (kX8_look Q) n) lv st S c z) : wpn (kX8_look Q) (n + 1) 230 lv st S c z := h
theorem z_X8_look {Q : Option Value → MM → Prop} {S0 : MM} {m : Nat} {A : Nat → Nat} {w1 : Int32} {w2 : Int32} {w3 : Int32} (hM : MS S0 m A) (im : IM S0 m A)  (K : ∀ r S', SM [0] m A S0 S' → IM S' m A → Q (some (.int r)) S') : wX8_look [.ref m, .int w1, .int w2, .int w3] S0 Q := by
  have sh : SM [0] m A S0 S0 := SM.rf
  refine Exists.intro 60 (u_X8_look_0 ?_)
  unfold bX8_look_0
  refine e_ldA rfl ?_
  refine e_ldI rfl ?_
  refine And.intro ⟨by decide, by decide⟩ (z_X8_isEnd ?_ (fun j1 hj2 e3 => ?_))
  · refine e_ifN (by omega) (fun h4 => ?_) (fun h4 => ?_)
    · refine u_X8_look_15 ?_
      unfold bX8_look_15
      refine e_cN 1 rfl ?_
      refine u_X8_look_20 ?_
      unfold bX8_look_20
      refine y_mI hM sh im (by decide) (fun N e => nomatch (show (none : Option Nat) = some N from e)) (fun S5 he6 sh7 ir8 => ?_)
      refine e_ldA rfl ?_
      refine e_gV (v := nI 1) (SM_k sh7 hM.1) (by rw [he6]; exact rd_s) ?_
      refine e_lez (by omega) (fun h9 => ?_) (fun h9 => ?_)
      · exact absurd h9 (by decide)
      · refine e_cN 0 rfl ?_
        exact e_rI (K _ _ sh7 ir8)
    · exact absurd rfl h4
  · subst e3
    refine e_ifN (by omega) (fun h10 => ?_) (fun h10 => ?_)
    · exact absurd h10 (by decide)
    · refine e_ldI rfl ?_
      refine And.intro ⟨by decide, by decide⟩ (z_X8_isPort ?_ (fun j11 hj12 e13 => ?_))
      · refine e_ifN (by omega) (fun h14 => ?_) (fun h14 => ?_)
        · refine u_X8_look_15 ?_
          unfold bX8_look_15
          refine e_cN 1 rfl ?_
          refine u_X8_look_20 ?_
          unfold bX8_look_20
          refine y_mI hM sh im (by decide) (fun N e => nomatch (show (none : Option Nat) = some N from e)) (fun S15 he16 sh17 ir18 => ?_)
          refine e_ldA rfl ?_
          refine e_gV (v := nI 1) (SM_k sh17 hM.1) (by rw [he16]; exact rd_s) ?_
          refine e_lez (by omega) (fun h19 => ?_) (fun h19 => ?_)
          · exact absurd h19 (by decide)
          · refine e_cN 0 rfl ?_
            exact e_rI (K _ _ sh17 ir18)
        · exact absurd rfl h14
      · subst e13
        refine e_ifN (by omega) (fun h20 => ?_) (fun h20 => ?_)
        · exact absurd h20 (by decide)
        · refine u_X8_look_19 ?_
          unfold bX8_look_19
          refine e_cN 0 rfl ?_
          refine u_X8_look_20 ?_
          unfold bX8_look_20
          refine y_mI hM sh im (by decide) (fun N e => nomatch (show (none : Option Nat) = some N from e)) (fun S21 he22 sh23 ir24 => ?_)
          refine e_ldA rfl ?_
          refine e_gV (v := nI 0) (SM_k sh23 hM.1) (by rw [he22]; exact rd_s) ?_
          refine e_lez (by omega) (fun h25 => ?_) (fun h25 => ?_)
          · refine u_X8_look_32 ?_
            unfold bX8_look_32
            refine e_cN 8 rfl ?_
            refine e_ldI rfl ?_
            refine e_mul ?_
            refine e_ldI rfl ?_
            refine e_add ?_
            refine e_stI ?_
            refine e_ldI (lvg_ne rfl rfl (by decide)) ?_
            refine e_sw0 (by decide) ?_ (fun j26 h27 e28 => ?_)
            · refine u_X8_look_230 ?_
              unfold bX8_look_230
              refine e_cI ?_
              exact e_rI (K _ _ sh23 ir24)
            · match j26, h27, e28 with
              | 0, _, e28 =>
                subst e28
                refine u_X8_look_120 ?_
                unfold bX8_look_120
                refine e_ldA (lvg_ne rfl rfl (by decide)) ?_
                refine e_gR (SM_k sh23 hM.1) (SM_r sh23 (hM.2.1 3 (by decide)).1) ?_
                refine e_ldI lvg_self ?_
                refine e_aI (N := 16) (SM_k sh23 (hM.2.1 3 (by decide)).2.1) (SM_n sh23 (hM.2.1 3 (by decide)).2.2.1) (by omega) (by decide) (fun v29 hv30 => ?_)
                exact e_rI (K _ _ sh23 ir24)
              | 1, _, e28 =>
                subst e28
                refine u_X8_look_128 ?_
                unfold bX8_look_128
                refine e_ldA (lvg_ne rfl rfl (by decide)) ?_
                refine e_gR (SM_k sh23 hM.1) (SM_r sh23 (hM.2.1 4 (by decide)).1) ?_
                refine e_ldI lvg_self ?_
                refine e_aI (N := 16) (SM_k sh23 (hM.2.1 4 (by decide)).2.1) (SM_n sh23 (hM.2.1 4 (by decide)).2.2.1) (by omega) (by decide) (fun v31 hv32 => ?_)
                exact e_rI (K _ _ sh23 ir24)
              | 2, _, e28 =>
                subst e28
                refine u_X8_look_136 ?_
                unfold bX8_look_136
                refine e_ldA (lvg_ne rfl rfl (by decide)) ?_
                refine e_ldI lvg_self ?_
                refine And.intro (SM_k sh23 hM.1) (And.intro ⟨by decide, by decide⟩ (z_X8_bits (MS_SM hM sh23) ir24 (show ((8 * j1) + j11) < 16 by omega) (fun r37 S33 s34 ir35 => ?_)))
                have sh36 := SM.tr sh23 s34 (by decide)
                exact e_rI (K _ _ sh36 ir35)
              | 3, _, e28 =>
                subst e28
                refine u_X8_look_143 ?_
                unfold bX8_look_143
                refine e_ldA (lvg_ne rfl rfl (by decide)) ?_
                refine e_gR (SM_k sh23 hM.1) (SM_r sh23 (hM.2.1 7 (by decide)).1) ?_
                refine e_ldI lvg_self ?_
                refine e_aI (N := 16) (SM_k sh23 (hM.2.1 7 (by decide)).2.1) (SM_n sh23 (hM.2.1 7 (by decide)).2.2.1) (by omega) (by decide) (fun v38 hv39 => ?_)
                exact e_rI (K _ _ sh23 ir24)
              | 4, _, e28 =>
                subst e28
                refine u_X8_look_151 ?_
                unfold bX8_look_151
                refine e_ldA (lvg_ne rfl rfl (by decide)) ?_
                refine e_gR (SM_k sh23 hM.1) (SM_r sh23 (hM.2.1 8 (by decide)).1) ?_
                refine e_ldI lvg_self ?_
                refine e_aI (N := 16) (SM_k sh23 (hM.2.1 8 (by decide)).2.1) (SM_n sh23 (hM.2.1 8 (by decide)).2.2.1) (by omega) (by decide) (fun v40 hv41 => ?_)
                exact e_rI (K _ _ sh23 ir24)
              | 5, _, e28 =>
                subst e28
                refine u_X8_look_159 ?_
                unfold bX8_look_159
                refine e_ldA (lvg_ne rfl rfl (by decide)) ?_
                refine e_gR (SM_k sh23 hM.1) (SM_r sh23 (hM.2.1 9 (by decide)).1) ?_
                refine e_ldI lvg_self ?_
                refine e_aI (N := 16) (SM_k sh23 (hM.2.1 9 (by decide)).2.1) (SM_n sh23 (hM.2.1 9 (by decide)).2.2.1) (by omega) (by decide) (fun v42 hv43 => ?_)
                exact e_rI (K _ _ sh23 ir24)
              | 6, _, e28 =>
                subst e28
                refine u_X8_look_167 ?_
                unfold bX8_look_167
                refine e_ldA (lvg_ne rfl rfl (by decide)) ?_
                refine e_gR (SM_k sh23 hM.1) (SM_r sh23 (hM.2.1 12 (by decide)).1) ?_
                refine e_ldI lvg_self ?_
                refine e_aI (N := 16) (SM_k sh23 (hM.2.1 12 (by decide)).2.1) (SM_n sh23 (hM.2.1 12 (by decide)).2.2.1) (by omega) (by decide) (fun v44 hv45 => ?_)
                exact e_rI (K _ _ sh23 ir24)
              | 7, _, e28 =>
                subst e28
                refine u_X8_look_175 ?_
                unfold bX8_look_175
                refine e_ldA (lvg_ne rfl rfl (by decide)) ?_
                refine e_gR (SM_k sh23 hM.1) (SM_r sh23 (hM.2.1 13 (by decide)).1) ?_
                refine e_ldI lvg_self ?_
                refine e_aI (N := 16) (SM_k sh23 (hM.2.1 13 (by decide)).2.1) (SM_n sh23 (hM.2.1 13 (by decide)).2.2.1) (by omega) (by decide) (fun v46 hv47 => ?_)
                refine e_if0 (fun h48 => ?_) (fun h48 => ?_)
                · refine u_X8_look_189 ?_
                  unfold bX8_look_189
                  refine e_cN 0 rfl ?_
                  refine u_X8_look_190 ?_
                  unfold bX8_look_190
                  exact e_rI (K _ _ sh23 ir24)
                · refine e_cN 1 rfl ?_
                  refine u_X8_look_190 ?_
                  unfold bX8_look_190
                  exact e_rI (K _ _ sh23 ir24)
              | 8, _, e28 =>
                subst e28
                refine u_X8_look_191 ?_
                unfold bX8_look_191
                refine e_ldA (lvg_ne rfl rfl (by decide)) ?_
                refine e_gR (SM_k sh23 hM.1) (SM_r sh23 (hM.2.1 11 (by decide)).1) ?_
                refine e_ldI lvg_self ?_
                refine e_aI (N := 16) (SM_k sh23 (hM.2.1 11 (by decide)).2.1) (SM_n sh23 (hM.2.1 11 (by decide)).2.2.1) (by omega) (by decide) (fun v49 hv50 => ?_)
                exact e_rI (K _ _ sh23 ir24)
              | 9, _, e28 =>
                subst e28
                refine u_X8_look_199 ?_
                unfold bX8_look_199
                refine e_ldA (lvg_ne rfl rfl (by decide)) ?_
                refine e_gR (SM_k sh23 hM.1) (SM_r sh23 (hM.2.1 18 (by decide)).1) ?_
                refine e_cN 5 rfl ?_
                refine e_ldI lvg_self ?_
                refine e_mul ?_
                refine e_ldI (lvg_ne rfl rfl (by decide)) ?_
                refine e_add ?_
                refine e_cN 9 rfl ?_
                refine e_sub (by omega) ?_
                refine e_aI (N := 80) (SM_k sh23 (hM.2.1 18 (by decide)).2.1) (SM_n sh23 (hM.2.1 18 (by decide)).2.2.1) (by omega) (by decide) (fun v51 hv52 => ?_)
                exact e_rI (K _ _ sh23 ir24)
              | 10, _, e28 =>
                subst e28
                refine u_X8_look_199 ?_
                unfold bX8_look_199
                refine e_ldA (lvg_ne rfl rfl (by decide)) ?_
                refine e_gR (SM_k sh23 hM.1) (SM_r sh23 (hM.2.1 18 (by decide)).1) ?_
                refine e_cN 5 rfl ?_
                refine e_ldI lvg_self ?_
                refine e_mul ?_
                refine e_ldI (lvg_ne rfl rfl (by decide)) ?_
                refine e_add ?_
                refine e_cN 9 rfl ?_
                refine e_sub (by omega) ?_
                refine e_aI (N := 80) (SM_k sh23 (hM.2.1 18 (by decide)).2.1) (SM_n sh23 (hM.2.1 18 (by decide)).2.2.1) (by omega) (by decide) (fun v53 hv54 => ?_)
                exact e_rI (K _ _ sh23 ir24)
              | 11, _, e28 =>
                subst e28
                refine u_X8_look_199 ?_
                unfold bX8_look_199
                refine e_ldA (lvg_ne rfl rfl (by decide)) ?_
                refine e_gR (SM_k sh23 hM.1) (SM_r sh23 (hM.2.1 18 (by decide)).1) ?_
                refine e_cN 5 rfl ?_
                refine e_ldI lvg_self ?_
                refine e_mul ?_
                refine e_ldI (lvg_ne rfl rfl (by decide)) ?_
                refine e_add ?_
                refine e_cN 9 rfl ?_
                refine e_sub (by omega) ?_
                refine e_aI (N := 80) (SM_k sh23 (hM.2.1 18 (by decide)).2.1) (SM_n sh23 (hM.2.1 18 (by decide)).2.2.1) (by omega) (by decide) (fun v55 hv56 => ?_)
                exact e_rI (K _ _ sh23 ir24)
              | 12, _, e28 =>
                subst e28
                refine u_X8_look_199 ?_
                unfold bX8_look_199
                refine e_ldA (lvg_ne rfl rfl (by decide)) ?_
                refine e_gR (SM_k sh23 hM.1) (SM_r sh23 (hM.2.1 18 (by decide)).1) ?_
                refine e_cN 5 rfl ?_
                refine e_ldI lvg_self ?_
                refine e_mul ?_
                refine e_ldI (lvg_ne rfl rfl (by decide)) ?_
                refine e_add ?_
                refine e_cN 9 rfl ?_
                refine e_sub (by omega) ?_
                refine e_aI (N := 80) (SM_k sh23 (hM.2.1 18 (by decide)).2.1) (SM_n sh23 (hM.2.1 18 (by decide)).2.2.1) (by omega) (by decide) (fun v57 hv58 => ?_)
                exact e_rI (K _ _ sh23 ir24)
              | 13, _, e28 =>
                subst e28
                refine u_X8_look_199 ?_
                unfold bX8_look_199
                refine e_ldA (lvg_ne rfl rfl (by decide)) ?_
                refine e_gR (SM_k sh23 hM.1) (SM_r sh23 (hM.2.1 18 (by decide)).1) ?_
                refine e_cN 5 rfl ?_
                refine e_ldI lvg_self ?_
                refine e_mul ?_
                refine e_ldI (lvg_ne rfl rfl (by decide)) ?_
                refine e_add ?_
                refine e_cN 9 rfl ?_
                refine e_sub (by omega) ?_
                refine e_aI (N := 80) (SM_k sh23 (hM.2.1 18 (by decide)).2.1) (SM_n sh23 (hM.2.1 18 (by decide)).2.2.1) (by omega) (by decide) (fun v59 hv60 => ?_)
                exact e_rI (K _ _ sh23 ir24)
              | 14, _, e28 =>
                subst e28
                refine u_X8_look_214 ?_
                unfold bX8_look_214
                refine e_ldA (lvg_ne rfl rfl (by decide)) ?_
                refine e_gR (SM_k sh23 hM.1) (SM_r sh23 (hM.2.1 16 (by decide)).1) ?_
                refine e_ldI lvg_self ?_
                refine e_aI (N := 16) (SM_k sh23 (hM.2.1 16 (by decide)).2.1) (SM_n sh23 (hM.2.1 16 (by decide)).2.2.1) (by omega) (by decide) (fun v61 hv62 => ?_)
                exact e_rI (K _ _ sh23 ir24)
              | 15, _, e28 =>
                subst e28
                refine u_X8_look_222 ?_
                unfold bX8_look_222
                refine e_ldA (lvg_ne rfl rfl (by decide)) ?_
                refine e_gR (SM_k sh23 hM.1) (SM_r sh23 (hM.2.1 17 (by decide)).1) ?_
                refine e_ldI lvg_self ?_
                refine e_aI (N := 16) (SM_k sh23 (hM.2.1 17 (by decide)).2.1) (SM_n sh23 (hM.2.1 17 (by decide)).2.2.1) (by omega) (by decide) (fun v63 hv64 => ?_)
                exact e_rI (K _ _ sh23 ir24)
              | nn + 16, hh, _ => exact absurd hh (by omega)
          · exact absurd rfl h25
theorem u_X8_cable_0 {Q : Option Value → MM → Prop} {n : Nat} {lv : Lv} {st : List Value} {S : MM} {c z : Nat} (h : bX8_cable_0 Q (wpn (kX8_cable Q) n) lv st S c z) : wpn (kX8_cable Q) (n + 1) 0 lv st S c z := h
theorem u_X8_cable_12 {Q : Option Value → MM → Prop} {n : Nat} {lv : Lv} {st : List Value} {S : MM} {c z : Nat} (h : bX8_cable_12 Q (wpn (kX8_cable Q) n) lv st S c z) : wpn (kX8_cable Q) (n + 1) 12 lv st S c z := h
theorem u_X8_cable_13 {Q : Option Value → MM → Prop} {n : Nat} {lv : Lv} {st : List Value} {S : MM} {c z : Nat} (h : bX8_cable_13 Q (wpn (kX8_cable Q) n) lv st S c z) : wpn (kX8_cable Q) (n + 1) 13 lv st S c z := h
theorem u_X8_cable_25 {Q : Option Value → MM → Prop} {n : Nat} {lv : Lv} {st : List Value} {S : MM} {c z : Nat} (h : bX8_cable_25 Q (wpn (kX8_cable Q) n) lv st S c z) : wpn (kX8_cable Q) (n + 1) 25 lv st S c z := h
theorem u_X8_cable_76 {Q : Option Value → MM → Prop} {n : Nat} {lv : Lv} {st : List Value} {S : MM} {c z : Nat} (h : bX8_cable_76 Q (wpn (kX8_cable Q) n) lv st S c z) : wpn (kX8_cable Q) (n + 1) 76 lv st S c z := h
theorem u_X8_cable_98 {Q : Option Value → MM → Prop} {n : Nat} {lv : Lv} {st : List Value} {S : MM} {c z : Nat} (h : bX8_cable_98 Q (wpn (kX8_cable Q) n) lv st S c z) : wpn (kX8_cable Q) (n + 1) 98 lv st S c z := h
theorem u_X8_cable_99 {Q : Option Value → MM → Prop} {n : Nat} {lv : Lv} {st : List Value} {S : MM} {c z : Nat} (h : bX8_cable_99 Q (wpn (kX8_cable Q) n) lv st S c z) : wpn (kX8_cable Q) (n + 1) 99 lv st S c z := h
theorem u_X8_cable_100 {Q : Option Value → MM → Prop} {n : Nat} {lv : Lv} {st : List Value} {S : MM} {c z : Nat} (h : bX8_cable_100 Q (wpn (kX8_cable Q) n) lv st S c z) : wpn (kX8_cable Q) (n + 1) 100 lv st S c z := h
theorem u_X8_cable_118 {Q : Option Value → MM → Prop} {n : Nat} {lv : Lv} {st : List Value} {S : MM} {c z : Nat} (h : bX8_cable_118 Q (wpn (kX8_cable Q) n) lv st S c z) : wpn (kX8_cable Q) (n + 1) 118 lv st S c z := h
theorem u_X8_cable_119 {Q : Option Value → MM → Prop} {n : Nat} {lv : Lv} {st : List Value} {S : MM} {c z : Nat} (h : bX8_cable_119 Q (wpn (kX8_cable Q) n) lv st S c z) : wpn (kX8_cable Q) (n + 1) 119 lv st S c z := h
theorem u_X8_cable_120 {Q : Option Value → MM → Prop} {n : Nat} {lv : Lv} {st : List Value} {S : MM} {c z : Nat} (h : bX8_cable_120 Q (wpn (kX8_cable Q) n) lv st S c z) : wpn (kX8_cable Q) (n + 1) 120 lv st S c z := h
theorem u_X8_cable_142 {Q : Option Value → MM → Prop} {n : Nat} {lv : Lv} {st : List Value} {S : MM} {c z : Nat} (h : bX8_cable_142 Q (wpn (kX8_cable Q) n) lv st S c z) : wpn (kX8_cable Q) (n + 1) 142 lv st S c z := h
theorem u_X8_cable_143 {Q : Option Value → MM → Prop} {n : Nat} {lv : Lv} {st : List Value} {S : MM} {c z : Nat} (h : bX8_cable_143 Q (wpn (kX8_cable Q) n) lv st S c z) : wpn (kX8_cable Q) (n + 1) 143 lv st S c z := h
theorem u_X8_cable_144 {Q : Option Value → MM → Prop} {n : Nat} {lv : Lv} {st : List Value} {S : MM} {c z : Nat} (h : bX8_cable_144 Q (wpn (kX8_cable Q) n) lv st S c z) : wpn (kX8_cable Q) (n + 1) 144 lv st S c z := h
theorem u_X8_cable_156 {Q : Option Value → MM → Prop} {n : Nat} {lv : Lv} {st : List Value} {S : MM} {c z : Nat} (h : bX8_cable_156 Q (wpn (kX8_cable Q) n) lv st S c z) : wpn (kX8_cable Q) (n + 1) 156 lv st S c z := h
theorem u_X8_cable_157 {Q : Option Value → MM → Prop} {n : Nat} {lv : Lv} {st : List Value} {S : MM} {c z : Nat} (h : bX8_cable_157 Q (wpn (kX8_cable Q) n) lv st S c z) : wpn (kX8_cable Q) (n + 1) 157 lv st S c z := h
theorem u_X8_cable_158 {Q : Option Value → MM → Prop} {n : Nat} {lv : Lv} {st : List Value} {S : MM} {c z : Nat} (h : bX8_cable_158 Q (wpn (kX8_cable Q) n) lv st S c z) : wpn (kX8_cable Q) (n + 1) 158 lv st S c z := h
theorem u_X8_cable_168 {Q : Option Value → MM → Prop} {n : Nat} {lv : Lv} {st : List Value} {S : MM} {c z : Nat} (h : bX8_cable_168 Q (wpn (kX8_cable Q) n) lv st S c z) : wpn (kX8_cable Q) (n + 1) 168 lv st S c z := h
theorem u_X8_cable_179 {Q : Option Value → MM → Prop} {n : Nat} {lv : Lv} {st : List Value} {S : MM} {c z : Nat} (h : bX8_cable_179 Q (wpn (kX8_cable Q) n) lv st S c z) : wpn (kX8_cable Q) (n + 1) 179 lv st S c z := h
theorem z_X8_cable {Q : Option Value → MM → Prop} {S0 : MM} {m : Nat} {A : Nat → Nat} {w1 : Int32} {w2 : Int32} (hM : MS S0 m A) (im : IM S0 m A)  (K : ∀ r S', SM [0] m A S0 S' → IM S' m A → Q (some (.int r)) S') : wX8_cable [.ref m, .int w1, .int w2] S0 Q := by
  have sh : SM [0] m A S0 S0 := SM.rf
  refine Exists.intro 60 (u_X8_cable_0 ?_)
  unfold bX8_cable_0
  refine e_ldA rfl ?_
  refine e_ldI rfl ?_
  refine And.intro ⟨by decide, by decide⟩ (z_X8_isCable ?_ (fun j1 hj2 e3 => ?_))
  · refine e_ifN (by omega) (fun h4 => ?_) (fun h4 => ?_)
    · refine u_X8_cable_12 ?_
      unfold bX8_cable_12
      refine e_cN 1 rfl ?_
      refine u_X8_cable_13 ?_
      unfold bX8_cable_13
      refine y_mI hM sh im (by decide) (fun N e => nomatch (show (none : Option Nat) = some N from e)) (fun S5 he6 sh7 ir8 => ?_)
      refine e_ldA rfl ?_
      refine e_gV (v := nI 1) (SM_k sh7 hM.1) (by rw [he6]; exact rd_s) ?_
      refine e_lez (by omega) (fun h9 => ?_) (fun h9 => ?_)
      · exact absurd h9 (by decide)
      · refine e_cN 0 rfl ?_
        exact e_rI (K _ _ sh7 ir8)
    · exact absurd rfl h4
  · subst e3
    refine e_ifN (by omega) (fun h10 => ?_) (fun h10 => ?_)
    · exact absurd h10 (by decide)
    · refine e_cN 0 rfl ?_
      refine u_X8_cable_13 ?_
      unfold bX8_cable_13
      refine y_mI hM sh im (by decide) (fun N e => nomatch (show (none : Option Nat) = some N from e)) (fun S11 he12 sh13 ir14 => ?_)
      refine e_ldA rfl ?_
      refine e_gV (v := nI 0) (SM_k sh13 hM.1) (by rw [he12]; exact rd_s) ?_
      refine e_lez (by omega) (fun h15 => ?_) (fun h15 => ?_)
      · refine u_X8_cable_25 ?_
        unfold bX8_cable_25
        refine e_ldI rfl ?_
        refine e_sw0 (by decide) ?_ (fun j16 h17 e18 => ?_)
        · refine u_X8_cable_179 ?_
          unfold bX8_cable_179
          refine e_cI ?_
          exact e_rI (K _ _ sh13 ir14)
        · match j16, h17, e18 with
          | 0, _, e18 =>
            subst e18
            refine u_X8_cable_76 ?_
            unfold bX8_cable_76
            refine e_ldA rfl ?_
            refine e_gR (SM_k sh13 hM.1) (SM_r sh13 (hM.2.1 24 (by decide)).1) ?_
            refine e_ldI rfl ?_
            refine e_aI (N := 8) (SM_k sh13 (hM.2.1 24 (by decide)).2.1) (SM_n sh13 (hM.2.1 24 (by decide)).2.2.1) (by omega) (by decide) (fun v19 hv20 => ?_)
            refine e_if0 (fun h21 => ?_) (fun h21 => ?_)
            · refine u_X8_cable_98 ?_
              unfold bX8_cable_98
              refine e_cI ?_
              refine u_X8_cable_99 ?_
              unfold bX8_cable_99
              exact e_rI (K _ _ sh13 ir14)
            · refine e_ldA rfl ?_
              refine e_gR (SM_k sh13 hM.1) (SM_r sh13 (hM.2.1 22 (by decide)).1) ?_
              refine e_cN 2 rfl ?_
              refine e_ldI rfl ?_
              refine e_mul ?_
              refine e_ldI rfl ?_
              refine e_add ?_
              obtain ⟨n22, hn23, vn24⟩ := ir14.1 22 8 rfl ((2 * j1) + 0)
              refine e_aV (N := 16) (v := nI n22) (SM_k sh13 (hM.2.1 22 (by decide)).2.1) (SM_n sh13 (hM.2.1 22 (by decide)).2.2.1) (by omega) (by decide) vn24 ?_
              refine u_X8_cable_99 ?_
              unfold bX8_cable_99
              exact e_rI (K _ _ sh13 ir14)
          | 1, _, e18 =>
            subst e18
            refine u_X8_cable_76 ?_
            unfold bX8_cable_76
            refine e_ldA rfl ?_
            refine e_gR (SM_k sh13 hM.1) (SM_r sh13 (hM.2.1 24 (by decide)).1) ?_
            refine e_ldI rfl ?_
            refine e_aI (N := 8) (SM_k sh13 (hM.2.1 24 (by decide)).2.1) (SM_n sh13 (hM.2.1 24 (by decide)).2.2.1) (by omega) (by decide) (fun v25 hv26 => ?_)
            refine e_if0 (fun h27 => ?_) (fun h27 => ?_)
            · refine u_X8_cable_98 ?_
              unfold bX8_cable_98
              refine e_cI ?_
              refine u_X8_cable_99 ?_
              unfold bX8_cable_99
              exact e_rI (K _ _ sh13 ir14)
            · refine e_ldA rfl ?_
              refine e_gR (SM_k sh13 hM.1) (SM_r sh13 (hM.2.1 22 (by decide)).1) ?_
              refine e_cN 2 rfl ?_
              refine e_ldI rfl ?_
              refine e_mul ?_
              refine e_ldI rfl ?_
              refine e_add ?_
              obtain ⟨n28, hn29, vn30⟩ := ir14.1 22 8 rfl ((2 * j1) + 1)
              refine e_aV (N := 16) (v := nI n28) (SM_k sh13 (hM.2.1 22 (by decide)).2.1) (SM_n sh13 (hM.2.1 22 (by decide)).2.2.1) (by omega) (by decide) vn30 ?_
              refine u_X8_cable_99 ?_
              unfold bX8_cable_99
              exact e_rI (K _ _ sh13 ir14)
          | 2, _, e18 =>
            subst e18
            refine u_X8_cable_100 ?_
            unfold bX8_cable_100
            refine e_ldA rfl ?_
            refine e_gR (SM_k sh13 hM.1) (SM_r sh13 (hM.2.1 24 (by decide)).1) ?_
            refine e_ldI rfl ?_
            refine e_aI (N := 8) (SM_k sh13 (hM.2.1 24 (by decide)).2.1) (SM_n sh13 (hM.2.1 24 (by decide)).2.2.1) (by omega) (by decide) (fun v31 hv32 => ?_)
            refine e_if0 (fun h33 => ?_) (fun h33 => ?_)
            · refine u_X8_cable_118 ?_
              unfold bX8_cable_118
              refine e_cI ?_
              refine u_X8_cable_119 ?_
              unfold bX8_cable_119
              exact e_rI (K _ _ sh13 ir14)
            · refine e_ldA rfl ?_
              refine e_gR (SM_k sh13 hM.1) (SM_r sh13 (hM.2.1 23 (by decide)).1) ?_
              refine e_ldI rfl ?_
              refine e_aI (N := 8) (SM_k sh13 (hM.2.1 23 (by decide)).2.1) (SM_n sh13 (hM.2.1 23 (by decide)).2.2.1) (by omega) (by decide) (fun v34 hv35 => ?_)
              refine u_X8_cable_119 ?_
              unfold bX8_cable_119
              exact e_rI (K _ _ sh13 ir14)
          | 3, _, e18 =>
            subst e18
            refine u_X8_cable_120 ?_
            unfold bX8_cable_120
            refine e_ldA rfl ?_
            refine e_gR (SM_k sh13 hM.1) (SM_r sh13 (hM.2.1 24 (by decide)).1) ?_
            refine e_ldI rfl ?_
            refine e_aI (N := 8) (SM_k sh13 (hM.2.1 24 (by decide)).2.1) (SM_n sh13 (hM.2.1 24 (by decide)).2.2.1) (by omega) (by decide) (fun v36 hv37 => ?_)
            refine e_if0 (fun h38 => ?_) (fun h38 => ?_)
            · refine u_X8_cable_142 ?_
              unfold bX8_cable_142
              refine e_cN 0 rfl ?_
              refine u_X8_cable_143 ?_
              unfold bX8_cable_143
              exact e_rI (K _ _ sh13 ir14)
            · refine e_ldA rfl ?_
              refine e_gR (SM_k sh13 hM.1) (SM_r sh13 (hM.2.1 25 (by decide)).1) ?_
              refine e_ldI rfl ?_
              refine e_aI (N := 8) (SM_k sh13 (hM.2.1 25 (by decide)).2.1) (SM_n sh13 (hM.2.1 25 (by decide)).2.2.1) (by omega) (by decide) (fun v39 hv40 => ?_)
              refine e_if0 (fun h41 => ?_) (fun h41 => ?_)
              · refine u_X8_cable_142 ?_
                unfold bX8_cable_142
                refine e_cN 0 rfl ?_
                refine u_X8_cable_143 ?_
                unfold bX8_cable_143
                exact e_rI (K _ _ sh13 ir14)
              · refine e_cN 1 rfl ?_
                refine u_X8_cable_143 ?_
                unfold bX8_cable_143
                exact e_rI (K _ _ sh13 ir14)
          | 4, _, e18 =>
            subst e18
            refine u_X8_cable_144 ?_
            unfold bX8_cable_144
            refine e_ldA rfl ?_
            refine e_ldI rfl ?_
            refine And.intro (SM_k sh13 hM.1) (And.intro ⟨by decide, by decide⟩ (z_X8_isMeant (MS_SM hM sh13) ir14 (show j1 < 8 by omega) (fun n46 S42 s43 ir44 hn47 => ?_)))
            have sh45 := SM.tr sh13 s43 (by decide)
            refine e_ifN (by omega) (fun h48 => ?_) (fun h48 => ?_)
            · refine u_X8_cable_156 ?_
              unfold bX8_cable_156
              refine e_cN 0 rfl ?_
              refine u_X8_cable_157 ?_
              unfold bX8_cable_157
              exact e_rI (K _ _ sh45 ir44)
            · refine e_cN 1 rfl ?_
              refine u_X8_cable_157 ?_
              unfold bX8_cable_157
              exact e_rI (K _ _ sh45 ir44)
          | 5, _, e18 =>
            subst e18
            refine u_X8_cable_158 ?_
            unfold bX8_cable_158
            refine e_ldA rfl ?_
            refine e_ldI rfl ?_
            refine e_ldI rfl ?_
            refine e_cN 5 rfl ?_
            refine e_sub (by omega) ?_
            refine e_cN 0 rfl ?_
            refine And.intro (SM_k sh13 hM.1) (And.intro ⟨by decide, by decide⟩ (z_X8_on (MS_SM hM sh13) ir14 (show 0 < 2 by omega) (fun r53 S49 s50 ir51 => ?_)))
            have sh52 := SM.tr sh13 s50 (by decide)
            exact e_rI (K _ _ sh52 ir51)
          | 6, _, e18 =>
            subst e18
            refine u_X8_cable_158 ?_
            unfold bX8_cable_158
            refine e_ldA rfl ?_
            refine e_ldI rfl ?_
            refine e_ldI rfl ?_
            refine e_cN 5 rfl ?_
            refine e_sub (by omega) ?_
            refine e_cN 0 rfl ?_
            refine And.intro (SM_k sh13 hM.1) (And.intro ⟨by decide, by decide⟩ (z_X8_on (MS_SM hM sh13) ir14 (show 0 < 2 by omega) (fun r58 S54 s55 ir56 => ?_)))
            have sh57 := SM.tr sh13 s55 (by decide)
            exact e_rI (K _ _ sh57 ir56)
          | 7, _, e18 =>
            subst e18
            refine u_X8_cable_168 ?_
            unfold bX8_cable_168
            refine e_ldA rfl ?_
            refine e_ldI rfl ?_
            refine e_ldI rfl ?_
            refine e_cN 7 rfl ?_
            refine e_sub (by omega) ?_
            refine e_cN 1 rfl ?_
            refine And.intro (SM_k sh13 hM.1) (And.intro ⟨by decide, by decide⟩ (z_X8_on (MS_SM hM sh13) ir14 (show 1 < 2 by omega) (fun r63 S59 s60 ir61 => ?_)))
            have sh62 := SM.tr sh13 s60 (by decide)
            exact e_rI (K _ _ sh62 ir61)
          | 8, _, e18 =>
            subst e18
            refine u_X8_cable_168 ?_
            unfold bX8_cable_168
            refine e_ldA rfl ?_
            refine e_ldI rfl ?_
            refine e_ldI rfl ?_
            refine e_cN 7 rfl ?_
            refine e_sub (by omega) ?_
            refine e_cN 1 rfl ?_
            refine And.intro (SM_k sh13 hM.1) (And.intro ⟨by decide, by decide⟩ (z_X8_on (MS_SM hM sh13) ir14 (show 1 < 2 by omega) (fun r68 S64 s65 ir66 => ?_)))
            have sh67 := SM.tr sh13 s65 (by decide)
            exact e_rI (K _ _ sh67 ir66)
          | nn + 9, hh, _ => exact absurd hh (by omega)
      · exact absurd rfl h15
theorem u_X8_note_0 {Q : Option Value → MM → Prop} {n : Nat} {lv : Lv} {st : List Value} {S : MM} {c z : Nat} (h : bX8_note_0 Q (wpn (kX8_note Q) n) lv st S c z) : wpn (kX8_note Q) (n + 1) 0 lv st S c z := h
theorem u_X8_note_29 {Q : Option Value → MM → Prop} {n : Nat} {lv : Lv} {st : List Value} {S : MM} {c z : Nat} (h : bX8_note_29 Q (wpn (kX8_note Q) n) lv st S c z) : wpn (kX8_note Q) (n + 1) 29 lv st S c z := h
theorem u_X8_note_31 {Q : Option Value → MM → Prop} {n : Nat} {lv : Lv} {st : List Value} {S : MM} {c z : Nat} (h : bX8_note_31 Q (wpn (kX8_note Q) n) lv st S c z) : wpn (kX8_note Q) (n + 1) 31 lv st S c z := h
theorem u_X8_note_55 {Q : Option Value → MM → Prop} {n : Nat} {lv : Lv} {st : List Value} {S : MM} {c z : Nat} (h : bX8_note_55 Q (wpn (kX8_note Q) n) lv st S c z) : wpn (kX8_note Q) (n + 1) 55 lv st S c z := h
theorem u_X8_note_71 {Q : Option Value → MM → Prop} {n : Nat} {lv : Lv} {st : List Value} {S : MM} {c z : Nat} (h : bX8_note_71 Q (wpn (kX8_note Q) n) lv st S c z) : wpn (kX8_note Q) (n + 1) 71 lv st S c z := h
theorem u_X8_note_72 {Q : Option Value → MM → Prop} {n : Nat} {lv : Lv} {st : List Value} {S : MM} {c z : Nat} (h : bX8_note_72 Q (wpn (kX8_note Q) n) lv st S c z) : wpn (kX8_note Q) (n + 1) 72 lv st S c z := h
theorem u_X8_note_91 {Q : Option Value → MM → Prop} {n : Nat} {lv : Lv} {st : List Value} {S : MM} {c z : Nat} (h : bX8_note_91 Q (wpn (kX8_note Q) n) lv st S c z) : wpn (kX8_note Q) (n + 1) 91 lv st S c z := h
theorem u_X8_note_103 {Q : Option Value → MM → Prop} {n : Nat} {lv : Lv} {st : List Value} {S : MM} {c z : Nat} (h : bX8_note_103 Q (wpn (kX8_note Q) n) lv st S c z) : wpn (kX8_note Q) (n + 1) 103 lv st S c z := h
theorem u_X8_note_118 {Q : Option Value → MM → Prop} {n : Nat} {lv : Lv} {st : List Value} {S : MM} {c z : Nat} (h : bX8_note_118 Q (wpn (kX8_note Q) n) lv st S c z) : wpn (kX8_note Q) (n + 1) 118 lv st S c z := h
theorem u_X8_note_134 {Q : Option Value → MM → Prop} {n : Nat} {lv : Lv} {st : List Value} {S : MM} {c z : Nat} (h : bX8_note_134 Q (wpn (kX8_note Q) n) lv st S c z) : wpn (kX8_note Q) (n + 1) 134 lv st S c z := h
theorem u_X8_note_135 {Q : Option Value → MM → Prop} {n : Nat} {lv : Lv} {st : List Value} {S : MM} {c z : Nat} (h : bX8_note_135 Q (wpn (kX8_note Q) n) lv st S c z) : wpn (kX8_note Q) (n + 1) 135 lv st S c z := h
theorem z_X8_note {Q : Option Value → MM → Prop} {S0 : MM} {m : Nat} {A : Nat → Nat} {w1 : Int32} {w2 : Int32} {w3 : Int32} (hM : MS S0 m A) (im : IM S0 m A)  (K : ∀ r S', SM [0] m A S0 S' → IM S' m A → Q (some (.int r)) S') : wX8_note [.ref m, .int w1, .int w2, .int w3] S0 Q := by
  have sh : SM [0] m A S0 S0 := SM.rf
  refine Exists.intro 60 (u_X8_note_0 ?_)
  unfold bX8_note_0
  refine e_ldA rfl ?_
  refine e_cN 0 rfl ?_
  refine y_mI hM sh im (by decide) (fun N e => nomatch (show (none : Option Nat) = some N from e)) (fun S1 he2 sh3 ir4 => ?_)
  refine e_ldI rfl ?_
  refine And.intro ⟨by decide, by decide⟩ (z_X8_isEnd ?_ (fun j5 hj6 e7 => ?_))
  · refine e_ifN (by omega) (fun h8 => ?_) (fun h8 => ?_)
    · refine u_X8_note_29 ?_
      unfold bX8_note_29
      refine e_cI ?_
      exact e_rI (K _ _ sh3 ir4)
    · exact absurd rfl h8
  · subst e7
    refine e_ifN (by omega) (fun h9 => ?_) (fun h9 => ?_)
    · exact absurd h9 (by decide)
    · refine e_ldI rfl ?_
      refine And.intro ⟨by decide, by decide⟩ (z_X8_isPort ?_ (fun j10 hj11 e12 => ?_))
      · refine e_ifN (by omega) (fun h13 => ?_) (fun h13 => ?_)
        · refine u_X8_note_29 ?_
          unfold bX8_note_29
          refine e_cI ?_
          exact e_rI (K _ _ sh3 ir4)
        · exact absurd rfl h13
      · subst e12
        refine e_ifN (by omega) (fun h14 => ?_) (fun h14 => ?_)
        · exact absurd h14 (by decide)
        · refine e_ldI rfl ?_
          refine e_ltz ?_ (fun j15 hj16 e17 => ?_)
          · refine u_X8_note_29 ?_
            unfold bX8_note_29
            refine e_cI ?_
            exact e_rI (K _ _ sh3 ir4)
          · subst e17
            refine e_ldI rfl ?_
            refine e_cN 21 rfl ?_
            refine e_le (by omega) (by omega) (fun h18 => ?_) (fun h18 => ?_)
            · refine u_X8_note_31 ?_
              unfold bX8_note_31
              refine e_cN 8 rfl ?_
              refine e_ldI rfl ?_
              refine e_mul ?_
              refine e_ldI rfl ?_
              refine e_add ?_
              refine e_stI ?_
              refine e_ldI (lvg_ne rfl rfl (by decide)) ?_
              refine e_cN 11 rfl ?_
              refine e_rem (by omega) (by decide) (by decide) ?_
              refine e_stI ?_
              refine e_ldI lvg_self ?_
              refine e_cN 4 rfl ?_
              refine e_ge (by omega) (by omega) (fun h19 => ?_) (fun h19 => ?_)
              · refine u_X8_note_55 ?_
                unfold bX8_note_55
                refine e_ldI lvg_self ?_
                refine e_cN 10 rfl ?_
                refine e_ge (by omega) (by omega) (fun h20 => ?_) (fun h20 => ?_)
                · refine u_X8_note_71 ?_
                  unfold bX8_note_71
                  refine e_cN 4 rfl ?_
                  refine u_X8_note_72 ?_
                  unfold bX8_note_72
                  refine e_stI ?_
                  refine e_ldI (lvg_ne (lvg_ne (lvg_ne rfl rfl (by decide)) rfl (by decide)) rfl (by decide)) ?_
                  refine e_cN 11 rfl ?_
                  refine e_ge (by omega) (by omega) (fun h21 => ?_) (fun h21 => ?_)
                  · refine u_X8_note_91 ?_
                    unfold bX8_note_91
                    refine e_ldA (lvg_ne (lvg_ne (lvg_ne rfl rfl (by decide)) rfl (by decide)) rfl (by decide)) ?_
                    refine e_gR (SM_k sh3 hM.1) (SM_r sh3 (hM.2.1 18 (by decide)).1) ?_
                    refine e_cN 5 rfl ?_
                    refine e_ldI (lvg_ne (lvg_ne lvg_self rfl (by decide)) rfl (by decide)) ?_
                    refine e_mul ?_
                    refine e_ldI lvg_self ?_
                    refine e_add ?_
                    refine e_aI (N := 80) (SM_k sh3 (hM.2.1 18 (by decide)).2.1) (SM_n sh3 (hM.2.1 18 (by decide)).2.2.1) (by omega) (by decide) (fun v22 hv23 => ?_)
                    refine u_X8_note_103 ?_
                    unfold bX8_note_103
                    refine e_stI ?_
                    refine e_ldI (lvg_ne (lvg_ne lvg_self rfl (by decide)) rfl (by decide)) ?_
                    refine e_cN 4 rfl ?_
                    refine e_ge (by omega) (by omega) (fun h24 => ?_) (fun h24 => ?_)
                    · refine u_X8_note_118 ?_
                      unfold bX8_note_118
                      refine e_ldI (lvg_ne (lvg_ne lvg_self rfl (by decide)) rfl (by decide)) ?_
                      refine e_cN 10 rfl ?_
                      refine e_ge (by omega) (by omega) (fun h25 => ?_) (fun h25 => ?_)
                      · refine u_X8_note_134 ?_
                        unfold bX8_note_134
                        refine e_cN 0 rfl ?_
                        refine u_X8_note_135 ?_
                        unfold bX8_note_135
                        refine e_stI ?_
                        refine e_ldI (lvg_ne lvg_self rfl (by decide)) ?_
                        refine e_cN 8 rfl ?_
                        refine e_ldI lvg_self ?_
                        refine e_mul ?_
                        refine e_bopU (fun r26 => ?_)
                        refine e_cN 255 rfl ?_
                        refine e_bopU (fun r27 => ?_)
                        exact e_rI (K _ _ sh3 ir4)
                      · refine e_cN 1 rfl ?_
                        refine e_ldI (lvg_ne (lvg_ne lvg_self rfl (by decide)) rfl (by decide)) ?_
                        refine e_cN 2 rfl ?_
                        refine e_rem (by omega) (by decide) (by decide) ?_
                        refine e_sub (by omega) ?_
                        refine u_X8_note_135 ?_
                        unfold bX8_note_135
                        refine e_stI ?_
                        refine e_ldI (lvg_ne lvg_self rfl (by decide)) ?_
                        refine e_cN 8 rfl ?_
                        refine e_ldI lvg_self ?_
                        refine e_mul ?_
                        refine e_bopU (fun r28 => ?_)
                        refine e_cN 255 rfl ?_
                        refine e_bopU (fun r29 => ?_)
                        exact e_rI (K _ _ sh3 ir4)
                    · refine e_cN 3 rfl ?_
                      refine e_ldI (lvg_ne (lvg_ne lvg_self rfl (by decide)) rfl (by decide)) ?_
                      refine e_sub (by omega) ?_
                      refine u_X8_note_135 ?_
                      unfold bX8_note_135
                      refine e_stI ?_
                      refine e_ldI (lvg_ne lvg_self rfl (by decide)) ?_
                      refine e_cN 8 rfl ?_
                      refine e_ldI lvg_self ?_
                      refine e_mul ?_
                      refine e_bopU (fun r30 => ?_)
                      refine e_cN 255 rfl ?_
                      refine e_bopU (fun r31 => ?_)
                      exact e_rI (K _ _ sh3 ir4)
                  · refine e_ldA (lvg_ne (lvg_ne (lvg_ne rfl rfl (by decide)) rfl (by decide)) rfl (by decide)) ?_
                    refine e_ldI (lvg_ne (lvg_ne lvg_self rfl (by decide)) rfl (by decide)) ?_
                    refine e_ldI lvg_self ?_
                    refine And.intro (SM_k sh3 hM.1) (And.intro ⟨by decide, by decide⟩ (z_X8_own (MS_SM hM sh3) ir4 (show ((8 * j5) + j10) < 16 by omega) (fun r36 S32 s33 ir34 => ?_)))
                    have sh35 := SM.tr sh3 s33 (by decide)
                    refine u_X8_note_103 ?_
                    unfold bX8_note_103
                    refine e_stI ?_
                    refine e_ldI (lvg_ne (lvg_ne lvg_self rfl (by decide)) rfl (by decide)) ?_
                    refine e_cN 4 rfl ?_
                    refine e_ge (by omega) (by omega) (fun h37 => ?_) (fun h37 => ?_)
                    · refine u_X8_note_118 ?_
                      unfold bX8_note_118
                      refine e_ldI (lvg_ne (lvg_ne lvg_self rfl (by decide)) rfl (by decide)) ?_
                      refine e_cN 10 rfl ?_
                      refine e_ge (by omega) (by omega) (fun h38 => ?_) (fun h38 => ?_)
                      · refine u_X8_note_134 ?_
                        unfold bX8_note_134
                        refine e_cN 0 rfl ?_
                        refine u_X8_note_135 ?_
                        unfold bX8_note_135
                        refine e_stI ?_
                        refine e_ldI (lvg_ne lvg_self rfl (by decide)) ?_
                        refine e_cN 8 rfl ?_
                        refine e_ldI lvg_self ?_
                        refine e_mul ?_
                        refine e_bopU (fun r39 => ?_)
                        refine e_cN 255 rfl ?_
                        refine e_bopU (fun r40 => ?_)
                        exact e_rI (K _ _ sh35 ir34)
                      · refine e_cN 1 rfl ?_
                        refine e_ldI (lvg_ne (lvg_ne lvg_self rfl (by decide)) rfl (by decide)) ?_
                        refine e_cN 2 rfl ?_
                        refine e_rem (by omega) (by decide) (by decide) ?_
                        refine e_sub (by omega) ?_
                        refine u_X8_note_135 ?_
                        unfold bX8_note_135
                        refine e_stI ?_
                        refine e_ldI (lvg_ne lvg_self rfl (by decide)) ?_
                        refine e_cN 8 rfl ?_
                        refine e_ldI lvg_self ?_
                        refine e_mul ?_
                        refine e_bopU (fun r41 => ?_)
                        refine e_cN 255 rfl ?_
                        refine e_bopU (fun r42 => ?_)
                        exact e_rI (K _ _ sh35 ir34)
                    · refine e_cN 3 rfl ?_
                      refine e_ldI (lvg_ne (lvg_ne lvg_self rfl (by decide)) rfl (by decide)) ?_
                      refine e_sub (by omega) ?_
                      refine u_X8_note_135 ?_
                      unfold bX8_note_135
                      refine e_stI ?_
                      refine e_ldI (lvg_ne lvg_self rfl (by decide)) ?_
                      refine e_cN 8 rfl ?_
                      refine e_ldI lvg_self ?_
                      refine e_mul ?_
                      refine e_bopU (fun r43 => ?_)
                      refine e_cN 255 rfl ?_
                      refine e_bopU (fun r44 => ?_)
                      exact e_rI (K _ _ sh35 ir34)
                · refine e_ldI lvg_self ?_
                  refine e_cN 2 rfl ?_
                  refine e_div (by omega) (by decide) (by decide) ?_
                  refine e_cN 1 rfl ?_
                  refine e_sub (by omega) ?_
                  refine u_X8_note_72 ?_
                  unfold bX8_note_72
                  refine e_stI ?_
                  refine e_ldI (lvg_ne (lvg_ne (lvg_ne rfl rfl (by decide)) rfl (by decide)) rfl (by decide)) ?_
                  refine e_cN 11 rfl ?_
                  refine e_ge (by omega) (by omega) (fun h45 => ?_) (fun h45 => ?_)
                  · refine u_X8_note_91 ?_
                    unfold bX8_note_91
                    refine e_ldA (lvg_ne (lvg_ne (lvg_ne rfl rfl (by decide)) rfl (by decide)) rfl (by decide)) ?_
                    refine e_gR (SM_k sh3 hM.1) (SM_r sh3 (hM.2.1 18 (by decide)).1) ?_
                    refine e_cN 5 rfl ?_
                    refine e_ldI (lvg_ne (lvg_ne lvg_self rfl (by decide)) rfl (by decide)) ?_
                    refine e_mul ?_
                    refine e_ldI lvg_self ?_
                    refine e_add ?_
                    refine e_aI (N := 80) (SM_k sh3 (hM.2.1 18 (by decide)).2.1) (SM_n sh3 (hM.2.1 18 (by decide)).2.2.1) (by omega) (by decide) (fun v46 hv47 => ?_)
                    refine u_X8_note_103 ?_
                    unfold bX8_note_103
                    refine e_stI ?_
                    refine e_ldI (lvg_ne (lvg_ne lvg_self rfl (by decide)) rfl (by decide)) ?_
                    refine e_cN 4 rfl ?_
                    refine e_ge (by omega) (by omega) (fun h48 => ?_) (fun h48 => ?_)
                    · refine u_X8_note_118 ?_
                      unfold bX8_note_118
                      refine e_ldI (lvg_ne (lvg_ne lvg_self rfl (by decide)) rfl (by decide)) ?_
                      refine e_cN 10 rfl ?_
                      refine e_ge (by omega) (by omega) (fun h49 => ?_) (fun h49 => ?_)
                      · refine u_X8_note_134 ?_
                        unfold bX8_note_134
                        refine e_cN 0 rfl ?_
                        refine u_X8_note_135 ?_
                        unfold bX8_note_135
                        refine e_stI ?_
                        refine e_ldI (lvg_ne lvg_self rfl (by decide)) ?_
                        refine e_cN 8 rfl ?_
                        refine e_ldI lvg_self ?_
                        refine e_mul ?_
                        refine e_bopU (fun r50 => ?_)
                        refine e_cN 255 rfl ?_
                        refine e_bopU (fun r51 => ?_)
                        exact e_rI (K _ _ sh3 ir4)
                      · refine e_cN 1 rfl ?_
                        refine e_ldI (lvg_ne (lvg_ne lvg_self rfl (by decide)) rfl (by decide)) ?_
                        refine e_cN 2 rfl ?_
                        refine e_rem (by omega) (by decide) (by decide) ?_
                        refine e_sub (by omega) ?_
                        refine u_X8_note_135 ?_
                        unfold bX8_note_135
                        refine e_stI ?_
                        refine e_ldI (lvg_ne lvg_self rfl (by decide)) ?_
                        refine e_cN 8 rfl ?_
                        refine e_ldI lvg_self ?_
                        refine e_mul ?_
                        refine e_bopU (fun r52 => ?_)
                        refine e_cN 255 rfl ?_
                        refine e_bopU (fun r53 => ?_)
                        exact e_rI (K _ _ sh3 ir4)
                    · refine e_cN 3 rfl ?_
                      refine e_ldI (lvg_ne (lvg_ne lvg_self rfl (by decide)) rfl (by decide)) ?_
                      refine e_sub (by omega) ?_
                      refine u_X8_note_135 ?_
                      unfold bX8_note_135
                      refine e_stI ?_
                      refine e_ldI (lvg_ne lvg_self rfl (by decide)) ?_
                      refine e_cN 8 rfl ?_
                      refine e_ldI lvg_self ?_
                      refine e_mul ?_
                      refine e_bopU (fun r54 => ?_)
                      refine e_cN 255 rfl ?_
                      refine e_bopU (fun r55 => ?_)
                      exact e_rI (K _ _ sh3 ir4)
                  · refine e_ldA (lvg_ne (lvg_ne (lvg_ne rfl rfl (by decide)) rfl (by decide)) rfl (by decide)) ?_
                    refine e_ldI (lvg_ne (lvg_ne lvg_self rfl (by decide)) rfl (by decide)) ?_
                    refine e_ldI lvg_self ?_
                    refine And.intro (SM_k sh3 hM.1) (And.intro ⟨by decide, by decide⟩ (z_X8_own (MS_SM hM sh3) ir4 (show ((8 * j5) + j10) < 16 by omega) (fun r60 S56 s57 ir58 => ?_)))
                    have sh59 := SM.tr sh3 s57 (by decide)
                    refine u_X8_note_103 ?_
                    unfold bX8_note_103
                    refine e_stI ?_
                    refine e_ldI (lvg_ne (lvg_ne lvg_self rfl (by decide)) rfl (by decide)) ?_
                    refine e_cN 4 rfl ?_
                    refine e_ge (by omega) (by omega) (fun h61 => ?_) (fun h61 => ?_)
                    · refine u_X8_note_118 ?_
                      unfold bX8_note_118
                      refine e_ldI (lvg_ne (lvg_ne lvg_self rfl (by decide)) rfl (by decide)) ?_
                      refine e_cN 10 rfl ?_
                      refine e_ge (by omega) (by omega) (fun h62 => ?_) (fun h62 => ?_)
                      · refine u_X8_note_134 ?_
                        unfold bX8_note_134
                        refine e_cN 0 rfl ?_
                        refine u_X8_note_135 ?_
                        unfold bX8_note_135
                        refine e_stI ?_
                        refine e_ldI (lvg_ne lvg_self rfl (by decide)) ?_
                        refine e_cN 8 rfl ?_
                        refine e_ldI lvg_self ?_
                        refine e_mul ?_
                        refine e_bopU (fun r63 => ?_)
                        refine e_cN 255 rfl ?_
                        refine e_bopU (fun r64 => ?_)
                        exact e_rI (K _ _ sh59 ir58)
                      · refine e_cN 1 rfl ?_
                        refine e_ldI (lvg_ne (lvg_ne lvg_self rfl (by decide)) rfl (by decide)) ?_
                        refine e_cN 2 rfl ?_
                        refine e_rem (by omega) (by decide) (by decide) ?_
                        refine e_sub (by omega) ?_
                        refine u_X8_note_135 ?_
                        unfold bX8_note_135
                        refine e_stI ?_
                        refine e_ldI (lvg_ne lvg_self rfl (by decide)) ?_
                        refine e_cN 8 rfl ?_
                        refine e_ldI lvg_self ?_
                        refine e_mul ?_
                        refine e_bopU (fun r65 => ?_)
                        refine e_cN 255 rfl ?_
                        refine e_bopU (fun r66 => ?_)
                        exact e_rI (K _ _ sh59 ir58)
                    · refine e_cN 3 rfl ?_
                      refine e_ldI (lvg_ne (lvg_ne lvg_self rfl (by decide)) rfl (by decide)) ?_
                      refine e_sub (by omega) ?_
                      refine u_X8_note_135 ?_
                      unfold bX8_note_135
                      refine e_stI ?_
                      refine e_ldI (lvg_ne lvg_self rfl (by decide)) ?_
                      refine e_cN 8 rfl ?_
                      refine e_ldI lvg_self ?_
                      refine e_mul ?_
                      refine e_bopU (fun r67 => ?_)
                      refine e_cN 255 rfl ?_
                      refine e_bopU (fun r68 => ?_)
                      exact e_rI (K _ _ sh59 ir58)
              · refine e_cN 0 rfl ?_
                refine u_X8_note_72 ?_
                unfold bX8_note_72
                refine e_stI ?_
                refine e_ldI (lvg_ne (lvg_ne (lvg_ne rfl rfl (by decide)) rfl (by decide)) rfl (by decide)) ?_
                refine e_cN 11 rfl ?_
                refine e_ge (by omega) (by omega) (fun h69 => ?_) (fun h69 => ?_)
                · refine u_X8_note_91 ?_
                  unfold bX8_note_91
                  refine e_ldA (lvg_ne (lvg_ne (lvg_ne rfl rfl (by decide)) rfl (by decide)) rfl (by decide)) ?_
                  refine e_gR (SM_k sh3 hM.1) (SM_r sh3 (hM.2.1 18 (by decide)).1) ?_
                  refine e_cN 5 rfl ?_
                  refine e_ldI (lvg_ne (lvg_ne lvg_self rfl (by decide)) rfl (by decide)) ?_
                  refine e_mul ?_
                  refine e_ldI lvg_self ?_
                  refine e_add ?_
                  refine e_aI (N := 80) (SM_k sh3 (hM.2.1 18 (by decide)).2.1) (SM_n sh3 (hM.2.1 18 (by decide)).2.2.1) (by omega) (by decide) (fun v70 hv71 => ?_)
                  refine u_X8_note_103 ?_
                  unfold bX8_note_103
                  refine e_stI ?_
                  refine e_ldI (lvg_ne (lvg_ne lvg_self rfl (by decide)) rfl (by decide)) ?_
                  refine e_cN 4 rfl ?_
                  refine e_ge (by omega) (by omega) (fun h72 => ?_) (fun h72 => ?_)
                  · refine u_X8_note_118 ?_
                    unfold bX8_note_118
                    refine e_ldI (lvg_ne (lvg_ne lvg_self rfl (by decide)) rfl (by decide)) ?_
                    refine e_cN 10 rfl ?_
                    refine e_ge (by omega) (by omega) (fun h73 => ?_) (fun h73 => ?_)
                    · refine u_X8_note_134 ?_
                      unfold bX8_note_134
                      refine e_cN 0 rfl ?_
                      refine u_X8_note_135 ?_
                      unfold bX8_note_135
                      refine e_stI ?_
                      refine e_ldI (lvg_ne lvg_self rfl (by decide)) ?_
                      refine e_cN 8 rfl ?_
                      refine e_ldI lvg_self ?_
                      refine e_mul ?_
                      refine e_bopU (fun r74 => ?_)
                      refine e_cN 255 rfl ?_
                      refine e_bopU (fun r75 => ?_)
                      exact e_rI (K _ _ sh3 ir4)
                    · refine e_cN 1 rfl ?_
                      refine e_ldI (lvg_ne (lvg_ne lvg_self rfl (by decide)) rfl (by decide)) ?_
                      refine e_cN 2 rfl ?_
                      refine e_rem (by omega) (by decide) (by decide) ?_
                      refine e_sub (by omega) ?_
                      refine u_X8_note_135 ?_
                      unfold bX8_note_135
                      refine e_stI ?_
                      refine e_ldI (lvg_ne lvg_self rfl (by decide)) ?_
                      refine e_cN 8 rfl ?_
                      refine e_ldI lvg_self ?_
                      refine e_mul ?_
                      refine e_bopU (fun r76 => ?_)
                      refine e_cN 255 rfl ?_
                      refine e_bopU (fun r77 => ?_)
                      exact e_rI (K _ _ sh3 ir4)
                  · refine e_cN 3 rfl ?_
                    refine e_ldI (lvg_ne (lvg_ne lvg_self rfl (by decide)) rfl (by decide)) ?_
                    refine e_sub (by omega) ?_
                    refine u_X8_note_135 ?_
                    unfold bX8_note_135
                    refine e_stI ?_
                    refine e_ldI (lvg_ne lvg_self rfl (by decide)) ?_
                    refine e_cN 8 rfl ?_
                    refine e_ldI lvg_self ?_
                    refine e_mul ?_
                    refine e_bopU (fun r78 => ?_)
                    refine e_cN 255 rfl ?_
                    refine e_bopU (fun r79 => ?_)
                    exact e_rI (K _ _ sh3 ir4)
                · refine e_ldA (lvg_ne (lvg_ne (lvg_ne rfl rfl (by decide)) rfl (by decide)) rfl (by decide)) ?_
                  refine e_ldI (lvg_ne (lvg_ne lvg_self rfl (by decide)) rfl (by decide)) ?_
                  refine e_ldI lvg_self ?_
                  refine And.intro (SM_k sh3 hM.1) (And.intro ⟨by decide, by decide⟩ (z_X8_own (MS_SM hM sh3) ir4 (show ((8 * j5) + j10) < 16 by omega) (fun r84 S80 s81 ir82 => ?_)))
                  have sh83 := SM.tr sh3 s81 (by decide)
                  refine u_X8_note_103 ?_
                  unfold bX8_note_103
                  refine e_stI ?_
                  refine e_ldI (lvg_ne (lvg_ne lvg_self rfl (by decide)) rfl (by decide)) ?_
                  refine e_cN 4 rfl ?_
                  refine e_ge (by omega) (by omega) (fun h85 => ?_) (fun h85 => ?_)
                  · refine u_X8_note_118 ?_
                    unfold bX8_note_118
                    refine e_ldI (lvg_ne (lvg_ne lvg_self rfl (by decide)) rfl (by decide)) ?_
                    refine e_cN 10 rfl ?_
                    refine e_ge (by omega) (by omega) (fun h86 => ?_) (fun h86 => ?_)
                    · refine u_X8_note_134 ?_
                      unfold bX8_note_134
                      refine e_cN 0 rfl ?_
                      refine u_X8_note_135 ?_
                      unfold bX8_note_135
                      refine e_stI ?_
                      refine e_ldI (lvg_ne lvg_self rfl (by decide)) ?_
                      refine e_cN 8 rfl ?_
                      refine e_ldI lvg_self ?_
                      refine e_mul ?_
                      refine e_bopU (fun r87 => ?_)
                      refine e_cN 255 rfl ?_
                      refine e_bopU (fun r88 => ?_)
                      exact e_rI (K _ _ sh83 ir82)
                    · refine e_cN 1 rfl ?_
                      refine e_ldI (lvg_ne (lvg_ne lvg_self rfl (by decide)) rfl (by decide)) ?_
                      refine e_cN 2 rfl ?_
                      refine e_rem (by omega) (by decide) (by decide) ?_
                      refine e_sub (by omega) ?_
                      refine u_X8_note_135 ?_
                      unfold bX8_note_135
                      refine e_stI ?_
                      refine e_ldI (lvg_ne lvg_self rfl (by decide)) ?_
                      refine e_cN 8 rfl ?_
                      refine e_ldI lvg_self ?_
                      refine e_mul ?_
                      refine e_bopU (fun r89 => ?_)
                      refine e_cN 255 rfl ?_
                      refine e_bopU (fun r90 => ?_)
                      exact e_rI (K _ _ sh83 ir82)
                  · refine e_cN 3 rfl ?_
                    refine e_ldI (lvg_ne (lvg_ne lvg_self rfl (by decide)) rfl (by decide)) ?_
                    refine e_sub (by omega) ?_
                    refine u_X8_note_135 ?_
                    unfold bX8_note_135
                    refine e_stI ?_
                    refine e_ldI (lvg_ne lvg_self rfl (by decide)) ?_
                    refine e_cN 8 rfl ?_
                    refine e_ldI lvg_self ?_
                    refine e_mul ?_
                    refine e_bopU (fun r91 => ?_)
                    refine e_cN 255 rfl ?_
                    refine e_bopU (fun r92 => ?_)
                    exact e_rI (K _ _ sh83 ir82)
            · refine u_X8_note_29 ?_
              unfold bX8_note_29
              refine e_cI ?_
              exact e_rI (K _ _ sh3 ir4)
theorem u_X8_count_0 {Q : Option Value → MM → Prop} {n : Nat} {lv : Lv} {st : List Value} {S : MM} {c z : Nat} (h : bX8_count_0 Q (wpn (kX8_count Q) n) lv st S c z) : wpn (kX8_count Q) (n + 1) 0 lv st S c z := h
theorem u_X8_count_72 {Q : Option Value → MM → Prop} {n : Nat} {lv : Lv} {st : List Value} {S : MM} {c z : Nat} (h : bX8_count_72 Q (wpn (kX8_count Q) n) lv st S c z) : wpn (kX8_count Q) (n + 1) 72 lv st S c z := h
theorem u_X8_count_77 {Q : Option Value → MM → Prop} {n : Nat} {lv : Lv} {st : List Value} {S : MM} {c z : Nat} (h : bX8_count_77 Q (wpn (kX8_count Q) n) lv st S c z) : wpn (kX8_count Q) (n + 1) 77 lv st S c z := h
theorem u_X8_count_82 {Q : Option Value → MM → Prop} {n : Nat} {lv : Lv} {st : List Value} {S : MM} {c z : Nat} (h : bX8_count_82 Q (wpn (kX8_count Q) n) lv st S c z) : wpn (kX8_count Q) (n + 1) 82 lv st S c z := h
theorem u_X8_count_91 {Q : Option Value → MM → Prop} {n : Nat} {lv : Lv} {st : List Value} {S : MM} {c z : Nat} (h : bX8_count_91 Q (wpn (kX8_count Q) n) lv st S c z) : wpn (kX8_count Q) (n + 1) 91 lv st S c z := h
theorem u_X8_count_100 {Q : Option Value → MM → Prop} {n : Nat} {lv : Lv} {st : List Value} {S : MM} {c z : Nat} (h : bX8_count_100 Q (wpn (kX8_count Q) n) lv st S c z) : wpn (kX8_count Q) (n + 1) 100 lv st S c z := h
theorem u_X8_count_110 {Q : Option Value → MM → Prop} {n : Nat} {lv : Lv} {st : List Value} {S : MM} {c z : Nat} (h : bX8_count_110 Q (wpn (kX8_count Q) n) lv st S c z) : wpn (kX8_count Q) (n + 1) 110 lv st S c z := h
theorem u_X8_count_115 {Q : Option Value → MM → Prop} {n : Nat} {lv : Lv} {st : List Value} {S : MM} {c z : Nat} (h : bX8_count_115 Q (wpn (kX8_count Q) n) lv st S c z) : wpn (kX8_count Q) (n + 1) 115 lv st S c z := h
theorem u_X8_count_120 {Q : Option Value → MM → Prop} {n : Nat} {lv : Lv} {st : List Value} {S : MM} {c z : Nat} (h : bX8_count_120 Q (wpn (kX8_count Q) n) lv st S c z) : wpn (kX8_count Q) (n + 1) 120 lv st S c z := h
theorem u_X8_count_125 {Q : Option Value → MM → Prop} {n : Nat} {lv : Lv} {st : List Value} {S : MM} {c z : Nat} (h : bX8_count_125 Q (wpn (kX8_count Q) n) lv st S c z) : wpn (kX8_count Q) (n + 1) 125 lv st S c z := h
theorem u_X8_count_130 {Q : Option Value → MM → Prop} {n : Nat} {lv : Lv} {st : List Value} {S : MM} {c z : Nat} (h : bX8_count_130 Q (wpn (kX8_count Q) n) lv st S c z) : wpn (kX8_count Q) (n + 1) 130 lv st S c z := h
theorem u_X8_count_135 {Q : Option Value → MM → Prop} {n : Nat} {lv : Lv} {st : List Value} {S : MM} {c z : Nat} (h : bX8_count_135 Q (wpn (kX8_count Q) n) lv st S c z) : wpn (kX8_count Q) (n + 1) 135 lv st S c z := h
theorem z_X8_count {Q : Option Value → MM → Prop} {S0 : MM} {m : Nat} {A : Nat → Nat} {w1 : Int32} (hM : MS S0 m A) (im : IM S0 m A)  (K : ∀ r S', SM [0] m A S0 S' → IM S' m A → Q (some (.int r)) S') : wX8_count [.ref m, .int w1] S0 Q := by
  have sh : SM [0] m A S0 S0 := SM.rf
  refine Exists.intro 60 (u_X8_count_0 ?_)
  unfold bX8_count_0
  refine e_ldA rfl ?_
  refine e_cN 0 rfl ?_
  refine y_mI hM sh im (by decide) (fun N e => nomatch (show (none : Option Nat) = some N from e)) (fun S1 he2 sh3 ir4 => ?_)
  refine e_ldI rfl ?_
  refine e_sw0 (by decide) ?_ (fun j5 h6 e7 => ?_)
  · refine u_X8_count_135 ?_
    unfold bX8_count_135
    refine e_cI ?_
    exact e_rI (K _ _ sh3 ir4)
  · match j5, h6, e7 with
    | 0, _, e7 =>
      subst e7
      refine u_X8_count_72 ?_
      unfold bX8_count_72
      refine e_ldA rfl ?_
      refine e_gI (SM_k sh3 hM.1) (fun v8 hv9 => ?_)
      exact e_rI (K _ _ sh3 ir4)
    | 1, _, e7 =>
      subst e7
      refine u_X8_count_77 ?_
      unfold bX8_count_77
      refine e_ldA rfl ?_
      refine e_gI (SM_k sh3 hM.1) (fun v10 hv11 => ?_)
      exact e_rI (K _ _ sh3 ir4)
    | 2, _, e7 =>
      subst e7
      refine u_X8_count_82 ?_
      unfold bX8_count_82
      refine e_ldA rfl ?_
      refine e_gR (SM_k sh3 hM.1) (SM_r sh3 (hM.2.1 1 (by decide)).1) ?_
      refine e_ldI rfl ?_
      refine e_cN 2 rfl ?_
      refine e_sub (by omega) ?_
      refine e_aI (N := 2) (SM_k sh3 (hM.2.1 1 (by decide)).2.1) (SM_n sh3 (hM.2.1 1 (by decide)).2.2.1) (by omega) (by decide) (fun v12 hv13 => ?_)
      exact e_rI (K _ _ sh3 ir4)
    | 3, _, e7 =>
      subst e7
      refine u_X8_count_82 ?_
      unfold bX8_count_82
      refine e_ldA rfl ?_
      refine e_gR (SM_k sh3 hM.1) (SM_r sh3 (hM.2.1 1 (by decide)).1) ?_
      refine e_ldI rfl ?_
      refine e_cN 2 rfl ?_
      refine e_sub (by omega) ?_
      refine e_aI (N := 2) (SM_k sh3 (hM.2.1 1 (by decide)).2.1) (SM_n sh3 (hM.2.1 1 (by decide)).2.2.1) (by omega) (by decide) (fun v14 hv15 => ?_)
      exact e_rI (K _ _ sh3 ir4)
    | 4, _, e7 =>
      subst e7
      refine u_X8_count_91 ?_
      unfold bX8_count_91
      refine e_ldA rfl ?_
      refine e_gR (SM_k sh3 hM.1) (SM_r sh3 (hM.2.1 2 (by decide)).1) ?_
      refine e_ldI rfl ?_
      refine e_cN 4 rfl ?_
      refine e_sub (by omega) ?_
      refine e_aI (N := 2) (SM_k sh3 (hM.2.1 2 (by decide)).2.1) (SM_n sh3 (hM.2.1 2 (by decide)).2.2.1) (by omega) (by decide) (fun v16 hv17 => ?_)
      exact e_rI (K _ _ sh3 ir4)
    | 5, _, e7 =>
      subst e7
      refine u_X8_count_91 ?_
      unfold bX8_count_91
      refine e_ldA rfl ?_
      refine e_gR (SM_k sh3 hM.1) (SM_r sh3 (hM.2.1 2 (by decide)).1) ?_
      refine e_ldI rfl ?_
      refine e_cN 4 rfl ?_
      refine e_sub (by omega) ?_
      refine e_aI (N := 2) (SM_k sh3 (hM.2.1 2 (by decide)).2.1) (SM_n sh3 (hM.2.1 2 (by decide)).2.2.1) (by omega) (by decide) (fun v18 hv19 => ?_)
      exact e_rI (K _ _ sh3 ir4)
    | 6, _, e7 =>
      subst e7
      refine u_X8_count_100 ?_
      unfold bX8_count_100
      refine e_ldA rfl ?_
      refine e_gR (SM_k sh3 hM.1) (SM_r sh3 (hM.2.1 42 (by decide)).1) ?_
      refine e_ldI rfl ?_
      refine e_cN 6 rfl ?_
      refine e_sub (by omega) ?_
      refine e_aI (N := 2) (SM_k sh3 (hM.2.1 42 (by decide)).2.1) (SM_n sh3 (hM.2.1 42 (by decide)).2.2.1) (by omega) (by decide) (fun v20 hv21 => ?_)
      exact e_rI (K _ _ sh3 ir4)
    | 7, _, e7 =>
      subst e7
      refine u_X8_count_100 ?_
      unfold bX8_count_100
      refine e_ldA rfl ?_
      refine e_gR (SM_k sh3 hM.1) (SM_r sh3 (hM.2.1 42 (by decide)).1) ?_
      refine e_ldI rfl ?_
      refine e_cN 6 rfl ?_
      refine e_sub (by omega) ?_
      refine e_aI (N := 2) (SM_k sh3 (hM.2.1 42 (by decide)).2.1) (SM_n sh3 (hM.2.1 42 (by decide)).2.2.1) (by omega) (by decide) (fun v22 hv23 => ?_)
      exact e_rI (K _ _ sh3 ir4)
    | 8, _, e7 =>
      subst e7
      refine u_X8_count_110 ?_
      unfold bX8_count_110
      refine e_ldA rfl ?_
      refine e_gI (SM_k sh3 hM.1) (fun v24 hv25 => ?_)
      exact e_rI (K _ _ sh3 ir4)
    | 9, _, e7 =>
      subst e7
      refine u_X8_count_115 ?_
      unfold bX8_count_115
      refine e_ldA rfl ?_
      refine e_gI (SM_k sh3 hM.1) (fun v26 hv27 => ?_)
      exact e_rI (K _ _ sh3 ir4)
    | 10, _, e7 =>
      subst e7
      refine u_X8_count_120 ?_
      unfold bX8_count_120
      refine e_ldA rfl ?_
      refine e_gI (SM_k sh3 hM.1) (fun v28 hv29 => ?_)
      exact e_rI (K _ _ sh3 ir4)
    | 11, _, e7 =>
      subst e7
      refine u_X8_count_125 ?_
      unfold bX8_count_125
      refine e_ldA rfl ?_
      refine e_gI (SM_k sh3 hM.1) (fun v30 hv31 => ?_)
      exact e_rI (K _ _ sh3 ir4)
    | 12, _, e7 =>
      subst e7
      refine u_X8_count_130 ?_
      unfold bX8_count_130
      refine e_ldA rfl ?_
      refine e_gI (SM_k sh3 hM.1) (fun v32 hv33 => ?_)
      exact e_rI (K _ _ sh3 ir4)
    | nn + 13, hh, _ => exact absurd hh (by omega)
