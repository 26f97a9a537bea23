theorem u_X1_rename_0 {Q : Option Value → MM → Prop} {n : Nat} {lv : Lv} {st : List Value} {S : MM} {c z : Nat} (h : bX1_rename_0 Q (wpn (kX1_rename Q) n) lv st S c z) : wpn (kX1_rename Q) (n + 1) 0 lv st S c z := h
theorem u_X1_rename_7 {Q : Option Value → MM → Prop} {n : Nat} {lv : Lv} {st : List Value} {S : MM} {c z : Nat} (h : bX1_rename_7 Q (wpn (kX1_rename Q) n) lv st S c z) : wpn (kX1_rename Q) (n + 1) 7 lv st S c z := h
theorem u_X1_rename_32 {Q : Option Value → MM → Prop} {n : Nat} {lv : Lv} {st : List Value} {S : MM} {c z : Nat} (h : bX1_rename_32 Q (wpn (kX1_rename Q) n) lv st S c z) : wpn (kX1_rename Q) (n + 1) 32 lv st S c z := h
def P_X1_rename_0 (Q : Option Value → MM → Prop) (S0 : MM) (n : Nat) : Prop := ∀ (lv : Lv) (S : MM) (x0 : Nat) (w1 : Int32), lvg lv 0 = some (.ref x0) → sK S0 x0 = 2 → lvg lv 1 = some (.int w1) → SH [7, 21] S0 S → IR S → 558 ≤ n → wpn (kX1_rename Q) n 0 lv [] S 0 0
def P_X1_rename_7 (Q : Option Value → MM → Prop) (S0 : MM) (n : Nat) : Prop := ∀ (lv : Lv) (S : MM) (x0 : Nat) (w1 : Int32) (i2 : Nat), lvg lv 0 = some (.ref x0) → sK S0 x0 = 2 → lvg lv 1 = some (.int w1) → lvg lv 2 = some (.int (nI i2)) → i2 < 9 → SH [7, 21] S0 S → IR S → 31 + 62 * (8 - i2) ≤ n → wpn (kX1_rename Q) n 7 lv [] S 0 0
theorem B_X1_rename_0 {Q : Option Value → MM → Prop} {S0 : MM} {n : Nat} (hT : TY S0) (K : ∀ S', SH [7, 21] S0 S' → IR S' → Q none S') (t_7 : ∀ k, k ≤ n → P_X1_rename_7 Q S0 k) : P_X1_rename_0 Q S0 (n + 1) := by
  intro lv S x0 w1 g0 k0 g1 sh ir hF
  refine u_X1_rename_0 ?_
  unfold bX1_rename_0
  refine e_ldA g0 ?_
  refine e_ldI g1 ?_
  refine y_tI (SH_k sh k0) sh ir (by decide) (by decide) (fun N e => nomatch (show (none : Option Nat) = some N from e)) (fun S1 he2 sh3 ir4 => ?_)
  refine e_cN 0 rfl ?_
  refine e_stI ?_
  exact t_7 n (by omega) _ _ x0 _ 0 (lvg_ne g0 rfl (by decide)) k0 (lvg_ne g1 rfl (by decide)) lvg_self (by omega) sh3 ir4 (by omega)
theorem B_X1_rename_7 {Q : Option Value → MM → Prop} {S0 : MM} {n : Nat} (hT : TY S0) (K : ∀ S', SH [7, 21] S0 S' → IR S' → Q none S') (t_7 : ∀ k, k ≤ n → P_X1_rename_7 Q S0 k) : P_X1_rename_7 Q S0 (n + 1) := by
  intro lv S x0 w1 i2 g0 k0 g1 g2 h2 sh ir hF
  refine u_X1_rename_7 ?_
  unfold bX1_rename_7
  refine e_ldI g2 ?_
  refine e_cN 8 rfl ?_
  refine e_ge (by omega) (by omega) (fun h1 => ?_) (fun h1 => ?_)
  · obtain ⟨q2, rfl⟩ : ∃ q, n = q + 1 := ⟨n - 1, by omega⟩
    refine u_X1_rename_32 ?_
    unfold bX1_rename_32
    exact e_rV (K _ sh ir)
  · refine e_ldA g0 ?_
    obtain ⟨b3, rb4, kb5, nb6⟩ := hT.1 x0 2 0 17 8 k0 rfl
    refine e_gR (SH_k sh k0) (SH_r sh rb4) ?_
    refine e_ldI g2 ?_
    obtain ⟨b7, rb8, kb9, nb10⟩ := hT.2.1 b3 17 8 6 i2 kb5 nb6 rfl (by omega)
    refine e_aR (SH_k sh kb5) (SH_n sh nb6) (by omega) (by decide) (SH_r sh rb8) ?_
    obtain ⟨b11, rb12, kb13, nb14⟩ := hT.1 b7 6 0 7 0 kb9 rfl
    refine e_gR (SH_k sh kb9) (SH_r sh rb12) ?_
    refine e_ldI g1 ?_
    refine y_tI (SH_k sh kb13) sh ir (by decide) (by decide) (fun N e => nomatch (show (none : Option Nat) = some N from e)) (fun S15 he16 sh17 ir18 => ?_)
    refine e_inc g2 ?_
    exact t_7 n (by omega) _ _ x0 _ (i2 + 1) (lvg_ne g0 rfl (by decide)) k0 (lvg_ne g1 rfl (by decide)) lvg_self (by omega) sh17 ir18 (by omega)
theorem A_X1_rename {Q : Option Value → MM → Prop} {S0 : MM} (hT : TY S0) (K : ∀ S', SH [7, 21] S0 S' → IR S' → Q none S') : ∀ n k, k ≤ n → P_X1_rename_0 Q S0 k ∧ P_X1_rename_7 Q S0 k := by
  intro n
  induction n with
  | zero =>
    intro k hk
    have e : k = 0 := by omega
    subst e
    exact ⟨(fun lv S x0 w1 _ _ _ _ _ hF => absurd hF (by omega)), (fun lv S x0 w1 i2 _ _ _ _ _ _ _ hF => absurd hF (by omega))⟩
  | succ n ih =>
    intro k hk
    by_cases hn : k ≤ n
    · exact ih k hn
    · have e : k = n + 1 := by omega
      subst e
      have T_0 : ∀ k, k ≤ n → P_X1_rename_0 Q S0 k := fun k hk => (ih k hk).1
      have T_7 : ∀ k, k ≤ n → P_X1_rename_7 Q S0 k := fun k hk => (ih k hk).2
      exact ⟨B_X1_rename_0 hT K T_7, B_X1_rename_7 hT K T_7⟩
theorem z_X1_rename {Q : Option Value → MM → Prop} {S0 : MM} {x0 : Nat} {w1 : Int32} (hT : TY S0) (ir : IR S0) (k0 : sK S0 x0 = 2) (K : ∀ S', SH [7, 21] S0 S' → IR S' → Q none S') : wX1_rename [.ref x0, .int w1] S0 Q := by
  exact Exists.intro 558 ((A_X1_rename hT K 558 558 (Nat.le_refl _)).1 _ S0 x0 w1 rfl k0 rfl SH.rf ir (by omega))
theorem u_X1_keep_0 {Q : Option Value → MM → Prop} {n : Nat} {lv : Lv} {st : List Value} {S : MM} {c z : Nat} (h : bX1_keep_0 Q (wpn (kX1_keep Q) n) lv st S c z) : wpn (kX1_keep Q) (n + 1) 0 lv st S c z := h
theorem u_X1_keep_71 {Q : Option Value → MM → Prop} {n : Nat} {lv : Lv} {st : List Value} {S : MM} {c z : Nat} (h : bX1_keep_71 Q (wpn (kX1_keep Q) n) lv st S c z) : wpn (kX1_keep Q) (n + 1) 71 lv st S c z := h
theorem z_X1_keep {Q : Option Value → MM → Prop} {S0 : MM} {x0 : Nat} {x1 : Nat} {w2 : Int32} {w3 : Int32} (hT : TY S0) (ir : IR S0) (k0 : sK S0 x0 = 2) (k1 : sK S0 x1 = 3) (K : ∀ S', SH [2, 19] S0 S' → IR S' → Q none S') : wX1_keep [.ref x0, .ref x1, .int w2, .int w3] S0 Q := by
  have sh : SH [2, 19] S0 S0 := SH.rf
  refine Exists.intro 40 (u_X1_keep_0 ?_)
  unfold bX1_keep_0
  refine e_ldA rfl ?_
  obtain ⟨n1, hn2, vn3⟩ := ir x0 2 6 50 (SH_k sh k0) rfl
  refine e_gV (SH_k sh k0) vn3 ?_
  refine e_cN 4 rfl ?_
  refine e_mul ?_
  refine e_stI ?_
  refine e_ldA (lvg_ne rfl rfl (by decide)) ?_
  obtain ⟨b4, rb5, kb6, nb7⟩ := hT.1 x0 2 4 10 200 k0 rfl
  refine e_gR (SH_k sh k0) (SH_r sh rb5) ?_
  refine e_ldI lvg_self ?_
  refine e_ldI (lvg_ne rfl rfl (by decide)) ?_
  refine y_sAI (SH_k sh kb6) (SH_n sh nb7) (by omega) sh ir (by decide) (fun S8 he9 sh10 ir11 => ?_)
  refine e_ldA (lvg_ne rfl rfl (by decide)) ?_
  refine e_gR (SH_k sh10 k0) (SH_r sh10 rb5) ?_
  refine e_ldI lvg_self ?_
  refine e_cN 1 rfl ?_
  refine e_add ?_
  refine e_ldA (lvg_ne rfl rfl (by decide)) ?_
  refine e_gI (SH_k sh10 k1) (fun v12 hv13 => ?_)
  refine y_sAI (SH_k sh10 kb6) (SH_n sh10 nb7) (by omega) sh10 ir11 (by decide) (fun S14 he15 sh16 ir17 => ?_)
  refine e_ldA (lvg_ne rfl rfl (by decide)) ?_
  refine e_gR (SH_k sh16 k0) (SH_r sh16 rb5) ?_
  refine e_ldI lvg_self ?_
  refine e_cN 2 rfl ?_
  refine e_add ?_
  refine e_ldA (lvg_ne rfl rfl (by decide)) ?_
  refine e_gI (SH_k sh16 k1) (fun v18 hv19 => ?_)
  refine y_sAI (SH_k sh16 kb6) (SH_n sh16 nb7) (by omega) sh16 ir17 (by decide) (fun S20 he21 sh22 ir23 => ?_)
  refine e_ldA (lvg_ne rfl rfl (by decide)) ?_
  refine e_gR (SH_k sh22 k0) (SH_r sh22 rb5) ?_
  refine e_ldI lvg_self ?_
  refine e_cN 3 rfl ?_
  refine e_add ?_
  refine e_ldI (lvg_ne rfl rfl (by decide)) ?_
  refine y_sAI (SH_k sh22 kb6) (SH_n sh22 nb7) (by omega) sh22 ir23 (by decide) (fun S24 he25 sh26 ir27 => ?_)
  refine e_ldA (lvg_ne rfl rfl (by decide)) ?_
  refine e_ldA (lvg_ne rfl rfl (by decide)) ?_
  obtain ⟨n28, hn29, vn30⟩ := ir27 x0 2 6 50 (SH_k sh26 k0) rfl
  refine e_gV (SH_k sh26 k0) vn30 ?_
  refine e_cN 1 rfl ?_
  refine e_add ?_
  refine e_cN 50 rfl ?_
  refine e_rem (by omega) (by decide) (by decide) ?_
  refine y_tI (SH_k sh26 k0) sh26 ir27 (by decide) (by decide) (fun N e => by have e2 : some 50 = some N := e; cases e2; exact ⟨((n28 + 1) % 50), by omega, rfl⟩) (fun S31 he32 sh33 ir34 => ?_)
  refine e_ldA (lvg_ne rfl rfl (by decide)) ?_
  refine e_ldA (lvg_ne rfl rfl (by decide)) ?_
  obtain ⟨n35, hn36, vn37⟩ := ir34 x0 2 5 51 (SH_k sh33 k0) rfl
  refine e_gV (SH_k sh33 k0) vn37 ?_
  refine e_cN 1 rfl ?_
  refine u_X1_keep_71 ?_
  unfold bX1_keep_71
  refine e_add ?_
  refine e_cN 50 rfl ?_
  refine e_mMA (by omega) (by omega) (fun n38 h39 h40 => ?_)
  refine y_tI (SH_k sh33 k0) sh33 ir34 (by decide) (by decide) (fun N e => by have e2 : some 51 = some N := e; cases e2; exact ⟨n38, by omega, rfl⟩) (fun S41 he42 sh43 ir44 => ?_)
  refine e_ldA (lvg_ne rfl rfl (by decide)) ?_
  refine e_duA ?_
  refine e_gI (SH_k sh43 k0) (fun v45 hv46 => ?_)
  refine e_cN 1 rfl ?_
  refine e_bopU (fun r47 => ?_)
  refine y_tI (SH_k sh43 k0) sh43 ir44 (by decide) (by decide) (fun N e => nomatch (show (none : Option Nat) = some N from e)) (fun S48 he49 sh50 ir51 => ?_)
  exact e_rV (K _ sh50 ir51)
theorem u_X1_moveTo_0 {Q : Option Value → MM → Prop} {n : Nat} {lv : Lv} {st : List Value} {S : MM} {c z : Nat} (h : bX1_moveTo_0 Q (wpn (kX1_moveTo Q) n) lv st S c z) : wpn (kX1_moveTo Q) (n + 1) 0 lv st S c z := h
theorem u_X1_moveTo_12 {Q : Option Value → MM → Prop} {n : Nat} {lv : Lv} {st : List Value} {S : MM} {c z : Nat} (h : bX1_moveTo_12 Q (wpn (kX1_moveTo Q) n) lv st S c z) : wpn (kX1_moveTo Q) (n + 1) 12 lv st S c z := h
theorem u_X1_moveTo_13 {Q : Option Value → MM → Prop} {n : Nat} {lv : Lv} {st : List Value} {S : MM} {c z : Nat} (h : bX1_moveTo_13 Q (wpn (kX1_moveTo Q) n) lv st S c z) : wpn (kX1_moveTo Q) (n + 1) 13 lv st S c z := h
theorem u_X1_moveTo_22 {Q : Option Value → MM → Prop} {n : Nat} {lv : Lv} {st : List Value} {S : MM} {c z : Nat} (h : bX1_moveTo_22 Q (wpn (kX1_moveTo Q) n) lv st S c z) : wpn (kX1_moveTo Q) (n + 1) 22 lv st S c z := h
theorem u_X1_moveTo_23 {Q : Option Value → MM → Prop} {n : Nat} {lv : Lv} {st : List Value} {S : MM} {c z : Nat} (h : bX1_moveTo_23 Q (wpn (kX1_moveTo Q) n) lv st S c z) : wpn (kX1_moveTo Q) (n + 1) 23 lv st S c z := h
theorem u_X1_moveTo_36 {Q : Option Value → MM → Prop} {n : Nat} {lv : Lv} {st : List Value} {S : MM} {c z : Nat} (h : bX1_moveTo_36 Q (wpn (kX1_moveTo Q) n) lv st S c z) : wpn (kX1_moveTo Q) (n + 1) 36 lv st S c z := h
def P_X1_moveTo_0 (Q : Option Value → MM → Prop) (S0 : MM) (n : Nat) : Prop := ∀ (lv : Lv) (S : MM) (x0 : Nat) (x1 : Nat) (w2 : Int32), lvg lv 0 = some (.ref x0) → sK S0 x0 = 2 → lvg lv 1 = some (.ref x1) → sK S0 x1 = 6 → lvg lv 2 = some (.int w2) → SH [2, 6, 7] S0 S → IR S → 93 ≤ n → wpn (kX1_moveTo Q) n 0 lv [] S 0 0
def P_X1_moveTo_13 (Q : Option Value → MM → Prop) (S0 : MM) (n : Nat) : Prop := ∀ (lv : Lv) (S : MM) (x0 : Nat) (x1 : Nat) (w2 : Int32) (is0 : Nat), lvg lv 0 = some (.ref x0) → sK S0 x0 = 2 → lvg lv 1 = some (.ref x1) → sK S0 x1 = 6 → lvg lv 2 = some (.int w2) → is0 < 2 → SH [2, 6, 7] S0 S → IR S → 62 ≤ n → wpn (kX1_moveTo Q) n 13 lv [.int (nI is0)] S 0 0
def P_X1_moveTo_23 (Q : Option Value → MM → Prop) (S0 : MM) (n : Nat) : Prop := ∀ (lv : Lv) (S : MM) (x0 : Nat) (x1 : Nat) (w2 : Int32) (is0 : Nat) (is1 : Nat), lvg lv 0 = some (.ref x0) → sK S0 x0 = 2 → lvg lv 1 = some (.ref x1) → sK S0 x1 = 6 → lvg lv 2 = some (.int w2) → is0 < 2 → is1 < 2 → SH [2, 6, 7] S0 S → IR S → 31 ≤ n → wpn (kX1_moveTo Q) n 23 lv [.int (nI is0), .int (nI is1)] S 0 0
theorem B_X1_moveTo_0 {Q : Option Value → MM → Prop} {S0 : MM} {n : Nat} (hT : TY S0) (K : ∀ S', SH [2, 6, 7] S0 S' → IR S' → Q none S') (t_13 : ∀ k, k ≤ n → P_X1_moveTo_13 Q S0 k) : P_X1_moveTo_0 Q S0 (n + 1) := by
  intro lv S x0 x1 w2 g0 k0 g1 k1 g2 sh ir hF
  refine u_X1_moveTo_0 ?_
  unfold bX1_moveTo_0
  refine e_ldA g1 ?_
  refine e_gI (SH_k sh k1) (fun v1 hv2 => ?_)
  refine e_cN 4 rfl ?_
  refine e_ifc ?_ ?_
  · refine e_cN 1 rfl ?_
    exact t_13 n (by omega) _ _ x0 x1 _ 1 g0 k0 g1 k1 g2 (by omega) sh ir (by omega)
  · obtain ⟨q3, rfl⟩ : ∃ q, n = q + 1 := ⟨n - 1, by omega⟩
    refine u_X1_moveTo_12 ?_
    unfold bX1_moveTo_12
    refine e_cN 0 rfl ?_
    exact t_13 q3 (by omega) _ _ x0 x1 _ 0 g0 k0 g1 k1 g2 (by omega) sh ir (by omega)
theorem B_X1_moveTo_13 {Q : Option Value → MM → Prop} {S0 : MM} {n : Nat} (hT : TY S0) (K : ∀ S', SH [2, 6, 7] S0 S' → IR S' → Q none S') (t_23 : ∀ k, k ≤ n → P_X1_moveTo_23 Q S0 k) : P_X1_moveTo_13 Q S0 (n + 1) := by
  intro lv S x0 x1 w2 is0 g0 k0 g1 k1 g2 hs0 sh ir hF
  refine u_X1_moveTo_13 ?_
  unfold bX1_moveTo_13
  refine e_ldI g2 ?_
  refine e_cN 4 rfl ?_
  refine e_ifc ?_ ?_
  · refine e_cN 1 rfl ?_
    exact t_23 n (by omega) _ _ x0 x1 _ 1 is0 g0 k0 g1 k1 g2 (by omega) (by omega) sh ir (by omega)
  · obtain ⟨q1, rfl⟩ : ∃ q, n = q + 1 := ⟨n - 1, by omega⟩
    refine u_X1_moveTo_22 ?_
    unfold bX1_moveTo_22
    refine e_cN 0 rfl ?_
    exact t_23 q1 (by omega) _ _ x0 x1 _ 0 is0 g0 k0 g1 k1 g2 (by omega) (by omega) sh ir (by omega)
theorem B_X1_moveTo_23 {Q : Option Value → MM → Prop} {S0 : MM} {n : Nat} (hT : TY S0) (K : ∀ S', SH [2, 6, 7] S0 S' → IR S' → Q none S')  : P_X1_moveTo_23 Q S0 (n + 1) := by
  intro lv S x0 x1 w2 is0 is1 g0 k0 g1 k1 g2 hs0 hs1 sh ir hF
  refine u_X1_moveTo_23 ?_
  unfold bX1_moveTo_23
  refine e_eq (by omega) (by omega) (fun h1 => ?_) (fun h1 => ?_)
  · obtain ⟨q2, rfl⟩ : ∃ q, n = q + 1 := ⟨n - 1, by omega⟩
    refine u_X1_moveTo_36 ?_
    unfold bX1_moveTo_36
    refine e_ldA g1 ?_
    refine e_ldI g2 ?_
    refine And.intro (SH_k sh k1) (And.intro ⟨by decide, by decide⟩ (z_X5_setStage (TY_SH hT sh) ir (SH_k sh k1) (fun S3 s4 ir5 => ?_)))
    have sh6 := SH.tr sh s4 (by decide)
    exact e_rV (K _ sh6 ir5)
  · refine e_ldA g0 ?_
    refine e_duA ?_
    refine e_gI (SH_k sh k0) (fun v7 hv8 => ?_)
    refine e_cN 1 rfl ?_
    refine e_bopU (fun r9 => ?_)
    refine y_tI (SH_k sh k0) sh ir (by decide) (by decide) (fun N e => nomatch (show (none : Option Nat) = some N from e)) (fun S10 he11 sh12 ir13 => ?_)
    obtain ⟨q14, rfl⟩ : ∃ q, n = q + 1 := ⟨n - 1, by omega⟩
    refine u_X1_moveTo_36 ?_
    unfold bX1_moveTo_36
    refine e_ldA g1 ?_
    refine e_ldI g2 ?_
    refine And.intro (SH_k sh12 k1) (And.intro ⟨by decide, by decide⟩ (z_X5_setStage (TY_SH hT sh12) ir13 (SH_k sh12 k1) (fun S15 s16 ir17 => ?_)))
    have sh18 := SH.tr sh12 s16 (by decide)
    exact e_rV (K _ sh18 ir17)
theorem A_X1_moveTo {Q : Option Value → MM → Prop} {S0 : MM} (hT : TY S0) (K : ∀ S', SH [2, 6, 7] S0 S' → IR S' → Q none S') : ∀ n k, k ≤ n → P_X1_moveTo_0 Q S0 k ∧ P_X1_moveTo_13 Q S0 k ∧ P_X1_moveTo_23 Q S0 k := by
  intro n
  induction n with
  | zero =>
    intro k hk
    have e : k = 0 := by omega
    subst e
    exact ⟨(fun lv S x0 x1 w2 _ _ _ _ _ _ _ hF => absurd hF (by omega)), (fun lv S x0 x1 w2 is0 _ _ _ _ _ _ _ _ hF => absurd hF (by omega)), (fun lv S x0 x1 w2 is0 is1 _ _ _ _ _ _ _ _ _ hF => absurd hF (by omega))⟩
  | succ n ih =>
    intro k hk
    by_cases hn : k ≤ n
    · exact ih k hn
    · have e : k = n + 1 := by omega
      subst e
      have T_0 : ∀ k, k ≤ n → P_X1_moveTo_0 Q S0 k := fun k hk => (ih k hk).1
      have T_13 : ∀ k, k ≤ n → P_X1_moveTo_13 Q S0 k := fun k hk => (ih k hk).2.1
      have T_23 : ∀ k, k ≤ n → P_X1_moveTo_23 Q S0 k := fun k hk => (ih k hk).2.2
      exact ⟨B_X1_moveTo_0 hT K T_13, B_X1_moveTo_13 hT K T_23, B_X1_moveTo_23 hT K ⟩
theorem z_X1_moveTo {Q : Option Value → MM → Prop} {S0 : MM} {x0 : Nat} {x1 : Nat} {w2 : Int32} (hT : TY S0) (ir : IR S0) (k0 : sK S0 x0 = 2) (k1 : sK S0 x1 = 6) (K : ∀ S', SH [2, 6, 7] S0 S' → IR S' → Q none S') : wX1_moveTo [.ref x0, .ref x1, .int w2] S0 Q := by
  exact Exists.intro 93 ((A_X1_moveTo hT K 93 93 (Nat.le_refl _)).1 _ S0 x0 x1 w2 rfl k0 rfl k1 rfl SH.rf ir (by omega))
theorem u_X1_bundleOf_0 {Q : Option Value → MM → Prop} {n : Nat} {lv : Lv} {st : List Value} {S : MM} {c z : Nat} (h : bX1_bundleOf_0 Q (wpn (kX1_bundleOf Q) n) lv st S c z) : wpn (kX1_bundleOf Q) (n + 1) 0 lv st S c z := h
theorem u_X1_bundleOf_16 {Q : Option Value → MM → Prop} {n : Nat} {lv : Lv} {st : List Value} {S : MM} {c z : Nat} (h : bX1_bundleOf_16 Q (wpn (kX1_bundleOf Q) n) lv st S c z) : wpn (kX1_bundleOf Q) (n + 1) 16 lv st S c z := h
theorem u_X1_bundleOf_18 {Q : Option Value → MM → Prop} {n : Nat} {lv : Lv} {st : List Value} {S : MM} {c z : Nat} (h : bX1_bundleOf_18 Q (wpn (kX1_bundleOf Q) n) lv st S c z) : wpn (kX1_bundleOf Q) (n + 1) 18 lv st S c z := h
theorem u_X1_bundleOf_51 {Q : Option Value → MM → Prop} {n : Nat} {lv : Lv} {st : List Value} {S : MM} {c z : Nat} (h : bX1_bundleOf_51 Q (wpn (kX1_bundleOf Q) n) lv st S c z) : wpn (kX1_bundleOf Q) (n + 1) 51 lv st S c z := h
theorem u_X1_bundleOf_57 {Q : Option Value → MM → Prop} {n : Nat} {lv : Lv} {st : List Value} {S : MM} {c z : Nat} (h : bX1_bundleOf_57 Q (wpn (kX1_bundleOf Q) n) lv st S c z) : wpn (kX1_bundleOf Q) (n + 1) 57 lv st S c z := h
def P_X1_bundleOf_0 (Q : Option Value → MM → Prop) (S0 : MM) (n : Nat) : Prop := ∀ (lv : Lv) (S : MM) (x0 : Nat) (i1 : Nat), lvg lv 0 = some (.ref x0) → sK S0 x0 = 2 → lvg lv 1 = some (.int (nI i1)) → i1 < 8 → SH [] S0 S → IR S → 496 ≤ n → wpn (kX1_bundleOf Q) n 0 lv [] S 0 0
def P_X1_bundleOf_18 (Q : Option Value → MM → Prop) (S0 : MM) (n : Nat) : Prop := ∀ (lv : Lv) (S : MM) (x0 : Nat) (i1 : Nat) (x2 : Nat) (i3 : Nat), lvg lv 0 = some (.ref x0) → sK S0 x0 = 2 → lvg lv 1 = some (.int (nI i1)) → i1 < 8 → lvg lv 2 = some (.ref x2) → sK S0 x2 = 6 → lvg lv 3 = some (.int (nI i3)) → i3 < 8 → SH [] S0 S → IR S → 31 + 62 * (7 - i3) ≤ n → wpn (kX1_bundleOf Q) n 18 lv [] S 0 0
theorem B_X1_bundleOf_0 {Q : Option Value → MM → Prop} {S0 : MM} {n : Nat} (hT : TY S0) (K : ∀ r S', SH [] S0 S' → IR S' → Q (some (.int r)) S') (t_18 : ∀ k, k ≤ n → P_X1_bundleOf_18 Q S0 k) : P_X1_bundleOf_0 Q S0 (n + 1) := by
  intro lv S x0 i1 g0 k0 g1 h1 sh ir hF
  refine u_X1_bundleOf_0 ?_
  unfold bX1_bundleOf_0
  refine e_ldA g0 ?_
  obtain ⟨b1, rb2, kb3, nb4⟩ := hT.1 x0 2 0 17 8 k0 rfl
  refine e_gR (SH_k sh k0) (SH_r sh rb2) ?_
  refine e_ldI g1 ?_
  obtain ⟨b5, rb6, kb7, nb8⟩ := hT.2.1 b1 17 8 6 i1 kb3 nb4 rfl (by omega)
  refine e_aR (SH_k sh kb3) (SH_n sh nb4) (by omega) (by decide) (SH_r sh rb6) ?_
  refine e_stA ?_
  refine e_ldA lvg_self ?_
  refine And.intro (SH_k sh kb7) (And.intro ⟨by decide, by decide⟩ (z_X5_fits (TY_SH hT sh) ir (SH_k sh kb7) (fun n13 S9 s10 ir11 hn14 => ?_)))
  have sh12 := SH.tr sh s10 (by decide)
  refine e_ifN (by omega) (fun h15 => ?_) (fun h15 => ?_)
  · refine e_cI ?_
    exact e_rI (K _ _ sh12 ir11)
  · obtain ⟨q16, rfl⟩ : ∃ q, n = q + 1 := ⟨n - 1, by omega⟩
    refine u_X1_bundleOf_16 ?_
    unfold bX1_bundleOf_16
    refine e_cN 0 rfl ?_
    refine e_stI ?_
    exact t_18 q16 (by omega) _ _ x0 i1 b5 0 (lvg_ne (lvg_ne g0 rfl (by decide)) rfl (by decide)) k0 (lvg_ne (lvg_ne g1 rfl (by decide)) rfl (by decide)) (by omega) (lvg_ne lvg_self rfl (by decide)) kb7 lvg_self (by omega) sh12 ir11 (by omega)
theorem B_X1_bundleOf_18 {Q : Option Value → MM → Prop} {S0 : MM} {n : Nat} (hT : TY S0) (K : ∀ r S', SH [] S0 S' → IR S' → Q (some (.int r)) S') (t_18 : ∀ k, k ≤ n → P_X1_bundleOf_18 Q S0 k) : P_X1_bundleOf_18 Q S0 (n + 1) := by
  intro lv S x0 i1 x2 i3 g0 k0 g1 h1 g2 k2 g3 h3 sh ir hF
  refine u_X1_bundleOf_18 ?_
  unfold bX1_bundleOf_18
  refine e_ldI g3 ?_
  refine e_ldI g1 ?_
  refine e_ge (by omega) (by omega) (fun h1 => ?_) (fun h1 => ?_)
  · obtain ⟨q2, rfl⟩ : ∃ q, n = q + 1 := ⟨n - 1, by omega⟩
    refine u_X1_bundleOf_57 ?_
    unfold bX1_bundleOf_57
    refine e_ldI g1 ?_
    exact e_rI (K _ _ sh ir)
  · refine e_ldA g0 ?_
    obtain ⟨b3, rb4, kb5, nb6⟩ := hT.1 x0 2 0 17 8 k0 rfl
    refine e_gR (SH_k sh k0) (SH_r sh rb4) ?_
    refine e_ldI g3 ?_
    obtain ⟨b7, rb8, kb9, nb10⟩ := hT.2.1 b3 17 8 6 i3 kb5 nb6 rfl (by omega)
    refine e_aR (SH_k sh kb5) (SH_n sh nb6) (by omega) (by decide) (SH_r sh rb8) ?_
    refine e_gI (SH_k sh kb9) (fun v11 hv12 => ?_)
    refine e_ldI g3 ?_
    refine e_ifc ?_ ?_
    · refine e_ldA g0 ?_
      refine e_gR (SH_k sh k0) (SH_r sh rb4) ?_
      refine e_ldI g3 ?_
      refine e_aR (SH_k sh kb5) (SH_n sh nb6) (by omega) (by decide) (SH_r sh rb8) ?_
      refine e_ldA g2 ?_
      refine And.intro (SH_k sh kb9) (And.intro ⟨by decide, by decide⟩ (z_X5_isLike (TY_SH hT sh) ir (SH_k sh kb9) (SH_k sh k2) (fun n17 S13 s14 ir15 hn18 => ?_)))
      have sh16 := SH.tr sh s14 (by decide)
      refine e_ifN (by omega) (fun h19 => ?_) (fun h19 => ?_)
      · obtain ⟨q20, rfl⟩ : ∃ q, n = q + 1 := ⟨n - 1, by omega⟩
        refine u_X1_bundleOf_51 ?_
        unfold bX1_bundleOf_51
        refine e_inc g3 ?_
        exact t_18 q20 (by omega) _ _ x0 i1 x2 (i3 + 1) (lvg_ne g0 rfl (by decide)) k0 (lvg_ne g1 rfl (by decide)) (by omega) (lvg_ne g2 rfl (by decide)) k2 lvg_self (by omega) sh16 ir15 (by omega)
      · refine e_ldI g3 ?_
        exact e_rI (K _ _ sh16 ir15)
    · obtain ⟨q21, rfl⟩ : ∃ q, n = q + 1 := ⟨n - 1, by omega⟩
      refine u_X1_bundleOf_51 ?_
      unfold bX1_bundleOf_51
      refine e_inc g3 ?_
      exact t_18 q21 (by omega) _ _ x0 i1 x2 (i3 + 1) (lvg_ne g0 rfl (by decide)) k0 (lvg_ne g1 rfl (by decide)) (by omega) (lvg_ne g2 rfl (by decide)) k2 lvg_self (by omega) sh ir (by omega)
theorem A_X1_bundleOf {Q : Option Value → MM → Prop} {S0 : MM} (hT : TY S0) (K : ∀ r S', SH [] S0 S' → IR S' → Q (some (.int r)) S') : ∀ n k, k ≤ n → P_X1_bundleOf_0 Q S0 k ∧ P_X1_bundleOf_18 Q S0 k := by
  intro n
  induction n with
  | zero =>
    intro k hk
    have e : k = 0 := by omega
    subst e
    exact ⟨(fun lv S x0 i1 _ _ _ _ _ _ hF => absurd hF (by omega)), (fun lv S x0 i1 x2 i3 _ _ _ _ _ _ _ _ _ _ hF => absurd hF (by omega))⟩
  | succ n ih =>
    intro k hk
    by_cases hn : k ≤ n
    · exact ih k hn
    · have e : k = n + 1 := by omega
      subst e
      have T_0 : ∀ k, k ≤ n → P_X1_bundleOf_0 Q S0 k := fun k hk => (ih k hk).1
      have T_18 : ∀ k, k ≤ n → P_X1_bundleOf_18 Q S0 k := fun k hk => (ih k hk).2
      exact ⟨B_X1_bundleOf_0 hT K T_18, B_X1_bundleOf_18 hT K T_18⟩
theorem z_X1_bundleOf {Q : Option Value → MM → Prop} {S0 : MM} {x0 : Nat} {i1 : Nat} (hT : TY S0) (ir : IR S0) (k0 : sK S0 x0 = 2) (h1 : i1 < 8) (K : ∀ r S', SH [] S0 S' → IR S' → Q (some (.int r)) S') : wX1_bundleOf [.ref x0, .int (nI i1)] S0 Q := by
  exact Exists.intro 496 ((A_X1_bundleOf hT K 496 496 (Nat.le_refl _)).1 _ S0 x0 i1 rfl k0 rfl h1 SH.rf ir (by omega))
theorem u_X1_countAhead_0 {Q : Option Value → MM → Prop} {n : Nat} {lv : Lv} {st : List Value} {S : MM} {c z : Nat} (h : bX1_countAhead_0 Q (wpn (kX1_countAhead Q) n) lv st S c z) : wpn (kX1_countAhead Q) (n + 1) 0 lv st S c z := h
theorem u_X1_countAhead_5 {Q : Option Value → MM → Prop} {n : Nat} {lv : Lv} {st : List Value} {S : MM} {c z : Nat} (h : bX1_countAhead_5 Q (wpn (kX1_countAhead Q) n) lv st S c z) : wpn (kX1_countAhead Q) (n + 1) 5 lv st S c z := h
theorem u_X1_countAhead_47 {Q : Option Value → MM → Prop} {n : Nat} {lv : Lv} {st : List Value} {S : MM} {c z : Nat} (h : bX1_countAhead_47 Q (wpn (kX1_countAhead Q) n) lv st S c z) : wpn (kX1_countAhead Q) (n + 1) 47 lv st S c z := h
theorem u_X1_countAhead_53 {Q : Option Value → MM → Prop} {n : Nat} {lv : Lv} {st : List Value} {S : MM} {c z : Nat} (h : bX1_countAhead_53 Q (wpn (kX1_countAhead Q) n) lv st S c z) : wpn (kX1_countAhead Q) (n + 1) 53 lv st S c z := h
def P_X1_countAhead_0 (Q : Option Value → MM → Prop) (S0 : MM) (n : Nat) : Prop := ∀ (lv : Lv) (S : MM) (x0 : Nat) (x1 : Nat) (i2 : Nat), lvg lv 0 = some (.ref x0) → sK S0 x0 = 2 → lvg lv 1 = some (.ref x1) → sK S0 x1 = 6 → lvg lv 2 = some (.int (nI i2)) → i2 < 2 → SH [] S0 S → IR S → 558 ≤ n → wpn (kX1_countAhead Q) n 0 lv [] S 0 0
def P_X1_countAhead_5 (Q : Option Value → MM → Prop) (S0 : MM) (n : Nat) : Prop := ∀ (lv : Lv) (S : MM) (x0 : Nat) (x1 : Nat) (i2 : Nat) (w3 : Int32) (i4 : Nat), lvg lv 0 = some (.ref x0) → sK S0 x0 = 2 → lvg lv 1 = some (.ref x1) → sK S0 x1 = 6 → lvg lv 2 = some (.int (nI i2)) → i2 < 2 → lvg lv 3 = some (.int w3) → lvg lv 4 = some (.int (nI i4)) → i4 < 9 → SH [] S0 S → IR S → 31 + 62 * (8 - i4) ≤ n → wpn (kX1_countAhead Q) n 5 lv [] S 0 0
theorem B_X1_countAhead_0 {Q : Option Value → MM → Prop} {S0 : MM} {n : Nat} (hT : TY S0) (K : ∀ r S', SH [] S0 S' → IR S' → Q (some (.int r)) S') (t_5 : ∀ k, k ≤ n → P_X1_countAhead_5 Q S0 k) : P_X1_countAhead_0 Q S0 (n + 1) := by
  intro lv S x0 x1 i2 g0 k0 g1 k1 g2 h2 sh ir hF
  refine u_X1_countAhead_0 ?_
  unfold bX1_countAhead_0
  refine e_cN 0 rfl ?_
  refine e_stI ?_
  refine e_cN 0 rfl ?_
  refine e_stI ?_
  exact t_5 n (by omega) _ _ x0 x1 i2 _ 0 (lvg_ne (lvg_ne g0 rfl (by decide)) rfl (by decide)) k0 (lvg_ne (lvg_ne g1 rfl (by decide)) rfl (by decide)) k1 (lvg_ne (lvg_ne g2 rfl (by decide)) rfl (by decide)) (by omega) (lvg_ne lvg_self rfl (by decide)) lvg_self (by omega) sh ir (by omega)
theorem B_X1_countAhead_5 {Q : Option Value → MM → Prop} {S0 : MM} {n : Nat} (hT : TY S0) (K : ∀ r S', SH [] S0 S' → IR S' → Q (some (.int r)) S') (t_5 : ∀ k, k ≤ n → P_X1_countAhead_5 Q S0 k) : P_X1_countAhead_5 Q S0 (n + 1) := by
  intro lv S x0 x1 i2 w3 i4 g0 k0 g1 k1 g2 h2 g3 g4 h4 sh ir hF
  refine u_X1_countAhead_5 ?_
  unfold bX1_countAhead_5
  refine e_ldI g4 ?_
  refine e_cN 8 rfl ?_
  refine e_ge (by omega) (by omega) (fun h1 => ?_) (fun h1 => ?_)
  · obtain ⟨q2, rfl⟩ : ∃ q, n = q + 1 := ⟨n - 1, by omega⟩
    refine u_X1_countAhead_53 ?_
    unfold bX1_countAhead_53
    refine e_ldI g3 ?_
    exact e_rI (K _ _ sh ir)
  · refine e_ldA g0 ?_
    obtain ⟨b3, rb4, kb5, nb6⟩ := hT.1 x0 2 0 17 8 k0 rfl
    refine e_gR (SH_k sh k0) (SH_r sh rb4) ?_
    refine e_ldI g4 ?_
    obtain ⟨b7, rb8, kb9, nb10⟩ := hT.2.1 b3 17 8 6 i4 kb5 nb6 rfl (by omega)
    refine e_aR (SH_k sh kb5) (SH_n sh nb6) (by omega) (by decide) (SH_r sh rb8) ?_
    refine e_gI (SH_k sh kb9) (fun v11 hv12 => ?_)
    refine e_ldA g1 ?_
    refine e_gI (SH_k sh k1) (fun v13 hv14 => ?_)
    refine e_ifc ?_ ?_
    · refine e_ldA g0 ?_
      refine e_gR (SH_k sh k0) (SH_r sh rb4) ?_
      refine e_ldI g4 ?_
      refine e_aR (SH_k sh kb5) (SH_n sh nb6) (by omega) (by decide) (SH_r sh rb8) ?_
      refine e_ldA g1 ?_
      refine e_ldI g2 ?_
      refine And.intro (SH_k sh kb9) (And.intro ⟨by decide, by decide⟩ (z_X5_isAheadOf (TY_SH hT sh) ir (SH_k sh kb9) (SH_k sh k1) (show i2 < 2 by omega) (fun n19 S15 s16 ir17 hn20 => ?_)))
      have sh18 := SH.tr sh s16 (by decide)
      refine e_ifN (by omega) (fun h21 => ?_) (fun h21 => ?_)
      · obtain ⟨q22, rfl⟩ : ∃ q, n = q + 1 := ⟨n - 1, by omega⟩
        refine u_X1_countAhead_47 ?_
        unfold bX1_countAhead_47
        refine e_inc g4 ?_
        exact t_5 q22 (by omega) _ _ x0 x1 i2 _ (i4 + 1) (lvg_ne g0 rfl (by decide)) k0 (lvg_ne g1 rfl (by decide)) k1 (lvg_ne g2 rfl (by decide)) (by omega) (lvg_ne g3 rfl (by decide)) lvg_self (by omega) sh18 ir17 (by omega)
      · refine e_incU g3 (fun r23 => ?_)
        obtain ⟨q24, rfl⟩ : ∃ q, n = q + 1 := ⟨n - 1, by omega⟩
        refine u_X1_countAhead_47 ?_
        unfold bX1_countAhead_47
        refine e_inc (lvg_ne g4 rfl (by decide)) ?_
        exact t_5 q24 (by omega) _ _ x0 x1 i2 _ (i4 + 1) (lvg_ne (lvg_ne g0 rfl (by decide)) rfl (by decide)) k0 (lvg_ne (lvg_ne g1 rfl (by decide)) rfl (by decide)) k1 (lvg_ne (lvg_ne g2 rfl (by decide)) rfl (by decide)) (by omega) (lvg_ne lvg_self rfl (by decide)) lvg_self (by omega) sh18 ir17 (by omega)
    · obtain ⟨q25, rfl⟩ : ∃ q, n = q + 1 := ⟨n - 1, by omega⟩
      refine u_X1_countAhead_47 ?_
      unfold bX1_countAhead_47
      refine e_inc g4 ?_
      exact t_5 q25 (by omega) _ _ x0 x1 i2 _ (i4 + 1) (lvg_ne g0 rfl (by decide)) k0 (lvg_ne g1 rfl (by decide)) k1 (lvg_ne g2 rfl (by decide)) (by omega) (lvg_ne g3 rfl (by decide)) lvg_self (by omega) sh ir (by omega)
theorem A_X1_countAhead {Q : Option Value → MM → Prop} {S0 : MM} (hT : TY S0) (K : ∀ r S', SH [] S0 S' → IR S' → Q (some (.int r)) S') : ∀ n k, k ≤ n → P_X1_countAhead_0 Q S0 k ∧ P_X1_countAhead_5 Q S0 k := by
  intro n
  induction n with
  | zero =>
    intro k hk
    have e : k = 0 := by omega
    subst e
    exact ⟨(fun lv S x0 x1 i2 _ _ _ _ _ _ _ _ hF => absurd hF (by omega)), (fun lv S x0 x1 i2 w3 i4 _ _ _ _ _ _ _ _ _ _ _ hF => absurd hF (by omega))⟩
  | succ n ih =>
    intro k hk
    by_cases hn : k ≤ n
    · exact ih k hn
    · have e : k = n + 1 := by omega
      subst e
      have T_0 : ∀ k, k ≤ n → P_X1_countAhead_0 Q S0 k := fun k hk => (ih k hk).1
      have T_5 : ∀ k, k ≤ n → P_X1_countAhead_5 Q S0 k := fun k hk => (ih k hk).2
      exact ⟨B_X1_countAhead_0 hT K T_5, B_X1_countAhead_5 hT K T_5⟩
theorem z_X1_countAhead {Q : Option Value → MM → Prop} {S0 : MM} {x0 : Nat} {x1 : Nat} {i2 : Nat} (hT : TY S0) (ir : IR S0) (k0 : sK S0 x0 = 2) (k1 : sK S0 x1 = 6) (h2 : i2 < 2) (K : ∀ r S', SH [] S0 S' → IR S' → Q (some (.int r)) S') : wX1_countAhead [.ref x0, .ref x1, .int (nI i2)] S0 Q := by
  exact Exists.intro 558 ((A_X1_countAhead hT K 558 558 (Nat.le_refl _)).1 _ S0 x0 x1 i2 rfl k0 rfl k1 rfl h2 SH.rf ir (by omega))
theorem u_X1_formBundles_0 {Q : Option Value → MM → Prop} {n : Nat} {lv : Lv} {st : List Value} {S : MM} {c z : Nat} (h : bX1_formBundles_0 Q (wpn (kX1_formBundles Q) n) lv st S c z) : wpn (kX1_formBundles Q) (n + 1) 0 lv st S c z := h
theorem u_X1_formBundles_2 {Q : Option Value → MM → Prop} {n : Nat} {lv : Lv} {st : List Value} {S : MM} {c z : Nat} (h : bX1_formBundles_2 Q (wpn (kX1_formBundles Q) n) lv st S c z) : wpn (kX1_formBundles Q) (n + 1) 2 lv st S c z := h
theorem u_X1_formBundles_49 {Q : Option Value → MM → Prop} {n : Nat} {lv : Lv} {st : List Value} {S : MM} {c z : Nat} (h : bX1_formBundles_49 Q (wpn (kX1_formBundles Q) n) lv st S c z) : wpn (kX1_formBundles Q) (n + 1) 49 lv st S c z := h
theorem u_X1_formBundles_61 {Q : Option Value → MM → Prop} {n : Nat} {lv : Lv} {st : List Value} {S : MM} {c z : Nat} (h : bX1_formBundles_61 Q (wpn (kX1_formBundles Q) n) lv st S c z) : wpn (kX1_formBundles Q) (n + 1) 61 lv st S c z := h
theorem u_X1_formBundles_63 {Q : Option Value → MM → Prop} {n : Nat} {lv : Lv} {st : List Value} {S : MM} {c z : Nat} (h : bX1_formBundles_63 Q (wpn (kX1_formBundles Q) n) lv st S c z) : wpn (kX1_formBundles Q) (n + 1) 63 lv st S c z := h
theorem u_X1_formBundles_102 {Q : Option Value → MM → Prop} {n : Nat} {lv : Lv} {st : List Value} {S : MM} {c z : Nat} (h : bX1_formBundles_102 Q (wpn (kX1_formBundles Q) n) lv st S c z) : wpn (kX1_formBundles Q) (n + 1) 102 lv st S c z := h
theorem u_X1_formBundles_103 {Q : Option Value → MM → Prop} {n : Nat} {lv : Lv} {st : List Value} {S : MM} {c z : Nat} (h : bX1_formBundles_103 Q (wpn (kX1_formBundles Q) n) lv st S c z) : wpn (kX1_formBundles Q) (n + 1) 103 lv st S c z := h
theorem u_X1_formBundles_112 {Q : Option Value → MM → Prop} {n : Nat} {lv : Lv} {st : List Value} {S : MM} {c z : Nat} (h : bX1_formBundles_112 Q (wpn (kX1_formBundles Q) n) lv st S c z) : wpn (kX1_formBundles Q) (n + 1) 112 lv st S c z := h
def P_X1_formBundles_0 (Q : Option Value → MM → Prop) (S0 : MM) (n : Nat) : Prop := ∀ (lv : Lv) (S : MM) (x0 : Nat) (i1 : Nat), lvg lv 0 = some (.ref x0) → sK S0 x0 = 2 → lvg lv 1 = some (.int (nI i1)) → i1 < 2 → SH [2, 6] S0 S → IR S → 5301 ≤ n → wpn (kX1_formBundles Q) n 0 lv [] S 0 0
def P_X1_formBundles_2 (Q : Option Value → MM → Prop) (S0 : MM) (n : Nat) : Prop := ∀ (lv : Lv) (S : MM) (x0 : Nat) (i1 : Nat) (i2 : Nat), lvg lv 0 = some (.ref x0) → sK S0 x0 = 2 → lvg lv 1 = some (.int (nI i1)) → i1 < 2 → lvg lv 2 = some (.int (nI i2)) → i2 < 9 → SH [2, 6] S0 S → IR S → 558 + 589 * (8 - i2) ≤ n → wpn (kX1_formBundles Q) n 2 lv [] S 0 0
def P_X1_formBundles_49 (Q : Option Value → MM → Prop) (S0 : MM) (n : Nat) : Prop := ∀ (lv : Lv) (S : MM) (x0 : Nat) (i1 : Nat) (i2 : Nat) (x3 : Nat) (w4 : Int32), lvg lv 0 = some (.ref x0) → sK S0 x0 = 2 → lvg lv 1 = some (.int (nI i1)) → i1 < 2 → lvg lv 2 = some (.int (nI i2)) → i2 < 8 → lvg lv 3 = some (.ref x3) → sK S0 x3 = 6 → lvg lv 4 = some (.int w4) → SH [2, 6] S0 S → IR S → 31 + 589 * (8 - i2) ≤ n → wpn (kX1_formBundles Q) n 49 lv [] S 0 0
def P_X1_formBundles_63 (Q : Option Value → MM → Prop) (S0 : MM) (n : Nat) : Prop := ∀ (lv : Lv) (S : MM) (x0 : Nat) (i1 : Nat) (i2 : Nat), lvg lv 0 = some (.ref x0) → sK S0 x0 = 2 → lvg lv 1 = some (.int (nI i1)) → i1 < 2 → lvg lv 2 = some (.int (nI i2)) → i2 < 9 → SH [2, 6] S0 S → IR S → 31 + 62 * (8 - i2) ≤ n → wpn (kX1_formBundles Q) n 63 lv [] S 0 0
theorem B_X1_formBundles_0 {Q : Option Value → MM → Prop} {S0 : MM} {n : Nat} (hT : TY S0) (K : ∀ S', SH [2, 6] S0 S' → IR S' → Q none S') (t_2 : ∀ k, k ≤ n → P_X1_formBundles_2 Q S0 k) : P_X1_formBundles_0 Q S0 (n + 1) := by
  intro lv S x0 i1 g0 k0 g1 h1 sh ir hF
  refine u_X1_formBundles_0 ?_
  unfold bX1_formBundles_0
  refine e_cN 0 rfl ?_
  refine e_stI ?_
  exact t_2 n (by omega) _ _ x0 i1 0 (lvg_ne g0 rfl (by decide)) k0 (lvg_ne g1 rfl (by decide)) (by omega) lvg_self (by omega) sh ir (by omega)
theorem B_X1_formBundles_2 {Q : Option Value → MM → Prop} {S0 : MM} {n : Nat} (hT : TY S0) (K : ∀ S', SH [2, 6] S0 S' → IR S' → Q none S') (t_49 : ∀ k, k ≤ n → P_X1_formBundles_49 Q S0 k) (t_63 : ∀ k, k ≤ n → P_X1_formBundles_63 Q S0 k) : P_X1_formBundles_2 Q S0 (n + 1) := by
  intro lv S x0 i1 i2 g0 k0 g1 h1 g2 h2 sh ir hF
  refine u_X1_formBundles_2 ?_
  unfold bX1_formBundles_2
  refine e_ldI g2 ?_
  refine e_cN 8 rfl ?_
  refine e_ge (by omega) (by omega) (fun h1 => ?_) (fun h1 => ?_)
  · obtain ⟨q2, rfl⟩ : ∃ q, n = q + 1 := ⟨n - 1, by omega⟩
    refine u_X1_formBundles_61 ?_
    unfold bX1_formBundles_61
    refine e_cN 0 rfl ?_
    refine e_stI ?_
    exact t_63 q2 (by omega) _ _ x0 i1 0 (lvg_ne g0 rfl (by decide)) k0 (lvg_ne g1 rfl (by decide)) (by omega) lvg_self (by omega) sh ir (by omega)
  · refine e_ldA g0 ?_
    obtain ⟨b3, rb4, kb5, nb6⟩ := hT.1 x0 2 0 17 8 k0 rfl
    refine e_gR (SH_k sh k0) (SH_r sh rb4) ?_
    refine e_ldI g2 ?_
    obtain ⟨b7, rb8, kb9, nb10⟩ := hT.2.1 b3 17 8 6 i2 kb5 nb6 rfl (by omega)
    refine e_aR (SH_k sh kb5) (SH_n sh nb6) (by omega) (by decide) (SH_r sh rb8) ?_
    refine e_stA ?_
    refine e_ldA (lvg_ne g0 rfl (by decide)) ?_
    refine e_ldI (lvg_ne g2 rfl (by decide)) ?_
    refine And.intro (SH_k sh k0) (And.intro ⟨by decide, by decide⟩ (z_X1_bundleOf (TY_SH hT sh) ir (SH_k sh k0) (show i2 < 8 by omega) (fun r15 S11 s12 ir13 => ?_)))
    have sh14 := SH.tr sh s12 (by decide)
    refine e_stI ?_
    refine e_ldA (lvg_ne lvg_self rfl (by decide)) ?_
    refine e_gI (SH_k sh14 kb9) (fun v16 hv17 => ?_)
    refine e_cN 4 rfl ?_
    refine e_ifc ?_ ?_
    · refine e_ldA (lvg_ne lvg_self rfl (by decide)) ?_
      refine e_gI (SH_k sh14 kb9) (fun v18 hv19 => ?_)
      refine e_ldI lvg_self ?_
      refine e_ifc ?_ ?_
      · exact t_49 n (by omega) _ _ x0 i1 i2 b7 _ (lvg_ne (lvg_ne g0 rfl (by decide)) rfl (by decide)) k0 (lvg_ne (lvg_ne g1 rfl (by decide)) rfl (by decide)) (by omega) (lvg_ne (lvg_ne g2 rfl (by decide)) rfl (by decide)) (by omega) (lvg_ne lvg_self rfl (by decide)) kb9 lvg_self sh14 ir13 (by omega)
      · refine e_ldA (lvg_ne (lvg_ne g0 rfl (by decide)) rfl (by decide)) ?_
        refine e_duA ?_
        refine e_gI (SH_k sh14 k0) (fun v20 hv21 => ?_)
        refine e_cN 1 rfl ?_
        refine e_bopU (fun r22 => ?_)
        refine y_tI (SH_k sh14 k0) sh14 ir13 (by decide) (by decide) (fun N e => nomatch (show (none : Option Nat) = some N from e)) (fun S23 he24 sh25 ir26 => ?_)
        exact t_49 n (by omega) _ _ x0 i1 i2 b7 _ (lvg_ne (lvg_ne g0 rfl (by decide)) rfl (by decide)) k0 (lvg_ne (lvg_ne g1 rfl (by decide)) rfl (by decide)) (by omega) (lvg_ne (lvg_ne g2 rfl (by decide)) rfl (by decide)) (by omega) (lvg_ne lvg_self rfl (by decide)) kb9 lvg_self sh25 ir26 (by omega)
    · exact t_49 n (by omega) _ _ x0 i1 i2 b7 _ (lvg_ne (lvg_ne g0 rfl (by decide)) rfl (by decide)) k0 (lvg_ne (lvg_ne g1 rfl (by decide)) rfl (by decide)) (by omega) (lvg_ne (lvg_ne g2 rfl (by decide)) rfl (by decide)) (by omega) (lvg_ne lvg_self rfl (by decide)) kb9 lvg_self sh14 ir13 (by omega)
theorem B_X1_formBundles_49 {Q : Option Value → MM → Prop} {S0 : MM} {n : Nat} (hT : TY S0) (K : ∀ S', SH [2, 6] S0 S' → IR S' → Q none S') (t_2 : ∀ k, k ≤ n → P_X1_formBundles_2 Q S0 k) : P_X1_formBundles_49 Q S0 (n + 1) := by
  intro lv S x0 i1 i2 x3 w4 g0 k0 g1 h1 g2 h2 g3 k3 g4 sh ir hF
  refine u_X1_formBundles_49 ?_
  unfold bX1_formBundles_49
  refine e_ldA g3 ?_
  refine e_ldI g4 ?_
  refine y_tI (SH_k sh k3) sh ir (by decide) (by decide) (fun N e => nomatch (show (none : Option Nat) = some N from e)) (fun S1 he2 sh3 ir4 => ?_)
  refine e_inc g2 ?_
  exact t_2 n (by omega) _ _ x0 i1 (i2 + 1) (lvg_ne g0 rfl (by decide)) k0 (lvg_ne g1 rfl (by decide)) (by omega) lvg_self (by omega) sh3 ir4 (by omega)
theorem B_X1_formBundles_63 {Q : Option Value → MM → Prop} {S0 : MM} {n : Nat} (hT : TY S0) (K : ∀ S', SH [2, 6] S0 S' → IR S' → Q none S') (t_63 : ∀ k, k ≤ n → P_X1_formBundles_63 Q S0 k) : P_X1_formBundles_63 Q S0 (n + 1) := by
  intro lv S x0 i1 i2 g0 k0 g1 h1 g2 h2 sh ir hF
  refine u_X1_formBundles_63 ?_
  unfold bX1_formBundles_63
  refine e_ldI g2 ?_
  refine e_cN 8 rfl ?_
  refine e_ge (by omega) (by omega) (fun h1 => ?_) (fun h1 => ?_)
  · obtain ⟨q2, rfl⟩ : ∃ q, n = q + 1 := ⟨n - 1, by omega⟩
    refine u_X1_formBundles_112 ?_
    unfold bX1_formBundles_112
    exact e_rV (K _ sh ir)
  · refine e_ldA g0 ?_
    obtain ⟨b3, rb4, kb5, nb6⟩ := hT.1 x0 2 0 17 8 k0 rfl
    refine e_gR (SH_k sh k0) (SH_r sh rb4) ?_
    refine e_ldI g2 ?_
    obtain ⟨b7, rb8, kb9, nb10⟩ := hT.2.1 b3 17 8 6 i2 kb5 nb6 rfl (by omega)
    refine e_aR (SH_k sh kb5) (SH_n sh nb6) (by omega) (by decide) (SH_r sh rb8) ?_
    refine e_stA ?_
    refine e_ldA lvg_self ?_
    refine e_ldA lvg_self ?_
    refine e_gI (SH_k sh kb9) (fun v11 hv12 => ?_)
    refine e_cI ?_
    refine e_ifc ?_ ?_
    · obtain ⟨q13, rfl⟩ : ∃ q, n = q + 1 := ⟨n - 1, by omega⟩
      refine u_X1_formBundles_102 ?_
      unfold bX1_formBundles_102
      refine e_cN 0 rfl ?_
      obtain ⟨q14, rfl⟩ : ∃ q, q13 = q + 1 := ⟨q13 - 1, by omega⟩
      refine u_X1_formBundles_103 ?_
      unfold bX1_formBundles_103
      refine y_tZ (SH_k sh kb9) (by omega) sh ir (by decide) (by decide) (fun N e => nomatch (show (none : Option Nat) = some N from e)) (fun S15 he16 sh17 ir18 => ?_)
      refine e_inc (lvg_ne g2 rfl (by decide)) ?_
      exact t_63 q14 (by omega) _ _ x0 i1 (i2 + 1) (lvg_ne (lvg_ne g0 rfl (by decide)) rfl (by decide)) k0 (lvg_ne (lvg_ne g1 rfl (by decide)) rfl (by decide)) (by omega) lvg_self (by omega) sh17 ir18 (by omega)
    · refine e_ldA (lvg_ne g0 rfl (by decide)) ?_
      refine e_ldA lvg_self ?_
      refine e_ldI (lvg_ne g1 rfl (by decide)) ?_
      refine And.intro (SH_k sh k0) (And.intro ⟨by decide, by decide⟩ (z_X1_countAhead (TY_SH hT sh) ir (SH_k sh k0) (SH_k sh kb9) (show i1 < 2 by omega) (fun r23 S19 s20 ir21 => ?_)))
      have sh22 := SH.tr sh s20 (by decide)
      refine e_ldA (lvg_ne g0 rfl (by decide)) ?_
      refine e_gI (SH_k sh22 k0) (fun v24 hv25 => ?_)
      refine e_ifc ?_ ?_
      · obtain ⟨q26, rfl⟩ : ∃ q, n = q + 1 := ⟨n - 1, by omega⟩
        refine u_X1_formBundles_102 ?_
        unfold bX1_formBundles_102
        refine e_cN 0 rfl ?_
        obtain ⟨q27, rfl⟩ : ∃ q, q26 = q + 1 := ⟨q26 - 1, by omega⟩
        refine u_X1_formBundles_103 ?_
        unfold bX1_formBundles_103
        refine y_tZ (SH_k sh22 kb9) (by omega) sh22 ir21 (by decide) (by decide) (fun N e => nomatch (show (none : Option Nat) = some N from e)) (fun S28 he29 sh30 ir31 => ?_)
        refine e_inc (lvg_ne g2 rfl (by decide)) ?_
        exact t_63 q27 (by omega) _ _ x0 i1 (i2 + 1) (lvg_ne (lvg_ne g0 rfl (by decide)) rfl (by decide)) k0 (lvg_ne (lvg_ne g1 rfl (by decide)) rfl (by decide)) (by omega) lvg_self (by omega) sh30 ir31 (by omega)
      · refine e_cN 1 rfl ?_
        obtain ⟨q32, rfl⟩ : ∃ q, n = q + 1 := ⟨n - 1, by omega⟩
        refine u_X1_formBundles_103 ?_
        unfold bX1_formBundles_103
        refine y_tZ (SH_k sh22 kb9) (by omega) sh22 ir21 (by decide) (by decide) (fun N e => nomatch (show (none : Option Nat) = some N from e)) (fun S33 he34 sh35 ir36 => ?_)
        refine e_inc (lvg_ne g2 rfl (by decide)) ?_
        exact t_63 q32 (by omega) _ _ x0 i1 (i2 + 1) (lvg_ne (lvg_ne g0 rfl (by decide)) rfl (by decide)) k0 (lvg_ne (lvg_ne g1 rfl (by decide)) rfl (by decide)) (by omega) lvg_self (by omega) sh35 ir36 (by omega)
theorem A_X1_formBundles {Q : Option Value → MM → Prop} {S0 : MM} (hT : TY S0) (K : ∀ S', SH [2, 6] S0 S' → IR S' → Q none S') : ∀ n k, k ≤ n → P_X1_formBundles_0 Q S0 k ∧ P_X1_formBundles_2 Q S0 k ∧ P_X1_formBundles_49 Q S0 k ∧ P_X1_formBundles_63 Q S0 k := by
  intro n
  induction n with
  | zero =>
    intro k hk
    have e : k = 0 := by omega
    subst e
    exact ⟨(fun lv S x0 i1 _ _ _ _ _ _ hF => absurd hF (by omega)), (fun lv S x0 i1 i2 _ _ _ _ _ _ _ _ hF => absurd hF (by omega)), (fun lv S x0 i1 i2 x3 w4 _ _ _ _ _ _ _ _ _ _ _ hF => absurd hF (by omega)), (fun lv S x0 i1 i2 _ _ _ _ _ _ _ _ hF => absurd hF (by omega))⟩
  | succ n ih =>
    intro k hk
    by_cases hn : k ≤ n
    · exact ih k hn
    · have e : k = n + 1 := by omega
      subst e
      have T_0 : ∀ k, k ≤ n → P_X1_formBundles_0 Q S0 k := fun k hk => (ih k hk).1
      have T_2 : ∀ k, k ≤ n → P_X1_formBundles_2 Q S0 k := fun k hk => (ih k hk).2.1
      have T_49 : ∀ k, k ≤ n → P_X1_formBundles_49 Q S0 k := fun k hk => (ih k hk).2.2.1
      have T_63 : ∀ k, k ≤ n → P_X1_formBundles_63 Q S0 k := fun k hk => (ih k hk).2.2.2
      exact ⟨B_X1_formBundles_0 hT K T_2, B_X1_formBundles_2 hT K T_49 T_63, B_X1_formBundles_49 hT K T_2, B_X1_formBundles_63 hT K T_63⟩
theorem z_X1_formBundles {Q : Option Value → MM → Prop} {S0 : MM} {x0 : Nat} {i1 : Nat} (hT : TY S0) (ir : IR S0) (k0 : sK S0 x0 = 2) (h1 : i1 < 2) (K : ∀ S', SH [2, 6] S0 S' → IR S' → Q none S') : wX1_formBundles [.ref x0, .int (nI i1)] S0 Q := by
  exact Exists.intro 5301 ((A_X1_formBundles hT K 5301 5301 (Nat.le_refl _)).1 _ S0 x0 i1 rfl k0 rfl h1 SH.rf ir (by omega))
theorem u_X1_giverOf_0 {Q : Option Value → MM → Prop} {n : Nat} {lv : Lv} {st : List Value} {S : MM} {c z : Nat} (h : bX1_giverOf_0 Q (wpn (kX1_giverOf Q) n) lv st S c z) : wpn (kX1_giverOf Q) (n + 1) 0 lv st S c z := h
theorem u_X1_giverOf_5 {Q : Option Value → MM → Prop} {n : Nat} {lv : Lv} {st : List Value} {S : MM} {c z : Nat} (h : bX1_giverOf_5 Q (wpn (kX1_giverOf Q) n) lv st S c z) : wpn (kX1_giverOf Q) (n + 1) 5 lv st S c z := h
theorem u_X1_giverOf_29 {Q : Option Value → MM → Prop} {n : Nat} {lv : Lv} {st : List Value} {S : MM} {c z : Nat} (h : bX1_giverOf_29 Q (wpn (kX1_giverOf Q) n) lv st S c z) : wpn (kX1_giverOf Q) (n + 1) 29 lv st S c z := h
theorem u_X1_giverOf_35 {Q : Option Value → MM → Prop} {n : Nat} {lv : Lv} {st : List Value} {S : MM} {c z : Nat} (h : bX1_giverOf_35 Q (wpn (kX1_giverOf Q) n) lv st S c z) : wpn (kX1_giverOf Q) (n + 1) 35 lv st S c z := h
theorem u_X1_giverOf_41 {Q : Option Value → MM → Prop} {n : Nat} {lv : Lv} {st : List Value} {S : MM} {c z : Nat} (h : bX1_giverOf_41 Q (wpn (kX1_giverOf Q) n) lv st S c z) : wpn (kX1_giverOf Q) (n + 1) 41 lv st S c z := h
theorem u_X1_giverOf_49 {Q : Option Value → MM → Prop} {n : Nat} {lv : Lv} {st : List Value} {S : MM} {c z : Nat} (h : bX1_giverOf_49 Q (wpn (kX1_giverOf Q) n) lv st S c z) : wpn (kX1_giverOf Q) (n + 1) 49 lv st S c z := h
theorem u_X1_giverOf_83 {Q : Option Value → MM → Prop} {n : Nat} {lv : Lv} {st : List Value} {S : MM} {c z : Nat} (h : bX1_giverOf_83 Q (wpn (kX1_giverOf Q) n) lv st S c z) : wpn (kX1_giverOf Q) (n + 1) 83 lv st S c z := h
theorem u_X1_giverOf_86 {Q : Option Value → MM → Prop} {n : Nat} {lv : Lv} {st : List Value} {S : MM} {c z : Nat} (h : bX1_giverOf_86 Q (wpn (kX1_giverOf Q) n) lv st S c z) : wpn (kX1_giverOf Q) (n + 1) 86 lv st S c z := h
theorem u_X1_giverOf_92 {Q : Option Value → MM → Prop} {n : Nat} {lv : Lv} {st : List Value} {S : MM} {c z : Nat} (h : bX1_giverOf_92 Q (wpn (kX1_giverOf Q) n) lv st S c z) : wpn (kX1_giverOf Q) (n + 1) 92 lv st S c z := h
def P_X1_giverOf_0 (Q : Option Value → MM → Prop) (S0 : MM) (n : Nat) : Prop := ∀ (lv : Lv) (S : MM) (x0 : Nat) (w1 : Int32) (w2 : Int32), lvg lv 0 = some (.ref x0) → sK S0 x0 = 2 → lvg lv 1 = some (.int w1) → lvg lv 2 = some (.int w2) → SH [] S0 S → IR S → 5301 ≤ n → wpn (kX1_giverOf Q) n 0 lv [] S 0 0
def P_X1_giverOf_5 (Q : Option Value → MM → Prop) (S0 : MM) (n : Nat) : Prop := ∀ (lv : Lv) (S : MM) (x0 : Nat) (w1 : Int32) (w2 : Int32) (w3 : Int32) (i4 : Nat), lvg lv 0 = some (.ref x0) → sK S0 x0 = 2 → lvg lv 1 = some (.int w1) → lvg lv 2 = some (.int w2) → lvg lv 3 = some (.int w3) → lvg lv 4 = some (.int (nI i4)) → i4 < 9 → SH [] S0 S → IR S → 558 + 589 * (8 - i4) ≤ n → wpn (kX1_giverOf Q) n 5 lv [] S 0 0
def P_X1_giverOf_49 (Q : Option Value → MM → Prop) (S0 : MM) (n : Nat) : Prop := ∀ (lv : Lv) (S : MM) (x0 : Nat) (w1 : Int32) (w2 : Int32) (w3 : Int32) (w4 : Int32) (i5 : Nat), lvg lv 0 = some (.ref x0) → sK S0 x0 = 2 → lvg lv 1 = some (.int w1) → lvg lv 2 = some (.int w2) → lvg lv 3 = some (.int w3) → lvg lv 4 = some (.int w4) → lvg lv 5 = some (.int (nI i5)) → i5 < 9 → SH [] S0 S → IR S → 31 + 62 * (8 - i5) ≤ n → wpn (kX1_giverOf Q) n 49 lv [] S 0 0
theorem B_X1_giverOf_0 {Q : Option Value → MM → Prop} {S0 : MM} {n : Nat} (hT : TY S0) (K0 : ∀ S', SH [] S0 S' → IR S' → Q (some .null) S') (K1 : ∀ b S', SH [] S0 S' → IR S' → sK S0 b = 6 → Q (some (.ref b)) S') (t_5 : ∀ k, k ≤ n → P_X1_giverOf_5 Q S0 k) : P_X1_giverOf_0 Q S0 (n + 1) := by
  intro lv S x0 w1 w2 g0 k0 g1 g2 sh ir hF
  refine u_X1_giverOf_0 ?_
  unfold bX1_giverOf_0
  refine e_cN 0 rfl ?_
  refine e_stI ?_
  refine e_cN 0 rfl ?_
  refine e_stI ?_
  exact t_5 n (by omega) _ _ x0 _ _ _ 0 (lvg_ne (lvg_ne g0 rfl (by decide)) rfl (by decide)) k0 (lvg_ne (lvg_ne g1 rfl (by decide)) rfl (by decide)) (lvg_ne (lvg_ne g2 rfl (by decide)) rfl (by decide)) (lvg_ne lvg_self rfl (by decide)) lvg_self (by omega) sh ir (by omega)
theorem B_X1_giverOf_5 {Q : Option Value → MM → Prop} {S0 : MM} {n : Nat} (hT : TY S0) (K0 : ∀ S', SH [] S0 S' → IR S' → Q (some .null) S') (K1 : ∀ b S', SH [] S0 S' → IR S' → sK S0 b = 6 → Q (some (.ref b)) S') (t_5 : ∀ k, k ≤ n → P_X1_giverOf_5 Q S0 k) (t_49 : ∀ k, k ≤ n → P_X1_giverOf_49 Q S0 k) : P_X1_giverOf_5 Q S0 (n + 1) := by
  intro lv S x0 w1 w2 w3 i4 g0 k0 g1 g2 g3 g4 h4 sh ir hF
  refine u_X1_giverOf_5 ?_
  unfold bX1_giverOf_5
  refine e_ldI g4 ?_
  refine e_cN 8 rfl ?_
  refine e_ge (by omega) (by omega) (fun h1 => ?_) (fun h1 => ?_)
  · obtain ⟨q2, rfl⟩ : ∃ q, n = q + 1 := ⟨n - 1, by omega⟩
    refine u_X1_giverOf_35 ?_
    unfold bX1_giverOf_35
    refine e_ldI g3 ?_
    refine e_if0 (fun h3 => ?_) (fun h3 => ?_)
    · refine e_nul ?_
      exact e_rN (K0 _ sh ir)
    · obtain ⟨q4, rfl⟩ : ∃ q, q2 = q + 1 := ⟨q2 - 1, by omega⟩
      refine u_X1_giverOf_41 ?_
      unfold bX1_giverOf_41
      refine e_ldI g2 ?_
      refine e_ldI g3 ?_
      refine e_bodU (by first | assumption | exact nI_n0 (by omega) (by omega)) (fun r5 => ?_)
      refine e_stI ?_
      refine e_cN 0 rfl ?_
      refine e_stI ?_
      exact t_49 q4 (by omega) _ _ x0 _ _ _ _ 0 (lvg_ne (lvg_ne g0 rfl (by decide)) rfl (by decide)) k0 (lvg_ne (lvg_ne g1 rfl (by decide)) rfl (by decide)) (lvg_ne (lvg_ne g2 rfl (by decide)) rfl (by decide)) (lvg_ne (lvg_ne g3 rfl (by decide)) rfl (by decide)) (lvg_ne lvg_self rfl (by decide)) lvg_self (by omega) sh ir (by omega)
  · refine e_ldA g0 ?_
    obtain ⟨b6, rb7, kb8, nb9⟩ := hT.1 x0 2 0 17 8 k0 rfl
    refine e_gR (SH_k sh k0) (SH_r sh rb7) ?_
    refine e_ldI g4 ?_
    obtain ⟨b10, rb11, kb12, nb13⟩ := hT.2.1 b6 17 8 6 i4 kb8 nb9 rfl (by omega)
    refine e_aR (SH_k sh kb8) (SH_n sh nb9) (by omega) (by decide) (SH_r sh rb11) ?_
    refine e_ldI g1 ?_
    refine And.intro (SH_k sh kb12) (And.intro ⟨by decide, by decide⟩ (z_X5_gives (TY_SH hT sh) ir (SH_k sh kb12) (fun n18 S14 s15 ir16 hn19 => ?_)))
    have sh17 := SH.tr sh s15 (by decide)
    refine e_ifN (by omega) (fun h20 => ?_) (fun h20 => ?_)
    · obtain ⟨q21, rfl⟩ : ∃ q, n = q + 1 := ⟨n - 1, by omega⟩
      refine u_X1_giverOf_29 ?_
      unfold bX1_giverOf_29
      refine e_inc g4 ?_
      exact t_5 q21 (by omega) _ _ x0 _ _ _ (i4 + 1) (lvg_ne g0 rfl (by decide)) k0 (lvg_ne g1 rfl (by decide)) (lvg_ne g2 rfl (by decide)) (lvg_ne g3 rfl (by decide)) lvg_self (by omega) sh17 ir16 (by omega)
    · refine e_incU g3 (fun r22 => ?_)
      obtain ⟨q23, rfl⟩ : ∃ q, n = q + 1 := ⟨n - 1, by omega⟩
      refine u_X1_giverOf_29 ?_
      unfold bX1_giverOf_29
      refine e_inc (lvg_ne g4 rfl (by decide)) ?_
      exact t_5 q23 (by omega) _ _ x0 _ _ _ (i4 + 1) (lvg_ne (lvg_ne g0 rfl (by decide)) rfl (by decide)) k0 (lvg_ne (lvg_ne g1 rfl (by decide)) rfl (by decide)) (lvg_ne (lvg_ne g2 rfl (by decide)) rfl (by decide)) (lvg_ne lvg_self rfl (by decide)) lvg_self (by omega) sh17 ir16 (by omega)
theorem B_X1_giverOf_49 {Q : Option Value → MM → Prop} {S0 : MM} {n : Nat} (hT : TY S0) (K0 : ∀ S', SH [] S0 S' → IR S' → Q (some .null) S') (K1 : ∀ b S', SH [] S0 S' → IR S' → sK S0 b = 6 → Q (some (.ref b)) S') (t_49 : ∀ k, k ≤ n → P_X1_giverOf_49 Q S0 k) : P_X1_giverOf_49 Q S0 (n + 1) := by
  intro lv S x0 w1 w2 w3 w4 i5 g0 k0 g1 g2 g3 g4 g5 h5 sh ir hF
  refine u_X1_giverOf_49 ?_
  unfold bX1_giverOf_49
  refine e_ldI g5 ?_
  refine e_cN 8 rfl ?_
  refine e_ge (by omega) (by omega) (fun h1 => ?_) (fun h1 => ?_)
  · obtain ⟨q2, rfl⟩ : ∃ q, n = q + 1 := ⟨n - 1, by omega⟩
    refine u_X1_giverOf_92 ?_
    unfold bX1_giverOf_92
    refine e_nul ?_
    exact e_rN (K0 _ sh ir)
  · refine e_ldA g0 ?_
    obtain ⟨b3, rb4, kb5, nb6⟩ := hT.1 x0 2 0 17 8 k0 rfl
    refine e_gR (SH_k sh k0) (SH_r sh rb4) ?_
    refine e_ldI g5 ?_
    obtain ⟨b7, rb8, kb9, nb10⟩ := hT.2.1 b3 17 8 6 i5 kb5 nb6 rfl (by omega)
    refine e_aR (SH_k sh kb5) (SH_n sh nb6) (by omega) (by decide) (SH_r sh rb8) ?_
    refine e_ldI g1 ?_
    refine And.intro (SH_k sh kb9) (And.intro ⟨by decide, by decide⟩ (z_X5_gives (TY_SH hT sh) ir (SH_k sh kb9) (fun n15 S11 s12 ir13 hn16 => ?_)))
    have sh14 := SH.tr sh s12 (by decide)
    refine e_ifN (by omega) (fun h17 => ?_) (fun h17 => ?_)
    · obtain ⟨q18, rfl⟩ : ∃ q, n = q + 1 := ⟨n - 1, by omega⟩
      refine u_X1_giverOf_86 ?_
      unfold bX1_giverOf_86
      refine e_inc g5 ?_
      exact t_49 q18 (by omega) _ _ x0 _ _ _ _ (i5 + 1) (lvg_ne g0 rfl (by decide)) k0 (lvg_ne g1 rfl (by decide)) (lvg_ne g2 rfl (by decide)) (lvg_ne g3 rfl (by decide)) (lvg_ne g4 rfl (by decide)) lvg_self (by omega) sh14 ir13 (by omega)
    · refine e_ldI g4 ?_
      refine e_if0 (fun h19 => ?_) (fun h19 => ?_)
      · refine e_ldA g0 ?_
        refine e_gR (SH_k sh14 k0) (SH_r sh14 rb4) ?_
        refine e_ldI g5 ?_
        refine e_aR (SH_k sh14 kb5) (SH_n sh14 nb6) (by omega) (by decide) (SH_r sh14 rb8) ?_
        exact e_rA (K1 b7 _ sh14 ir13 kb9)
      · obtain ⟨q20, rfl⟩ : ∃ q, n = q + 1 := ⟨n - 1, by omega⟩
        refine u_X1_giverOf_83 ?_
        unfold bX1_giverOf_83
        refine e_incU g4 (fun r21 => ?_)
        obtain ⟨q22, rfl⟩ : ∃ q, q20 = q + 1 := ⟨q20 - 1, by omega⟩
        refine u_X1_giverOf_86 ?_
        unfold bX1_giverOf_86
        refine e_inc (lvg_ne g5 rfl (by decide)) ?_
        exact t_49 q22 (by omega) _ _ x0 _ _ _ _ (i5 + 1) (lvg_ne (lvg_ne g0 rfl (by decide)) rfl (by decide)) k0 (lvg_ne (lvg_ne g1 rfl (by decide)) rfl (by decide)) (lvg_ne (lvg_ne g2 rfl (by decide)) rfl (by decide)) (lvg_ne (lvg_ne g3 rfl (by decide)) rfl (by decide)) (lvg_ne lvg_self rfl (by decide)) lvg_self (by omega) sh14 ir13 (by omega)
theorem A_X1_giverOf {Q : Option Value → MM → Prop} {S0 : MM} (hT : TY S0) (K0 : ∀ S', SH [] S0 S' → IR S' → Q (some .null) S') (K1 : ∀ b S', SH [] S0 S' → IR S' → sK S0 b = 6 → Q (some (.ref b)) S') : ∀ n k, k ≤ n → P_X1_giverOf_0 Q S0 k ∧ P_X1_giverOf_5 Q S0 k ∧ P_X1_giverOf_49 Q S0 k := by
  intro n
  induction n with
  | zero =>
    intro k hk
    have e : k = 0 := by omega
    subst e
    exact ⟨(fun lv S x0 w1 w2 _ _ _ _ _ _ hF => absurd hF (by omega)), (fun lv S x0 w1 w2 w3 i4 _ _ _ _ _ _ _ _ _ hF => absurd hF (by omega)), (fun lv S x0 w1 w2 w3 w4 i5 _ _ _ _ _ _ _ _ _ _ hF => absurd hF (by omega))⟩
  | succ n ih =>
    intro k hk
    by_cases hn : k ≤ n
    · exact ih k hn
    · have e : k = n + 1 := by omega
      subst e
      have T_0 : ∀ k, k ≤ n → P_X1_giverOf_0 Q S0 k := fun k hk => (ih k hk).1
      have T_5 : ∀ k, k ≤ n → P_X1_giverOf_5 Q S0 k := fun k hk => (ih k hk).2.1
      have T_49 : ∀ k, k ≤ n → P_X1_giverOf_49 Q S0 k := fun k hk => (ih k hk).2.2
      exact ⟨B_X1_giverOf_0 hT K0 K1 T_5, B_X1_giverOf_5 hT K0 K1 T_5 T_49, B_X1_giverOf_49 hT K0 K1 T_49⟩
theorem z_X1_giverOf {Q : Option Value → MM → Prop} {S0 : MM} {x0 : Nat} {w1 : Int32} {w2 : Int32} (hT : TY S0) (ir : IR S0) (k0 : sK S0 x0 = 2) (K0 : ∀ S', SH [] S0 S' → IR S' → Q (some .null) S') (K1 : ∀ b S', SH [] S0 S' → IR S' → sK S0 b = 6 → Q (some (.ref b)) S') : wX1_giverOf [.ref x0, .int w1, .int w2] S0 Q := by
  exact Exists.intro 5301 ((A_X1_giverOf hT K0 K1 5301 5301 (Nat.le_refl _)).1 _ S0 x0 w1 w2 rfl k0 rfl rfl SH.rf ir (by omega))
theorem u_X3_clear_0 {Q : Option Value → MM → Prop} {n : Nat} {lv : Lv} {st : List Value} {S : MM} {c z : Nat} (h : bX3_clear_0 Q (wpn (kX3_clear Q) n) lv st S c z) : wpn (kX3_clear Q) (n + 1) 0 lv st S c z := h
theorem z_X3_clear {Q : Option Value → MM → Prop} {S0 : MM} {x0 : Nat} (hT : TY S0) (ir : IR S0) (k0 : sK S0 x0 = 4) (K : ∀ S', SH [4] S0 S' → IR S' → Q none S') : wX3_clear [.ref x0] S0 Q := by
  have sh : SH [4] S0 S0 := SH.rf
  refine Exists.intro 40 (u_X3_clear_0 ?_)
  unfold bX3_clear_0
  refine e_ldA rfl ?_
  refine e_cN 0 rfl ?_
  refine y_tI (SH_k sh k0) sh ir (by decide) (by decide) (fun N e => by have e2 : some 9 = some N := e; cases e2; exact ⟨0, by omega, rfl⟩) (fun S1 he2 sh3 ir4 => ?_)
  refine e_ldA rfl ?_
  refine e_cN 0 rfl ?_
  refine y_tI (SH_k sh3 k0) sh3 ir4 (by decide) (by decide) (fun N e => by have e2 : some 201 = some N := e; cases e2; exact ⟨0, by omega, rfl⟩) (fun S5 he6 sh7 ir8 => ?_)
  exact e_rV (K _ sh7 ir8)
theorem u_X3_addNote_0 {Q : Option Value → MM → Prop} {n : Nat} {lv : Lv} {st : List Value} {S : MM} {c z : Nat} (h : bX3_addNote_0 Q (wpn (kX3_addNote Q) n) lv st S c z) : wpn (kX3_addNote Q) (n + 1) 0 lv st S c z := h
theorem u_X3_addNote_10 {Q : Option Value → MM → Prop} {n : Nat} {lv : Lv} {st : List Value} {S : MM} {c z : Nat} (h : bX3_addNote_10 Q (wpn (kX3_addNote Q) n) lv st S c z) : wpn (kX3_addNote Q) (n + 1) 10 lv st S c z := h
theorem z_X3_addNote {Q : Option Value → MM → Prop} {S0 : MM} {x0 : Nat} {x1 : Nat} {w2 : Int32} (hT : TY S0) (ir : IR S0) (k0 : sK S0 x0 = 4) (k1 : sK S0 x1 = 6) (K : ∀ S', SH [4, 5, 7] S0 S' → IR S' → Q none S') : wX3_addNote [.ref x0, .ref x1, .int w2] S0 Q := by
  have sh : SH [4, 5, 7] S0 S0 := SH.rf
  refine Exists.intro 40 (u_X3_addNote_0 ?_)
  unfold bX3_addNote_0
  refine e_ldA rfl ?_
  obtain ⟨n1, hn2, vn3⟩ := ir x0 4 2 9 (SH_k sh k0) rfl
  refine e_gV (SH_k sh k0) vn3 ?_
  refine e_cN 8 rfl ?_
  refine e_lt (by omega) (by omega) (fun h4 => ?_) (fun h4 => ?_)
  · refine u_X3_addNote_10 ?_
    unfold bX3_addNote_10
    refine e_ldA rfl ?_
    obtain ⟨b5, rb6, kb7, nb8⟩ := hT.1 x0 4 0 16 8 k0 rfl
    refine e_gR (SH_k sh k0) (SH_r sh rb6) ?_
    refine e_ldA rfl ?_
    obtain ⟨n9, hn10, vn11⟩ := ir x0 4 1 8 (SH_k sh k0) rfl
    refine e_gV (SH_k sh k0) vn11 ?_
    refine e_ldA rfl ?_
    refine e_gV (v := nI n1) (SH_k sh k0) vn3 ?_
    refine e_add ?_
    refine e_cN 8 rfl ?_
    refine e_rem (by omega) (by decide) (by decide) ?_
    obtain ⟨b12, rb13, kb14, nb15⟩ := hT.2.1 b5 16 8 5 ((n9 + n1) % 8) kb7 nb8 rfl (by omega)
    refine e_aR (SH_k sh kb7) (SH_n sh nb8) (by omega) (by decide) (SH_r sh rb13) ?_
    refine e_stA ?_
    refine e_ldA lvg_self ?_
    obtain ⟨b16, rb17, kb18, nb19⟩ := hT.1 b12 5 0 7 0 kb14 rfl
    refine e_gR (SH_k sh kb14) (SH_r sh rb17) ?_
    refine e_ldA (lvg_ne rfl rfl (by decide)) ?_
    obtain ⟨b20, rb21, kb22, nb23⟩ := hT.1 x1 6 0 7 0 k1 rfl
    refine e_gR (SH_k sh k1) (SH_r sh rb21) ?_
    refine And.intro (SH_k sh kb18) (And.intro ⟨by decide, by decide⟩ (z_X6_copyFrom (TY_SH hT sh) ir (SH_k sh kb18) (SH_k sh kb22) (fun S24 s25 ir26 => ?_)))
    have sh27 := SH.tr sh s25 (by decide)
    refine e_ldA lvg_self ?_
    obtain ⟨b28, rb29, kb30, nb31⟩ := hT.1 b12 5 1 7 0 kb14 rfl
    refine e_gR (SH_k sh27 kb14) (SH_r sh27 rb29) ?_
    refine e_ldA (lvg_ne rfl rfl (by decide)) ?_
    obtain ⟨b32, rb33, kb34, nb35⟩ := hT.1 x1 6 1 7 0 k1 rfl
    refine e_gR (SH_k sh27 k1) (SH_r sh27 rb33) ?_
    refine And.intro (SH_k sh27 kb30) (And.intro ⟨by decide, by decide⟩ (z_X6_copyFrom (TY_SH hT sh27) ir26 (SH_k sh27 kb30) (SH_k sh27 kb34) (fun S36 s37 ir38 => ?_)))
    have sh39 := SH.tr sh27 s37 (by decide)
    refine e_ldA lvg_self ?_
    refine e_ldI (lvg_ne rfl rfl (by decide)) ?_
    refine y_tI (SH_k sh39 kb14) sh39 ir38 (by decide) (by decide) (fun N e => nomatch (show (none : Option Nat) = some N from e)) (fun S40 he41 sh42 ir43 => ?_)
    refine e_ldA (lvg_ne rfl rfl (by decide)) ?_
    refine e_duA ?_
    refine e_gV (v := nI n1) (SH_k sh42 k0) (by rw [he41]; exact rd_a (SH_i s37 (SH_k sh27 k0) (by decide) (by decide) (SH_i s25 (SH_k sh k0) (by decide) (by decide) vn3)) (ne_kd (SH_k sh39 k0) (SH_k sh39 kb14) (by decide))) ?_
    refine e_cN 1 rfl ?_
    refine e_add ?_
    refine y_tI (SH_k sh42 k0) sh42 ir43 (by decide) (by decide) (fun N e => by have e2 : some 9 = some N := e; cases e2; exact ⟨(n1 + 1), by omega, rfl⟩) (fun S44 he45 sh46 ir47 => ?_)
    exact e_rV (K _ sh46 ir47)
  · exact e_rV (K _ sh ir)
theorem u_X3_takeDueNote_0 {Q : Option Value → MM → Prop} {n : Nat} {lv : Lv} {st : List Value} {S : MM} {c z : Nat} (h : bX3_takeDueNote_0 Q (wpn (kX3_takeDueNote Q) n) lv st S c z) : wpn (kX3_takeDueNote Q) (n + 1) 0 lv st S c z := h
theorem u_X3_takeDueNote_23 {Q : Option Value → MM → Prop} {n : Nat} {lv : Lv} {st : List Value} {S : MM} {c z : Nat} (h : bX3_takeDueNote_23 Q (wpn (kX3_takeDueNote Q) n) lv st S c z) : wpn (kX3_takeDueNote Q) (n + 1) 23 lv st S c z := h
theorem u_X3_takeDueNote_25 {Q : Option Value → MM → Prop} {n : Nat} {lv : Lv} {st : List Value} {S : MM} {c z : Nat} (h : bX3_takeDueNote_25 Q (wpn (kX3_takeDueNote Q) n) lv st S c z) : wpn (kX3_takeDueNote Q) (n + 1) 25 lv st S c z := h
theorem z_X3_takeDueNote {Q : Option Value → MM → Prop} {S0 : MM} {x0 : Nat} {w1 : Int32} (hT : TY S0) (ir : IR S0) (k0 : sK S0 x0 = 4) (K0 : ∀ S', SH [4] S0 S' → IR S' → Q (some .null) S') (K1 : ∀ b S', SH [4] S0 S' → IR S' → sK S0 b = 5 → Q (some (.ref b)) S') : wX3_takeDueNote [.ref x0, .int w1] S0 Q := by
  have sh : SH [4] S0 S0 := SH.rf
  refine Exists.intro 40 (u_X3_takeDueNote_0 ?_)
  unfold bX3_takeDueNote_0
  refine e_ldA rfl ?_
  obtain ⟨n1, hn2, vn3⟩ := ir x0 4 2 9 (SH_k sh k0) rfl
  refine e_gV (SH_k sh k0) vn3 ?_
  refine e_ifN (by omega) (fun h4 => ?_) (fun h4 => ?_)
  · refine u_X3_takeDueNote_23 ?_
    unfold bX3_takeDueNote_23
    refine e_nul ?_
    exact e_rN (K0 _ sh ir)
  · refine e_ldA rfl ?_
    obtain ⟨b5, rb6, kb7, nb8⟩ := hT.1 x0 4 0 16 8 k0 rfl
    refine e_gR (SH_k sh k0) (SH_r sh rb6) ?_
    refine e_ldA rfl ?_
    obtain ⟨n9, hn10, vn11⟩ := ir x0 4 1 8 (SH_k sh k0) rfl
    refine e_gV (SH_k sh k0) vn11 ?_
    obtain ⟨b12, rb13, kb14, nb15⟩ := hT.2.1 b5 16 8 5 n9 kb7 nb8 rfl (by omega)
    refine e_aR (SH_k sh kb7) (SH_n sh nb8) (by omega) (by decide) (SH_r sh rb13) ?_
    refine e_gI (SH_k sh kb14) (fun v16 hv17 => ?_)
    refine e_ldI rfl ?_
    refine e_ifc ?_ ?_
    · refine u_X3_takeDueNote_25 ?_
      unfold bX3_takeDueNote_25
      refine e_ldA rfl ?_
      refine e_gR (SH_k sh k0) (SH_r sh rb6) ?_
      refine e_ldA rfl ?_
      refine e_gV (v := nI n9) (SH_k sh k0) vn11 ?_
      refine e_aR (SH_k sh kb7) (SH_n sh nb8) (by omega) (by decide) (SH_r sh rb13) ?_
      refine e_stA ?_
      refine e_ldA (lvg_ne rfl rfl (by decide)) ?_
      refine e_ldA (lvg_ne rfl rfl (by decide)) ?_
      refine e_gV (v := nI n9) (SH_k sh k0) vn11 ?_
      refine e_cN 1 rfl ?_
      refine e_add ?_
      refine e_cN 8 rfl ?_
      refine e_rem (by omega) (by decide) (by decide) ?_
      refine y_tI (SH_k sh k0) sh ir (by decide) (by decide) (fun N e => by have e2 : some 8 = some N := e; cases e2; exact ⟨((n9 + 1) % 8), by omega, rfl⟩) (fun S18 he19 sh20 ir21 => ?_)
      refine e_ldA (lvg_ne rfl rfl (by decide)) ?_
      refine e_duA ?_
      refine e_gV (v := nI n1) (SH_k sh20 k0) (by rw [he19]; exact rd_k vn3 (by decide)) ?_
      refine e_cN 1 rfl ?_
      refine e_sub (by omega) ?_
      refine y_tI (SH_k sh20 k0) sh20 ir21 (by decide) (by decide) (fun N e => by have e2 : some 9 = some N := e; cases e2; exact ⟨(n1 - 1), by omega, rfl⟩) (fun S22 he23 sh24 ir25 => ?_)
      refine e_ldA lvg_self ?_
      exact e_rA (K1 b12 _ sh24 ir25 kb14)
    · refine u_X3_takeDueNote_23 ?_
      unfold bX3_takeDueNote_23
      refine e_nul ?_
      exact e_rN (K0 _ sh ir)
theorem u_X3_isFull_0 {Q : Option Value → MM → Prop} {n : Nat} {lv : Lv} {st : List Value} {S : MM} {c z : Nat} (h : bX3_isFull_0 Q (wpn (kX3_isFull Q) n) lv st S c z) : wpn (kX3_isFull Q) (n + 1) 0 lv st S c z := h
theorem u_X3_isFull_14 {Q : Option Value → MM → Prop} {n : Nat} {lv : Lv} {st : List Value} {S : MM} {c z : Nat} (h : bX3_isFull_14 Q (wpn (kX3_isFull Q) n) lv st S c z) : wpn (kX3_isFull Q) (n + 1) 14 lv st S c z := h
theorem u_X3_isFull_15 {Q : Option Value → MM → Prop} {n : Nat} {lv : Lv} {st : List Value} {S : MM} {c z : Nat} (h : bX3_isFull_15 Q (wpn (kX3_isFull Q) n) lv st S c z) : wpn (kX3_isFull Q) (n + 1) 15 lv st S c z := h
theorem z_X3_isFull {Q : Option Value → MM → Prop} {S0 : MM} {x0 : Nat} (hT : TY S0) (ir : IR S0) (k0 : sK S0 x0 = 4) (K : ∀ j S', SH [] S0 S' → IR S' → j < 2 → Q (some (.int (nI j))) S') : wX3_isFull [.ref x0] S0 Q := by
  have sh : SH [] S0 S0 := SH.rf
  refine Exists.intro 40 (u_X3_isFull_0 ?_)
  unfold bX3_isFull_0
  refine e_ldA rfl ?_
  obtain ⟨n1, hn2, vn3⟩ := ir x0 4 5 201 (SH_k sh k0) rfl
  refine e_gV (SH_k sh k0) vn3 ?_
  refine e_cN 200 rfl ?_
  refine e_lt (by omega) (by omega) (fun h4 => ?_) (fun h4 => ?_)
  · refine u_X3_isFull_14 ?_
    unfold bX3_isFull_14
    refine e_cN 0 rfl ?_
    refine u_X3_isFull_15 ?_
    unfold bX3_isFull_15
    exact e_rZ (by omega) (K 0 _ sh ir (by omega))
  · refine e_cN 1 rfl ?_
    refine u_X3_isFull_15 ?_
    unfold bX3_isFull_15
    exact e_rZ (by omega) (K 1 _ sh ir (by omega))
theorem u_X3_takeDueFrame_0 {Q : Option Value → MM → Prop} {n : Nat} {lv : Lv} {st : List Value} {S : MM} {c z : Nat} (h : bX3_takeDueFrame_0 Q (wpn (kX3_takeDueFrame Q) n) lv st S c z) : wpn (kX3_takeDueFrame Q) (n + 1) 0 lv st S c z := h
theorem u_X3_takeDueFrame_29 {Q : Option Value → MM → Prop} {n : Nat} {lv : Lv} {st : List Value} {S : MM} {c z : Nat} (h : bX3_takeDueFrame_29 Q (wpn (kX3_takeDueFrame Q) n) lv st S c z) : wpn (kX3_takeDueFrame Q) (n + 1) 29 lv st S c z := h
theorem u_X3_takeDueFrame_31 {Q : Option Value → MM → Prop} {n : Nat} {lv : Lv} {st : List Value} {S : MM} {c z : Nat} (h : bX3_takeDueFrame_31 Q (wpn (kX3_takeDueFrame Q) n) lv st S c z) : wpn (kX3_takeDueFrame Q) (n + 1) 31 lv st S c z := h
theorem z_X3_takeDueFrame {Q : Option Value → MM → Prop} {S0 : MM} {x0 : Nat} {w1 : Int32} (hT : TY S0) (ir : IR S0) (k0 : sK S0 x0 = 4) (K0 : ∀ S', SH [4] S0 S' → IR S' → Q (some .null) S') (K1 : ∀ b S', SH [4] S0 S' → IR S' → sK S0 b = 3 → Q (some (.ref b)) S') : wX3_takeDueFrame [.ref x0, .int w1] S0 Q := by
  have sh : SH [4] S0 S0 := SH.rf
  refine Exists.intro 40 (u_X3_takeDueFrame_0 ?_)
  unfold bX3_takeDueFrame_0
  refine e_ldA rfl ?_
  obtain ⟨b1, rb2, kb3, nb4⟩ := hT.1 x0 4 3 14 200 k0 rfl
  refine e_gR (SH_k sh k0) (SH_r sh rb2) ?_
  refine e_ldA rfl ?_
  obtain ⟨n5, hn6, vn7⟩ := ir x0 4 4 200 (SH_k sh k0) rfl
  refine e_gV (SH_k sh k0) vn7 ?_
  refine e_aO (SH_k sh kb3) (SH_n sh nb4) (by omega) (by decide) (fun _ => ?_) (fun b8 rb9 => ?_)
  · refine e_stN ?_
    refine e_ldA (lvg_ne rfl rfl (by decide)) ?_
    obtain ⟨n12, hn13, vn14⟩ := ir x0 4 5 201 (SH_k sh k0) rfl
    refine e_gV (SH_k sh k0) vn14 ?_
    refine e_ifN (by omega) (fun h15 => ?_) (fun h15 => ?_)
    · refine u_X3_takeDueFrame_29 ?_
      unfold bX3_takeDueFrame_29
      refine e_nul ?_
      exact e_rN (K0 _ sh ir)
    · refine e_ldN lvg_self ?_
      refine e_nnN ?_
      refine u_X3_takeDueFrame_29 ?_
      unfold bX3_takeDueFrame_29
      refine e_nul ?_
      exact e_rN (K0 _ sh ir)
  · obtain ⟨kb10, nb11⟩ := hT.2.2 b1 14 3 n5 b8 kb3 rfl (SH_r' sh rb9)
    refine e_stA ?_
    refine e_ldA (lvg_ne rfl rfl (by decide)) ?_
    obtain ⟨n16, hn17, vn18⟩ := ir x0 4 5 201 (SH_k sh k0) rfl
    refine e_gV (SH_k sh k0) vn18 ?_
    refine e_ifN (by omega) (fun h19 => ?_) (fun h19 => ?_)
    · refine u_X3_takeDueFrame_29 ?_
      unfold bX3_takeDueFrame_29
      refine e_nul ?_
      exact e_rN (K0 _ sh ir)
    · refine e_ldA lvg_self ?_
      refine e_nnA ?_
      refine e_ldA lvg_self ?_
      refine e_gI (SH_k sh kb10) (fun v20 hv21 => ?_)
      refine e_ldI (lvg_ne rfl rfl (by decide)) ?_
      refine e_ifc ?_ ?_
      · refine u_X3_takeDueFrame_31 ?_
        unfold bX3_takeDueFrame_31
        refine e_ldA (lvg_ne rfl rfl (by decide)) ?_
        refine e_ldA (lvg_ne rfl rfl (by decide)) ?_
        refine e_gV (v := nI n5) (SH_k sh k0) vn7 ?_
        refine e_cN 1 rfl ?_
        refine e_add ?_
        refine e_cN 200 rfl ?_
        refine e_rem (by omega) (by decide) (by decide) ?_
        refine y_tI (SH_k sh k0) sh ir (by decide) (by decide) (fun N e => by have e2 : some 200 = some N := e; cases e2; exact ⟨((n5 + 1) % 200), by omega, rfl⟩) (fun S22 he23 sh24 ir25 => ?_)
        refine e_ldA (lvg_ne rfl rfl (by decide)) ?_
        refine e_duA ?_
        refine e_gV (v := nI n16) (SH_k sh24 k0) (by rw [he23]; exact rd_k vn18 (by decide)) ?_
        refine e_cN 1 rfl ?_
        refine e_sub (by omega) ?_
        refine y_tI (SH_k sh24 k0) sh24 ir25 (by decide) (by decide) (fun N e => by have e2 : some 201 = some N := e; cases e2; exact ⟨(n16 - 1), by omega, rfl⟩) (fun S26 he27 sh28 ir29 => ?_)
        refine e_ldA lvg_self ?_
        exact e_rA (K1 b8 _ sh28 ir29 kb10)
      · refine u_X3_takeDueFrame_29 ?_
        unfold bX3_takeDueFrame_29
        refine e_nul ?_
        exact e_rN (K0 _ sh ir)
theorem u_X3_markOvertaken_0 {Q : Option Value → MM → Prop} {n : Nat} {lv : Lv} {st : List Value} {S : MM} {c z : Nat} (h : bX3_markOvertaken_0 Q (wpn (kX3_markOvertaken Q) n) lv st S c z) : wpn (kX3_markOvertaken Q) (n + 1) 0 lv st S c z := h
theorem u_X3_markOvertaken_2 {Q : Option Value → MM → Prop} {n : Nat} {lv : Lv} {st : List Value} {S : MM} {c z : Nat} (h : bX3_markOvertaken_2 Q (wpn (kX3_markOvertaken Q) n) lv st S c z) : wpn (kX3_markOvertaken Q) (n + 1) 2 lv st S c z := h
theorem u_X3_markOvertaken_43 {Q : Option Value → MM → Prop} {n : Nat} {lv : Lv} {st : List Value} {S : MM} {c z : Nat} (h : bX3_markOvertaken_43 Q (wpn (kX3_markOvertaken Q) n) lv st S c z) : wpn (kX3_markOvertaken Q) (n + 1) 43 lv st S c z := h
theorem u_X3_markOvertaken_49 {Q : Option Value → MM → Prop} {n : Nat} {lv : Lv} {st : List Value} {S : MM} {c z : Nat} (h : bX3_markOvertaken_49 Q (wpn (kX3_markOvertaken Q) n) lv st S c z) : wpn (kX3_markOvertaken Q) (n + 1) 49 lv st S c z := h
def P_X3_markOvertaken_0 (Q : Option Value → MM → Prop) (S0 : MM) (n : Nat) : Prop := ∀ (lv : Lv) (S : MM) (x0 : Nat) (x1 : Nat), lvg lv 0 = some (.ref x0) → sK S0 x0 = 4 → lvg lv 1 = some (.ref x1) → sK S0 x1 = 3 → SH [3] S0 S → IR S → 12462 ≤ n → wpn (kX3_markOvertaken Q) n 0 lv [] S 0 0
def P_X3_markOvertaken_2 (Q : Option Value → MM → Prop) (S0 : MM) (n : Nat) : Prop := ∀ (lv : Lv) (S : MM) (x0 : Nat) (x1 : Nat) (i2 : Nat), lvg lv 0 = some (.ref x0) → sK S0 x0 = 4 → lvg lv 1 = some (.ref x1) → sK S0 x1 = 3 → lvg lv 2 = some (.int (nI i2)) → i2 < 201 → SH [3] S0 S → IR S → 31 + 62 * (200 - i2) ≤ n → wpn (kX3_markOvertaken Q) n 2 lv [] S 0 0
theorem B_X3_markOvertaken_0 {Q : Option Value → MM → Prop} {S0 : MM} {n : Nat} (hT : TY S0) (K : ∀ S', SH [3] S0 S' → IR S' → Q none S') (t_2 : ∀ k, k ≤ n → P_X3_markOvertaken_2 Q S0 k) : P_X3_markOvertaken_0 Q S0 (n + 1) := by
  intro lv S x0 x1 g0 k0 g1 k1 sh ir hF
  refine u_X3_markOvertaken_0 ?_
  unfold bX3_markOvertaken_0
  refine e_cN 0 rfl ?_
  refine e_stI ?_
  exact t_2 n (by omega) _ _ x0 x1 0 (lvg_ne g0 rfl (by decide)) k0 (lvg_ne g1 rfl (by decide)) k1 lvg_self (by omega) sh ir (by omega)
theorem B_X3_markOvertaken_2 {Q : Option Value → MM → Prop} {S0 : MM} {n : Nat} (hT : TY S0) (K : ∀ S', SH [3] S0 S' → IR S' → Q none S') (t_2 : ∀ k, k ≤ n → P_X3_markOvertaken_2 Q S0 k) : P_X3_markOvertaken_2 Q S0 (n + 1) := by
  intro lv S x0 x1 i2 g0 k0 g1 k1 g2 h2 sh ir hF
  refine u_X3_markOvertaken_2 ?_
  unfold bX3_markOvertaken_2
  refine e_ldI g2 ?_
  refine e_ldA g0 ?_
  obtain ⟨n1, hn2, vn3⟩ := ir x0 4 5 201 (SH_k sh k0) rfl
  refine e_gV (SH_k sh k0) vn3 ?_
  refine e_ge (by omega) (by omega) (fun h4 => ?_) (fun h4 => ?_)
  · obtain ⟨q5, rfl⟩ : ∃ q, n = q + 1 := ⟨n - 1, by omega⟩
    refine u_X3_markOvertaken_49 ?_
    unfold bX3_markOvertaken_49
    exact e_rV (K _ sh ir)
  · refine e_ldA g0 ?_
    obtain ⟨b6, rb7, kb8, nb9⟩ := hT.1 x0 4 3 14 200 k0 rfl
    refine e_gR (SH_k sh k0) (SH_r sh rb7) ?_
    refine e_ldA g0 ?_
    obtain ⟨n10, hn11, vn12⟩ := ir x0 4 4 200 (SH_k sh k0) rfl
    refine e_gV (SH_k sh k0) vn12 ?_
    refine e_ldI g2 ?_
    refine e_add ?_
    refine e_cN 200 rfl ?_
    refine e_rem (by omega) (by decide) (by decide) ?_
    refine e_aO (SH_k sh kb8) (SH_n sh nb9) (by omega) (by decide) (fun _ => ?_) (fun b13 rb14 => ?_)
    · refine e_stN ?_
      refine e_ldN lvg_self ?_
      refine e_nnN ?_
      obtain ⟨q17, rfl⟩ : ∃ q, n = q + 1 := ⟨n - 1, by omega⟩
      refine u_X3_markOvertaken_43 ?_
      unfold bX3_markOvertaken_43
      refine e_inc (lvg_ne g2 rfl (by decide)) ?_
      exact t_2 q17 (by omega) _ _ x0 x1 (i2 + 1) (lvg_ne (lvg_ne g0 rfl (by decide)) rfl (by decide)) k0 (lvg_ne (lvg_ne g1 rfl (by decide)) rfl (by decide)) k1 lvg_self (by omega) sh ir (by omega)
    · obtain ⟨kb15, nb16⟩ := hT.2.2 b6 14 3 ((n10 + i2) % 200) b13 kb8 rfl (SH_r' sh rb14)
      refine e_stA ?_
      refine e_ldA lvg_self ?_
      refine e_nnA ?_
      refine e_ldA lvg_self ?_
      refine e_ldA (lvg_ne g1 rfl (by decide)) ?_
      refine And.intro (SH_k sh kb15) (And.intro ⟨by decide, by decide⟩ (z_X2_mustComeAhead (TY_SH hT sh) ir (SH_k sh kb15) (SH_k sh k1) (fun n22 S18 s19 ir20 hn23 => ?_)))
      have sh21 := SH.tr sh s19 (by decide)
      refine e_ifN (by omega) (fun h24 => ?_) (fun h24 => ?_)
      · obtain ⟨q25, rfl⟩ : ∃ q, n = q + 1 := ⟨n - 1, by omega⟩
        refine u_X3_markOvertaken_43 ?_
        unfold bX3_markOvertaken_43
        refine e_inc (lvg_ne g2 rfl (by decide)) ?_
        exact t_2 q25 (by omega) _ _ x0 x1 (i2 + 1) (lvg_ne (lvg_ne g0 rfl (by decide)) rfl (by decide)) k0 (lvg_ne (lvg_ne g1 rfl (by decide)) rfl (by decide)) k1 lvg_self (by omega) sh21 ir20 (by omega)
      · refine e_ldA lvg_self ?_
        refine e_cN 1 rfl ?_
        refine y_tZ (SH_k sh21 kb15) (by omega) sh21 ir20 (by decide) (by decide) (fun N e => nomatch (show (none : Option Nat) = some N from e)) (fun S26 he27 sh28 ir29 => ?_)
        obtain ⟨q30, rfl⟩ : ∃ q, n = q + 1 := ⟨n - 1, by omega⟩
        refine u_X3_markOvertaken_43 ?_
        unfold bX3_markOvertaken_43
        refine e_inc (lvg_ne g2 rfl (by decide)) ?_
        exact t_2 q30 (by omega) _ _ x0 x1 (i2 + 1) (lvg_ne (lvg_ne g0 rfl (by decide)) rfl (by decide)) k0 (lvg_ne (lvg_ne g1 rfl (by decide)) rfl (by decide)) k1 lvg_self (by omega) sh28 ir29 (by omega)
theorem A_X3_markOvertaken {Q : Option Value → MM → Prop} {S0 : MM} (hT : TY S0) (K : ∀ S', SH [3] S0 S' → IR S' → Q none S') : ∀ n k, k ≤ n → P_X3_markOvertaken_0 Q S0 k ∧ P_X3_markOvertaken_2 Q S0 k := by
  intro n
  induction n with
  | zero =>
    intro k hk
    have e : k = 0 := by omega
    subst e
    exact ⟨(fun lv S x0 x1 _ _ _ _ _ _ hF => absurd hF (by omega)), (fun lv S x0 x1 i2 _ _ _ _ _ _ _ _ hF => absurd hF (by omega))⟩
  | succ n ih =>
    intro k hk
    by_cases hn : k ≤ n
    · exact ih k hn
    · have e : k = n + 1 := by omega
      subst e
      have T_0 : ∀ k, k ≤ n → P_X3_markOvertaken_0 Q S0 k := fun k hk => (ih k hk).1
      have T_2 : ∀ k, k ≤ n → P_X3_markOvertaken_2 Q S0 k := fun k hk => (ih k hk).2
      exact ⟨B_X3_markOvertaken_0 hT K T_2, B_X3_markOvertaken_2 hT K T_2⟩
theorem z_X3_markOvertaken {Q : Option Value → MM → Prop} {S0 : MM} {x0 : Nat} {x1 : Nat} (hT : TY S0) (ir : IR S0) (k0 : sK S0 x0 = 4) (k1 : sK S0 x1 = 3) (K : ∀ S', SH [3] S0 S' → IR S' → Q none S') : wX3_markOvertaken [.ref x0, .ref x1] S0 Q := by
  exact Exists.intro 12462 ((A_X3_markOvertaken hT K 12462 12462 (Nat.le_refl _)).1 _ S0 x0 x1 rfl k0 rfl k1 SH.rf ir (by omega))
theorem u_X0_agrees_0 {Q : Option Value → MM → Prop} {n : Nat} {lv : Lv} {st : List Value} {S : MM} {c z : Nat} (h : bX0_agrees_0 Q (wpn (kX0_agrees Q) n) lv st S c z) : wpn (kX0_agrees Q) (n + 1) 0 lv st S c z := h
theorem u_X0_agrees_78 {Q : Option Value → MM → Prop} {n : Nat} {lv : Lv} {st : List Value} {S : MM} {c z : Nat} (h : bX0_agrees_78 Q (wpn (kX0_agrees Q) n) lv st S c z) : wpn (kX0_agrees Q) (n + 1) 78 lv st S c z := h
theorem u_X0_agrees_82 {Q : Option Value → MM → Prop} {n : Nat} {lv : Lv} {st : List Value} {S : MM} {c z : Nat} (h : bX0_agrees_82 Q (wpn (kX0_agrees Q) n) lv st S c z) : wpn (kX0_agrees Q) (n + 1) 82 lv st S c z := h
theorem u_X0_agrees_83 {Q : Option Value → MM → Prop} {n : Nat} {lv : Lv} {st : List Value} {S : MM} {c z : Nat} (h : bX0_agrees_83 Q (wpn (kX0_agrees Q) n) lv st S c z) : wpn (kX0_agrees Q) (n + 1) 83 lv st S c z := h
theorem z_X0_agrees {Q : Option Value → MM → Prop} {S0 : MM} {x0 : Nat} (hT : TY S0) (ir : IR S0) (k0 : sK S0 x0 = 1) (K0 : ∀ S', SH [] S0 S' → IR S' → Q (some (.int (nI 0))) S') (K1 : ∀ S', SH [] S0 S' → IR S' → PL S0 x0 → Q (some (.int (nI 1))) S') : wX0_agrees [.ref x0] S0 Q := by
  have sh : SH [] S0 S0 := SH.rf
  refine Exists.intro 40 (u_X0_agrees_0 ?_)
  unfold bX0_agrees_0
  refine e_ldA rfl ?_
  refine e_gI (SH_k sh k0) (fun v1 hv2 => ?_)
  refine e_if0 (fun h3 => ?_) (fun h3 => ?_)
  · refine u_X0_agrees_82 ?_
    unfold bX0_agrees_82
    refine e_cN 0 rfl ?_
    refine u_X0_agrees_83 ?_
    unfold bX0_agrees_83
    exact e_rZ (by decide) (K0 _ sh ir)
  · refine e_ldA rfl ?_
    refine And.intro (SH_k sh k0) (And.intro ⟨by decide, by decide⟩ (z_X0_isPlugged (TY_SH hT sh) (SH_k sh k0) ?_ (fun hp4 => ?_)))
    · refine e_ifN (by omega) (fun h5 => ?_) (fun h5 => ?_)
      · refine u_X0_agrees_82 ?_
        unfold bX0_agrees_82
        refine e_cN 0 rfl ?_
        refine u_X0_agrees_83 ?_
        unfold bX0_agrees_83
        exact e_rZ (by decide) (K0 _ sh ir)
      · exact absurd rfl h5
    · refine e_ifN (by omega) (fun h6 => ?_) (fun h6 => ?_)
      · exact absurd h6 (by decide)
      · refine e_ldA rfl ?_
        obtain ⟨b7, rb8, kb9, nb10⟩ := hT.1 x0 1 0 17 2 k0 rfl
        refine e_gR (SH_k sh k0) (SH_r sh rb8) ?_
        refine e_cN 0 rfl ?_
        obtain ⟨b11, rb12⟩ := (PL_SH' hp4 sh) b7 0 rb8 (by omega)
        obtain ⟨kb13, nb14⟩ := hT.2.2 b7 17 6 0 b11 kb9 rfl rb12
        refine e_aR (SH_k sh kb9) (SH_n sh nb10) (by omega) (by decide) (SH_r sh rb12) ?_
        obtain ⟨b15, rb16, kb17, nb18⟩ := hT.1 b11 6 0 7 0 kb13 rfl
        refine e_gR (SH_k sh kb13) (SH_r sh rb16) ?_
        refine e_cN 4 rfl ?_
        refine And.intro (SH_k sh kb17) (And.intro ⟨by decide, by decide⟩ (z_X6_has (TY_SH hT sh) ir (SH_k sh kb17) (fun n23 S19 s20 ir21 hn24 => ?_)))
        have sh22 := SH.tr sh s20 (by decide)
        refine e_ifN (by omega) (fun h25 => ?_) (fun h25 => ?_)
        · refine u_X0_agrees_82 ?_
          unfold bX0_agrees_82
          refine e_cN 0 rfl ?_
          refine u_X0_agrees_83 ?_
          unfold bX0_agrees_83
          exact e_rZ (by decide) (K0 _ sh22 ir21)
        · refine e_ldA rfl ?_
          refine e_gR (SH_k sh22 k0) (SH_r sh22 rb8) ?_
          refine e_cN 1 rfl ?_
          obtain ⟨b26, rb27⟩ := (PL_SH' hp4 sh) b7 1 rb8 (by omega)
          obtain ⟨kb28, nb29⟩ := hT.2.2 b7 17 6 1 b26 kb9 rfl rb27
          refine e_aR (SH_k sh22 kb9) (SH_n sh22 nb10) (by omega) (by decide) (SH_r sh22 rb27) ?_
          obtain ⟨b30, rb31, kb32, nb33⟩ := hT.1 b26 6 0 7 0 kb28 rfl
          refine e_gR (SH_k sh22 kb28) (SH_r sh22 rb31) ?_
          refine e_cN 4 rfl ?_
          refine And.intro (SH_k sh22 kb32) (And.intro ⟨by decide, by decide⟩ (z_X6_has (TY_SH hT sh22) ir21 (SH_k sh22 kb32) (fun n38 S34 s35 ir36 hn39 => ?_)))
          have sh37 := SH.tr sh22 s35 (by decide)
          refine e_ifN (by omega) (fun h40 => ?_) (fun h40 => ?_)
          · refine u_X0_agrees_82 ?_
            unfold bX0_agrees_82
            refine e_cN 0 rfl ?_
            refine u_X0_agrees_83 ?_
            unfold bX0_agrees_83
            exact e_rZ (by decide) (K0 _ sh37 ir36)
          · refine e_ldA rfl ?_
            refine e_gR (SH_k sh37 k0) (SH_r sh37 rb8) ?_
            refine e_cN 0 rfl ?_
            refine e_aR (SH_k sh37 kb9) (SH_n sh37 nb10) (by omega) (by decide) (SH_r sh37 rb12) ?_
            refine e_gR (SH_k sh37 kb13) (SH_r sh37 rb16) ?_
            refine e_cN 1 rfl ?_
            refine And.intro (SH_k sh37 kb17) (And.intro ⟨by decide, by decide⟩ (z_X6_has (TY_SH hT sh37) ir36 (SH_k sh37 kb17) (fun n45 S41 s42 ir43 hn46 => ?_)))
            have sh44 := SH.tr sh37 s42 (by decide)
            refine e_ifN (by omega) (fun h47 => ?_) (fun h47 => ?_)
            · refine e_ldA rfl ?_
              refine e_gR (SH_k sh44 k0) (SH_r sh44 rb8) ?_
              refine e_cN 1 rfl ?_
              refine e_aR (SH_k sh44 kb9) (SH_n sh44 nb10) (by omega) (by decide) (SH_r sh44 rb27) ?_
              refine e_gR (SH_k sh44 kb28) (SH_r sh44 rb31) ?_
              refine e_cN 1 rfl ?_
              refine And.intro (SH_k sh44 kb32) (And.intro ⟨by decide, by decide⟩ (z_X6_has (TY_SH hT sh44) ir43 (SH_k sh44 kb32) (fun n52 S48 s49 ir50 hn53 => ?_)))
              have sh51 := SH.tr sh44 s49 (by decide)
              refine e_ifN (by omega) (fun h54 => ?_) (fun h54 => ?_)
              · refine u_X0_agrees_82 ?_
                unfold bX0_agrees_82
                refine e_cN 0 rfl ?_
                refine u_X0_agrees_83 ?_
                unfold bX0_agrees_83
                exact e_rZ (by decide) (K0 _ sh51 ir50)
              · refine u_X0_agrees_78 ?_
                unfold bX0_agrees_78
                refine e_cN 1 rfl ?_
                refine u_X0_agrees_83 ?_
                unfold bX0_agrees_83
                exact e_rZ (by decide) (K1 _ sh51 ir50 (PL_SH' hp4 sh))
            · refine u_X0_agrees_78 ?_
              unfold bX0_agrees_78
              refine e_cN 1 rfl ?_
              refine u_X0_agrees_83 ?_
              unfold bX0_agrees_83
              exact e_rZ (by decide) (K1 _ sh44 ir43 (PL_SH' hp4 sh))
theorem u_X0_isInGroupOf_0 {Q : Option Value → MM → Prop} {n : Nat} {lv : Lv} {st : List Value} {S : MM} {c z : Nat} (h : bX0_isInGroupOf_0 Q (wpn (kX0_isInGroupOf Q) n) lv st S c z) : wpn (kX0_isInGroupOf Q) (n + 1) 0 lv st S c z := h
theorem u_X0_isInGroupOf_72 {Q : Option Value → MM → Prop} {n : Nat} {lv : Lv} {st : List Value} {S : MM} {c z : Nat} (h : bX0_isInGroupOf_72 Q (wpn (kX0_isInGroupOf Q) n) lv st S c z) : wpn (kX0_isInGroupOf Q) (n + 1) 72 lv st S c z := h
theorem u_X0_isInGroupOf_73 {Q : Option Value → MM → Prop} {n : Nat} {lv : Lv} {st : List Value} {S : MM} {c z : Nat} (h : bX0_isInGroupOf_73 Q (wpn (kX0_isInGroupOf Q) n) lv st S c z) : wpn (kX0_isInGroupOf Q) (n + 1) 73 lv st S c z := h
theorem z_X0_isInGroupOf {Q : Option Value → MM → Prop} {S0 : MM} {x0 : Nat} {x1 : Nat} (hT : TY S0) (ir : IR S0) (k0 : sK S0 x0 = 1) (k1 : sK S0 x1 = 1) (K : ∀ j S', SH [] S0 S' → IR S' → j < 2 → Q (some (.int (nI j))) S') : wX0_isInGroupOf [.ref x0, .ref x1] S0 Q := by
  have sh : SH [] S0 S0 := SH.rf
  refine Exists.intro 40 (u_X0_isInGroupOf_0 ?_)
  unfold bX0_isInGroupOf_0
  refine e_ldA rfl ?_
  refine And.intro (SH_k sh k0) (And.intro ⟨by decide, by decide⟩ (z_X0_isPlugged (TY_SH hT sh) (SH_k sh k0) ?_ (fun hp1 => ?_)))
  · refine e_ifN (by omega) (fun h2 => ?_) (fun h2 => ?_)
    · refine u_X0_isInGroupOf_72 ?_
      unfold bX0_isInGroupOf_72
      refine e_cN 0 rfl ?_
      refine u_X0_isInGroupOf_73 ?_
      unfold bX0_isInGroupOf_73
      exact e_rZ (by omega) (K 0 _ sh ir (by omega))
    · exact absurd rfl h2
  · refine e_ifN (by omega) (fun h3 => ?_) (fun h3 => ?_)
    · exact absurd h3 (by decide)
    · refine e_ldA rfl ?_
      refine And.intro (SH_k sh k1) (And.intro ⟨by decide, by decide⟩ (z_X0_isPlugged (TY_SH hT sh) (SH_k sh k1) ?_ (fun hp4 => ?_)))
      · refine e_ifN (by omega) (fun h5 => ?_) (fun h5 => ?_)
        · refine u_X0_isInGroupOf_72 ?_
          unfold bX0_isInGroupOf_72
          refine e_cN 0 rfl ?_
          refine u_X0_isInGroupOf_73 ?_
          unfold bX0_isInGroupOf_73
          exact e_rZ (by omega) (K 0 _ sh ir (by omega))
        · exact absurd rfl h5
      · refine e_ifN (by omega) (fun h6 => ?_) (fun h6 => ?_)
        · exact absurd h6 (by decide)
        · refine e_ldA rfl ?_
          obtain ⟨b7, rb8, kb9, nb10⟩ := hT.1 x0 1 0 17 2 k0 rfl
          refine e_gR (SH_k sh k0) (SH_r sh rb8) ?_
          refine e_cN 0 rfl ?_
          obtain ⟨b11, rb12⟩ := (PL_SH' hp1 sh) b7 0 rb8 (by omega)
          obtain ⟨kb13, nb14⟩ := hT.2.2 b7 17 6 0 b11 kb9 rfl rb12
          refine e_aR (SH_k sh kb9) (SH_n sh nb10) (by omega) (by decide) (SH_r sh rb12) ?_
          obtain ⟨b15, rb16, kb17, nb18⟩ := hT.1 b11 6 0 7 0 kb13 rfl
          refine e_gR (SH_k sh kb13) (SH_r sh rb16) ?_
          refine e_gI (SH_k sh kb17) (fun v19 hv20 => ?_)
          refine e_ldA rfl ?_
          obtain ⟨b21, rb22, kb23, nb24⟩ := hT.1 x1 1 0 17 2 k1 rfl
          refine e_gR (SH_k sh k1) (SH_r sh rb22) ?_
          refine e_cN 0 rfl ?_
          obtain ⟨b25, rb26⟩ := (PL_SH' hp4 sh) b21 0 rb22 (by omega)
          obtain ⟨kb27, nb28⟩ := hT.2.2 b21 17 6 0 b25 kb23 rfl rb26
          refine e_aR (SH_k sh kb23) (SH_n sh nb24) (by omega) (by decide) (SH_r sh rb26) ?_
          obtain ⟨b29, rb30, kb31, nb32⟩ := hT.1 b25 6 0 7 0 kb27 rfl
          refine e_gR (SH_k sh kb27) (SH_r sh rb30) ?_
          refine e_gI (SH_k sh kb31) (fun v33 hv34 => ?_)
          refine e_ifc ?_ ?_
          · refine e_ldA rfl ?_
            refine e_gR (SH_k sh k0) (SH_r sh rb8) ?_
            refine e_cN 1 rfl ?_
            obtain ⟨b35, rb36⟩ := (PL_SH' hp1 sh) b7 1 rb8 (by omega)
            obtain ⟨kb37, nb38⟩ := hT.2.2 b7 17 6 1 b35 kb9 rfl rb36
            refine e_aR (SH_k sh kb9) (SH_n sh nb10) (by omega) (by decide) (SH_r sh rb36) ?_
            obtain ⟨b39, rb40, kb41, nb42⟩ := hT.1 b35 6 0 7 0 kb37 rfl
            refine e_gR (SH_k sh kb37) (SH_r sh rb40) ?_
            refine e_gI (SH_k sh kb41) (fun v43 hv44 => ?_)
            refine e_ldA rfl ?_
            refine e_gR (SH_k sh k1) (SH_r sh rb22) ?_
            refine e_cN 1 rfl ?_
            obtain ⟨b45, rb46⟩ := (PL_SH' hp4 sh) b21 1 rb22 (by omega)
            obtain ⟨kb47, nb48⟩ := hT.2.2 b21 17 6 1 b45 kb23 rfl rb46
            refine e_aR (SH_k sh kb23) (SH_n sh nb24) (by omega) (by decide) (SH_r sh rb46) ?_
            obtain ⟨b49, rb50, kb51, nb52⟩ := hT.1 b45 6 0 7 0 kb47 rfl
            refine e_gR (SH_k sh kb47) (SH_r sh rb50) ?_
            refine e_gI (SH_k sh kb51) (fun v53 hv54 => ?_)
            refine e_ifc ?_ ?_
            · refine e_cN 1 rfl ?_
              refine u_X0_isInGroupOf_73 ?_
              unfold bX0_isInGroupOf_73
              exact e_rZ (by omega) (K 1 _ sh ir (by omega))
            · refine u_X0_isInGroupOf_72 ?_
              unfold bX0_isInGroupOf_72
              refine e_cN 0 rfl ?_
              refine u_X0_isInGroupOf_73 ?_
              unfold bX0_isInGroupOf_73
              exact e_rZ (by omega) (K 0 _ sh ir (by omega))
          · refine u_X0_isInGroupOf_72 ?_
            unfold bX0_isInGroupOf_72
            refine e_cN 0 rfl ?_
            refine u_X0_isInGroupOf_73 ?_
            unfold bX0_isInGroupOf_73
            exact e_rZ (by omega) (K 0 _ sh ir (by omega))
theorem u_X0_isSettled_0 {Q : Option Value → MM → Prop} {n : Nat} {lv : Lv} {st : List Value} {S : MM} {c z : Nat} (h : bX0_isSettled_0 Q (wpn (kX0_isSettled Q) n) lv st S c z) : wpn (kX0_isSettled Q) (n + 1) 0 lv st S c z := h
theorem u_X0_isSettled_24 {Q : Option Value → MM → Prop} {n : Nat} {lv : Lv} {st : List Value} {S : MM} {c z : Nat} (h : bX0_isSettled_24 Q (wpn (kX0_isSettled Q) n) lv st S c z) : wpn (kX0_isSettled Q) (n + 1) 24 lv st S c z := h
theorem u_X0_isSettled_25 {Q : Option Value → MM → Prop} {n : Nat} {lv : Lv} {st : List Value} {S : MM} {c z : Nat} (h : bX0_isSettled_25 Q (wpn (kX0_isSettled Q) n) lv st S c z) : wpn (kX0_isSettled Q) (n + 1) 25 lv st S c z := h
theorem u_X0_isSettled_49 {Q : Option Value → MM → Prop} {n : Nat} {lv : Lv} {st : List Value} {S : MM} {c z : Nat} (h : bX0_isSettled_49 Q (wpn (kX0_isSettled Q) n) lv st S c z) : wpn (kX0_isSettled Q) (n + 1) 49 lv st S c z := h
theorem u_X0_isSettled_50 {Q : Option Value → MM → Prop} {n : Nat} {lv : Lv} {st : List Value} {S : MM} {c z : Nat} (h : bX0_isSettled_50 Q (wpn (kX0_isSettled Q) n) lv st S c z) : wpn (kX0_isSettled Q) (n + 1) 50 lv st S c z := h
theorem u_X0_isSettled_57 {Q : Option Value → MM → Prop} {n : Nat} {lv : Lv} {st : List Value} {S : MM} {c z : Nat} (h : bX0_isSettled_57 Q (wpn (kX0_isSettled Q) n) lv st S c z) : wpn (kX0_isSettled Q) (n + 1) 57 lv st S c z := h
theorem u_X0_isSettled_61 {Q : Option Value → MM → Prop} {n : Nat} {lv : Lv} {st : List Value} {S : MM} {c z : Nat} (h : bX0_isSettled_61 Q (wpn (kX0_isSettled Q) n) lv st S c z) : wpn (kX0_isSettled Q) (n + 1) 61 lv st S c z := h
theorem u_X0_isSettled_62 {Q : Option Value → MM → Prop} {n : Nat} {lv : Lv} {st : List Value} {S : MM} {c z : Nat} (h : bX0_isSettled_62 Q (wpn (kX0_isSettled Q) n) lv st S c z) : wpn (kX0_isSettled Q) (n + 1) 62 lv st S c z := h
theorem z_X0_isSettled {Q : Option Value → MM → Prop} {S0 : MM} {x0 : Nat} (hT : TY S0) (ir : IR S0) (k0 : sK S0 x0 = 1) (K : ∀ j S', SH [] S0 S' → IR S' → j < 2 → Q (some (.int (nI j))) S') : wX0_isSettled [.ref x0] S0 Q := by
  have sh : SH [] S0 S0 := SH.rf
  refine Exists.intro 40 (u_X0_isSettled_0 ?_)
  unfold bX0_isSettled_0
  refine e_ldA rfl ?_
  refine And.intro (SH_k sh k0) (And.intro ⟨by decide, by decide⟩ (z_X0_isPlugged (TY_SH hT sh) (SH_k sh k0) ?_ (fun hp1 => ?_)))
  · refine e_ifN (by omega) (fun h2 => ?_) (fun h2 => ?_)
    · refine u_X0_isSettled_57 ?_
      unfold bX0_isSettled_57
      refine e_cN 1 rfl ?_
      refine u_X0_isSettled_62 ?_
      unfold bX0_isSettled_62
      exact e_rZ (by omega) (K 1 _ sh ir (by omega))
    · exact absurd rfl h2
  · refine e_ifN (by omega) (fun h3 => ?_) (fun h3 => ?_)
    · exact absurd h3 (by decide)
    · refine e_ldA rfl ?_
      obtain ⟨b4, rb5, kb6, nb7⟩ := hT.1 x0 1 0 17 2 k0 rfl
      refine e_gR (SH_k sh k0) (SH_r sh rb5) ?_
      refine e_cN 0 rfl ?_
      obtain ⟨b8, rb9⟩ := (PL_SH' hp1 sh) b4 0 rb5 (by omega)
      obtain ⟨kb10, nb11⟩ := hT.2.2 b4 17 6 0 b8 kb6 rfl rb9
      refine e_aR (SH_k sh kb6) (SH_n sh nb7) (by omega) (by decide) (SH_r sh rb9) ?_
      refine e_gI (SH_k sh kb10) (fun v12 hv13 => ?_)
      refine e_cN 4 rfl ?_
      refine e_ifc ?_ ?_
      · refine e_cN 1 rfl ?_
        refine u_X0_isSettled_25 ?_
        unfold bX0_isSettled_25
        refine e_ldA rfl ?_
        refine e_gI (SH_k sh k0) (fun v14 hv15 => ?_)
        refine e_ifc ?_ ?_
        · refine e_ldA rfl ?_
          refine e_gR (SH_k sh k0) (SH_r sh rb5) ?_
          refine e_cN 1 rfl ?_
          obtain ⟨b16, rb17⟩ := (PL_SH' hp1 sh) b4 1 rb5 (by omega)
          obtain ⟨kb18, nb19⟩ := hT.2.2 b4 17 6 1 b16 kb6 rfl rb17
          refine e_aR (SH_k sh kb6) (SH_n sh nb7) (by omega) (by decide) (SH_r sh rb17) ?_
          refine e_gI (SH_k sh kb18) (fun v20 hv21 => ?_)
          refine e_cN 4 rfl ?_
          refine e_ifc ?_ ?_
          · refine e_cN 1 rfl ?_
            refine u_X0_isSettled_50 ?_
            unfold bX0_isSettled_50
            refine e_ldA rfl ?_
            refine e_gV (v := v14) (SH_k sh k0) hv15 ?_
            refine e_ifc ?_ ?_
            · refine u_X0_isSettled_57 ?_
              unfold bX0_isSettled_57
              refine e_cN 1 rfl ?_
              refine u_X0_isSettled_62 ?_
              unfold bX0_isSettled_62
              exact e_rZ (by omega) (K 1 _ sh ir (by omega))
            · refine u_X0_isSettled_61 ?_
              unfold bX0_isSettled_61
              refine e_cN 0 rfl ?_
              refine u_X0_isSettled_62 ?_
              unfold bX0_isSettled_62
              exact e_rZ (by omega) (K 0 _ sh ir (by omega))
          · refine u_X0_isSettled_49 ?_
            unfold bX0_isSettled_49
            refine e_cN 0 rfl ?_
            refine u_X0_isSettled_50 ?_
            unfold bX0_isSettled_50
            refine e_ldA rfl ?_
            refine e_gV (v := v14) (SH_k sh k0) hv15 ?_
            refine e_ifc ?_ ?_
            · refine u_X0_isSettled_57 ?_
              unfold bX0_isSettled_57
              refine e_cN 1 rfl ?_
              refine u_X0_isSettled_62 ?_
              unfold bX0_isSettled_62
              exact e_rZ (by omega) (K 1 _ sh ir (by omega))
            · refine u_X0_isSettled_61 ?_
              unfold bX0_isSettled_61
              refine e_cN 0 rfl ?_
              refine u_X0_isSettled_62 ?_
              unfold bX0_isSettled_62
              exact e_rZ (by omega) (K 0 _ sh ir (by omega))
        · refine u_X0_isSettled_61 ?_
          unfold bX0_isSettled_61
          refine e_cN 0 rfl ?_
          refine u_X0_isSettled_62 ?_
          unfold bX0_isSettled_62
          exact e_rZ (by omega) (K 0 _ sh ir (by omega))
      · refine u_X0_isSettled_24 ?_
        unfold bX0_isSettled_24
        refine e_cN 0 rfl ?_
        refine u_X0_isSettled_25 ?_
        unfold bX0_isSettled_25
        refine e_ldA rfl ?_
        refine e_gI (SH_k sh k0) (fun v22 hv23 => ?_)
        refine e_ifc ?_ ?_
        · refine e_ldA rfl ?_
          refine e_gR (SH_k sh k0) (SH_r sh rb5) ?_
          refine e_cN 1 rfl ?_
          obtain ⟨b24, rb25⟩ := (PL_SH' hp1 sh) b4 1 rb5 (by omega)
          obtain ⟨kb26, nb27⟩ := hT.2.2 b4 17 6 1 b24 kb6 rfl rb25
          refine e_aR (SH_k sh kb6) (SH_n sh nb7) (by omega) (by decide) (SH_r sh rb25) ?_
          refine e_gI (SH_k sh kb26) (fun v28 hv29 => ?_)
          refine e_cN 4 rfl ?_
          refine e_ifc ?_ ?_
          · refine e_cN 1 rfl ?_
            refine u_X0_isSettled_50 ?_
            unfold bX0_isSettled_50
            refine e_ldA rfl ?_
            refine e_gV (v := v22) (SH_k sh k0) hv23 ?_
            refine e_ifc ?_ ?_
            · refine u_X0_isSettled_57 ?_
              unfold bX0_isSettled_57
              refine e_cN 1 rfl ?_
              refine u_X0_isSettled_62 ?_
              unfold bX0_isSettled_62
              exact e_rZ (by omega) (K 1 _ sh ir (by omega))
            · refine u_X0_isSettled_61 ?_
              unfold bX0_isSettled_61
              refine e_cN 0 rfl ?_
              refine u_X0_isSettled_62 ?_
              unfold bX0_isSettled_62
              exact e_rZ (by omega) (K 0 _ sh ir (by omega))
          · refine u_X0_isSettled_49 ?_
            unfold bX0_isSettled_49
            refine e_cN 0 rfl ?_
            refine u_X0_isSettled_50 ?_
            unfold bX0_isSettled_50
            refine e_ldA rfl ?_
            refine e_gV (v := v22) (SH_k sh k0) hv23 ?_
            refine e_ifc ?_ ?_
            · refine u_X0_isSettled_57 ?_
              unfold bX0_isSettled_57
              refine e_cN 1 rfl ?_
              refine u_X0_isSettled_62 ?_
              unfold bX0_isSettled_62
              exact e_rZ (by omega) (K 1 _ sh ir (by omega))
            · refine u_X0_isSettled_61 ?_
              unfold bX0_isSettled_61
              refine e_cN 0 rfl ?_
              refine u_X0_isSettled_62 ?_
              unfold bX0_isSettled_62
              exact e_rZ (by omega) (K 0 _ sh ir (by omega))
        · refine u_X0_isSettled_61 ?_
          unfold bX0_isSettled_61
          refine e_cN 0 rfl ?_
          refine u_X0_isSettled_62 ?_
          unfold bX0_isSettled_62
          exact e_rZ (by omega) (K 0 _ sh ir (by omega))
