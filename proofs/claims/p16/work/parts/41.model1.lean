theorem u_X8_bits_0 {Q : Option Value → MM → Prop} {n : Nat} {lv : Lv} {st : List Value} {S : MM} {c z : Nat} (h : bX8_bits_0 Q (wpn (kX8_bits Q) n) lv st S c z) : wpn (kX8_bits Q) (n + 1) 0 lv st S c z := h
theorem u_X8_bits_20 {Q : Option Value → MM → Prop} {n : Nat} {lv : Lv} {st : List Value} {S : MM} {c z : Nat} (h : bX8_bits_20 Q (wpn (kX8_bits Q) n) lv st S c z) : wpn (kX8_bits Q) (n + 1) 20 lv st S c z := h
theorem u_X8_bits_21 {Q : Option Value → MM → Prop} {n : Nat} {lv : Lv} {st : List Value} {S : MM} {c z : Nat} (h : bX8_bits_21 Q (wpn (kX8_bits Q) n) lv st S c z) : wpn (kX8_bits Q) (n + 1) 21 lv st S c z := h
theorem u_X8_bits_34 {Q : Option Value → MM → Prop} {n : Nat} {lv : Lv} {st : List Value} {S : MM} {c z : Nat} (h : bX8_bits_34 Q (wpn (kX8_bits Q) n) lv st S c z) : wpn (kX8_bits Q) (n + 1) 34 lv st S c z := h
theorem u_X8_bits_35 {Q : Option Value → MM → Prop} {n : Nat} {lv : Lv} {st : List Value} {S : MM} {c z : Nat} (h : bX8_bits_35 Q (wpn (kX8_bits Q) n) lv st S c z) : wpn (kX8_bits Q) (n + 1) 35 lv st S c z := h
theorem u_X8_bits_49 {Q : Option Value → MM → Prop} {n : Nat} {lv : Lv} {st : List Value} {S : MM} {c z : Nat} (h : bX8_bits_49 Q (wpn (kX8_bits Q) n) lv st S c z) : wpn (kX8_bits Q) (n + 1) 49 lv st S c z := h
theorem u_X8_bits_50 {Q : Option Value → MM → Prop} {n : Nat} {lv : Lv} {st : List Value} {S : MM} {c z : Nat} (h : bX8_bits_50 Q (wpn (kX8_bits Q) n) lv st S c z) : wpn (kX8_bits Q) (n + 1) 50 lv st S c z := h
theorem u_X8_bits_61 {Q : Option Value → MM → Prop} {n : Nat} {lv : Lv} {st : List Value} {S : MM} {c z : Nat} (h : bX8_bits_61 Q (wpn (kX8_bits Q) n) lv st S c z) : wpn (kX8_bits Q) (n + 1) 61 lv st S c z := h
theorem u_X8_bits_62 {Q : Option Value → MM → Prop} {n : Nat} {lv : Lv} {st : List Value} {S : MM} {c z : Nat} (h : bX8_bits_62 Q (wpn (kX8_bits Q) n) lv st S c z) : wpn (kX8_bits Q) (n + 1) 62 lv st S c z := h
theorem u_X8_bits_73 {Q : Option Value → MM → Prop} {n : Nat} {lv : Lv} {st : List Value} {S : MM} {c z : Nat} (h : bX8_bits_73 Q (wpn (kX8_bits Q) n) lv st S c z) : wpn (kX8_bits Q) (n + 1) 73 lv st S c z := h
theorem u_X8_bits_74 {Q : Option Value → MM → Prop} {n : Nat} {lv : Lv} {st : List Value} {S : MM} {c z : Nat} (h : bX8_bits_74 Q (wpn (kX8_bits Q) n) lv st S c z) : wpn (kX8_bits Q) (n + 1) 74 lv st S c z := h
theorem u_X8_bits_85 {Q : Option Value → MM → Prop} {n : Nat} {lv : Lv} {st : List Value} {S : MM} {c z : Nat} (h : bX8_bits_85 Q (wpn (kX8_bits Q) n) lv st S c z) : wpn (kX8_bits Q) (n + 1) 85 lv st S c z := h
theorem u_X8_bits_86 {Q : Option Value → MM → Prop} {n : Nat} {lv : Lv} {st : List Value} {S : MM} {c z : Nat} (h : bX8_bits_86 Q (wpn (kX8_bits Q) n) lv st S c z) : wpn (kX8_bits Q) (n + 1) 86 lv st S c z := h
def P_X8_bits_0 (Q : Option Value → MM → Prop) (S0 : MM) (m : Nat) (A : Nat → Nat) (n : Nat) : Prop := ∀ (lv : Lv) (S : MM) (i1 : Nat), lvg lv 0 = some (.ref m) → lvg lv 1 = some (.int (nI i1)) → i1 < 16 → SM [] m A S0 S → IM S m A → 217 ≤ n → wpn (kX8_bits Q) n 0 lv [] S 0 0
def P_X8_bits_21 (Q : Option Value → MM → Prop) (S0 : MM) (m : Nat) (A : Nat → Nat) (n : Nat) : Prop := ∀ (lv : Lv) (S : MM) (i1 : Nat) (w2 : Int32) (is0 : Nat), lvg lv 0 = some (.ref m) → lvg lv 1 = some (.int (nI i1)) → i1 < 16 → lvg lv 2 = some (.int w2) → is0 < 2 → SM [] m A S0 S → IM S m A → 186 ≤ n → wpn (kX8_bits Q) n 21 lv [.int (nI is0)] S 0 0
def P_X8_bits_35 (Q : Option Value → MM → Prop) (S0 : MM) (m : Nat) (A : Nat → Nat) (n : Nat) : Prop := ∀ (lv : Lv) (S : MM) (i1 : Nat) (w2 : Int32) (is0 : Nat) (is1 : Nat), lvg lv 0 = some (.ref m) → lvg lv 1 = some (.int (nI i1)) → i1 < 16 → lvg lv 2 = some (.int w2) → is0 < 3 → is1 < 2 → SM [] m A S0 S → IM S m A → 155 ≤ n → wpn (kX8_bits Q) n 35 lv [.int (nI is0), .int (nI is1)] S 0 0
def P_X8_bits_50 (Q : Option Value → MM → Prop) (S0 : MM) (m : Nat) (A : Nat → Nat) (n : Nat) : Prop := ∀ (lv : Lv) (S : MM) (i1 : Nat) (w2 : Int32) (is0 : Nat) (is1 : Nat), lvg lv 0 = some (.ref m) → lvg lv 1 = some (.int (nI i1)) → i1 < 16 → lvg lv 2 = some (.int w2) → is0 < 5 → is1 < 4 → SM [] m A S0 S → IM S m A → 124 ≤ n → wpn (kX8_bits Q) n 50 lv [.int (nI is0), .int (nI is1)] S 0 0
def P_X8_bits_62 (Q : Option Value → MM → Prop) (S0 : MM) (m : Nat) (A : Nat → Nat) (n : Nat) : Prop := ∀ (lv : Lv) (S : MM) (i1 : Nat) (w2 : Int32) (is0 : Nat) (is1 : Nat), lvg lv 0 = some (.ref m) → lvg lv 1 = some (.int (nI i1)) → i1 < 16 → lvg lv 2 = some (.int w2) → is0 < 9 → is1 < 8 → SM [] m A S0 S → IM S m A → 93 ≤ n → wpn (kX8_bits Q) n 62 lv [.int (nI is0), .int (nI is1)] S 0 0
def P_X8_bits_74 (Q : Option Value → MM → Prop) (S0 : MM) (m : Nat) (A : Nat → Nat) (n : Nat) : Prop := ∀ (lv : Lv) (S : MM) (i1 : Nat) (w2 : Int32) (is0 : Nat) (is1 : Nat), lvg lv 0 = some (.ref m) → lvg lv 1 = some (.int (nI i1)) → i1 < 16 → lvg lv 2 = some (.int w2) → is0 < 17 → is1 < 16 → SM [] m A S0 S → IM S m A → 62 ≤ n → wpn (kX8_bits Q) n 74 lv [.int (nI is0), .int (nI is1)] S 0 0
def P_X8_bits_86 (Q : Option Value → MM → Prop) (S0 : MM) (m : Nat) (A : Nat → Nat) (n : Nat) : Prop := ∀ (lv : Lv) (S : MM) (i1 : Nat) (w2 : Int32) (is0 : Nat) (is1 : Nat), lvg lv 0 = some (.ref m) → lvg lv 1 = some (.int (nI i1)) → i1 < 16 → lvg lv 2 = some (.int w2) → is0 < 33 → is1 < 32 → SM [] m A S0 S → IM S m A → 31 ≤ n → wpn (kX8_bits Q) n 86 lv [.int (nI is0), .int (nI is1)] S 0 0
theorem B_X8_bits_0 {Q : Option Value → MM → Prop} {S0 : MM} {m : Nat} {A : Nat → Nat} {n : Nat} (hM : MS S0 m A) (K : ∀ r S', SM [] m A S0 S' → IM S' m A → Q (some (.int r)) S') (t_21 : ∀ k, k ≤ n → P_X8_bits_21 Q S0 m A k) : P_X8_bits_0 Q S0 m A (n + 1) := by
  intro lv S i1 g0 g1 h1 sh im hF
  refine u_X8_bits_0 ?_
  unfold bX8_bits_0
  refine e_ldA g0 ?_
  refine e_gR (SM_k sh hM.1) (SM_r sh (hM.2.1 9 (by decide)).1) ?_
  refine e_ldI g1 ?_
  refine e_aI (N := 16) (SM_k sh (hM.2.1 9 (by decide)).2.1) (SM_n sh (hM.2.1 9 (by decide)).2.2.1) (by omega) (by decide) (fun v1 hv2 => ?_)
  refine e_stI ?_
  refine e_ldA (lvg_ne g0 rfl (by decide)) ?_
  refine e_gR (SM_k sh hM.1) (SM_r sh (hM.2.1 5 (by decide)).1) ?_
  refine e_ldI (lvg_ne g1 rfl (by decide)) ?_
  refine e_aI (N := 16) (SM_k sh (hM.2.1 5 (by decide)).2.1) (SM_n sh (hM.2.1 5 (by decide)).2.2.1) (by omega) (by decide) (fun v3 hv4 => ?_)
  refine e_if0 (fun h5 => ?_) (fun h5 => ?_)
  · obtain ⟨q6, rfl⟩ : ∃ q, n = q + 1 := ⟨n - 1, by omega⟩
    refine u_X8_bits_20 ?_
    unfold bX8_bits_20
    refine e_cN 0 rfl ?_
    exact t_21 q6 (by omega) _ _ i1 _ 0 (lvg_ne g0 rfl (by decide)) (lvg_ne g1 rfl (by decide)) (by omega) lvg_self (by omega) sh im (by omega)
  · refine e_cN 1 rfl ?_
    exact t_21 n (by omega) _ _ i1 _ 1 (lvg_ne g0 rfl (by decide)) (lvg_ne g1 rfl (by decide)) (by omega) lvg_self (by omega) sh im (by omega)
theorem B_X8_bits_21 {Q : Option Value → MM → Prop} {S0 : MM} {m : Nat} {A : Nat → Nat} {n : Nat} (hM : MS S0 m A) (K : ∀ r S', SM [] m A S0 S' → IM S' m A → Q (some (.int r)) S') (t_35 : ∀ k, k ≤ n → P_X8_bits_35 Q S0 m A k) : P_X8_bits_21 Q S0 m A (n + 1) := by
  intro lv S i1 w2 is0 g0 g1 h1 g2 hs0 sh im hF
  refine u_X8_bits_21 ?_
  unfold bX8_bits_21
  refine e_ldA g0 ?_
  refine e_gR (SM_k sh hM.1) (SM_r sh (hM.2.1 6 (by decide)).1) ?_
  refine e_ldI g1 ?_
  refine e_aI (N := 16) (SM_k sh (hM.2.1 6 (by decide)).2.1) (SM_n sh (hM.2.1 6 (by decide)).2.2.1) (by omega) (by decide) (fun v1 hv2 => ?_)
  refine e_if0 (fun h3 => ?_) (fun h3 => ?_)
  · obtain ⟨q4, rfl⟩ : ∃ q, n = q + 1 := ⟨n - 1, by omega⟩
    refine u_X8_bits_34 ?_
    unfold bX8_bits_34
    refine e_cN 0 rfl ?_
    exact t_35 q4 (by omega) _ _ i1 _ 0 is0 g0 g1 (by omega) g2 (by omega) (by omega) sh im (by omega)
  · refine e_cN 2 rfl ?_
    exact t_35 n (by omega) _ _ i1 _ 2 is0 g0 g1 (by omega) g2 (by omega) (by omega) sh im (by omega)
theorem B_X8_bits_35 {Q : Option Value → MM → Prop} {S0 : MM} {m : Nat} {A : Nat → Nat} {n : Nat} (hM : MS S0 m A) (K : ∀ r S', SM [] m A S0 S' → IM S' m A → Q (some (.int r)) S') (t_50 : ∀ k, k ≤ n → P_X8_bits_50 Q S0 m A k) : P_X8_bits_35 Q S0 m A (n + 1) := by
  intro lv S i1 w2 is0 is1 g0 g1 h1 g2 hs0 hs1 sh im hF
  refine u_X8_bits_35 ?_
  unfold bX8_bits_35
  refine e_add ?_
  refine e_ldA g0 ?_
  refine e_gR (SM_k sh hM.1) (SM_r sh (hM.2.1 3 (by decide)).1) ?_
  refine e_ldI g1 ?_
  refine e_aI (N := 16) (SM_k sh (hM.2.1 3 (by decide)).2.1) (SM_n sh (hM.2.1 3 (by decide)).2.2.1) (by omega) (by decide) (fun v1 hv2 => ?_)
  refine e_ifz ?_ ?_
  · obtain ⟨q3, rfl⟩ : ∃ q, n = q + 1 := ⟨n - 1, by omega⟩
    refine u_X8_bits_49 ?_
    unfold bX8_bits_49
    refine e_cN 0 rfl ?_
    exact t_50 q3 (by omega) _ _ i1 _ 0 (is1 + is0) g0 g1 (by omega) g2 (by omega) (by omega) sh im (by omega)
  · refine e_cN 4 rfl ?_
    exact t_50 n (by omega) _ _ i1 _ 4 (is1 + is0) g0 g1 (by omega) g2 (by omega) (by omega) sh im (by omega)
theorem B_X8_bits_50 {Q : Option Value → MM → Prop} {S0 : MM} {m : Nat} {A : Nat → Nat} {n : Nat} (hM : MS S0 m A) (K : ∀ r S', SM [] m A S0 S' → IM S' m A → Q (some (.int r)) S') (t_62 : ∀ k, k ≤ n → P_X8_bits_62 Q S0 m A k) : P_X8_bits_50 Q S0 m A (n + 1) := by
  intro lv S i1 w2 is0 is1 g0 g1 h1 g2 hs0 hs1 sh im hF
  refine u_X8_bits_50 ?_
  unfold bX8_bits_50
  refine e_add ?_
  refine e_ldI g2 ?_
  refine e_cN 2 rfl ?_
  refine e_ifc ?_ ?_
  · obtain ⟨q1, rfl⟩ : ∃ q, n = q + 1 := ⟨n - 1, by omega⟩
    refine u_X8_bits_61 ?_
    unfold bX8_bits_61
    refine e_cN 0 rfl ?_
    exact t_62 q1 (by omega) _ _ i1 _ 0 (is1 + is0) g0 g1 (by omega) g2 (by omega) (by omega) sh im (by omega)
  · refine e_cN 8 rfl ?_
    exact t_62 n (by omega) _ _ i1 _ 8 (is1 + is0) g0 g1 (by omega) g2 (by omega) (by omega) sh im (by omega)
theorem B_X8_bits_62 {Q : Option Value → MM → Prop} {S0 : MM} {m : Nat} {A : Nat → Nat} {n : Nat} (hM : MS S0 m A) (K : ∀ r S', SM [] m A S0 S' → IM S' m A → Q (some (.int r)) S') (t_74 : ∀ k, k ≤ n → P_X8_bits_74 Q S0 m A k) : P_X8_bits_62 Q S0 m A (n + 1) := by
  intro lv S i1 w2 is0 is1 g0 g1 h1 g2 hs0 hs1 sh im hF
  refine u_X8_bits_62 ?_
  unfold bX8_bits_62
  refine e_add ?_
  refine e_ldI g2 ?_
  refine e_cN 3 rfl ?_
  refine e_ifc ?_ ?_
  · obtain ⟨q1, rfl⟩ : ∃ q, n = q + 1 := ⟨n - 1, by omega⟩
    refine u_X8_bits_73 ?_
    unfold bX8_bits_73
    refine e_cN 0 rfl ?_
    exact t_74 q1 (by omega) _ _ i1 _ 0 (is1 + is0) g0 g1 (by omega) g2 (by omega) (by omega) sh im (by omega)
  · refine e_cN 16 rfl ?_
    exact t_74 n (by omega) _ _ i1 _ 16 (is1 + is0) g0 g1 (by omega) g2 (by omega) (by omega) sh im (by omega)
theorem B_X8_bits_74 {Q : Option Value → MM → Prop} {S0 : MM} {m : Nat} {A : Nat → Nat} {n : Nat} (hM : MS S0 m A) (K : ∀ r S', SM [] m A S0 S' → IM S' m A → Q (some (.int r)) S') (t_86 : ∀ k, k ≤ n → P_X8_bits_86 Q S0 m A k) : P_X8_bits_74 Q S0 m A (n + 1) := by
  intro lv S i1 w2 is0 is1 g0 g1 h1 g2 hs0 hs1 sh im hF
  refine u_X8_bits_74 ?_
  unfold bX8_bits_74
  refine e_add ?_
  refine e_ldI g2 ?_
  refine e_cN 4 rfl ?_
  refine e_ifc ?_ ?_
  · refine e_cN 32 rfl ?_
    exact t_86 n (by omega) _ _ i1 _ 32 (is1 + is0) g0 g1 (by omega) g2 (by omega) (by omega) sh im (by omega)
  · obtain ⟨q1, rfl⟩ : ∃ q, n = q + 1 := ⟨n - 1, by omega⟩
    refine u_X8_bits_85 ?_
    unfold bX8_bits_85
    refine e_cN 0 rfl ?_
    exact t_86 q1 (by omega) _ _ i1 _ 0 (is1 + is0) g0 g1 (by omega) g2 (by omega) (by omega) sh im (by omega)
theorem B_X8_bits_86 {Q : Option Value → MM → Prop} {S0 : MM} {m : Nat} {A : Nat → Nat} {n : Nat} (hM : MS S0 m A) (K : ∀ r S', SM [] m A S0 S' → IM S' m A → Q (some (.int r)) S')  : P_X8_bits_86 Q S0 m A (n + 1) := by
  intro lv S i1 w2 is0 is1 g0 g1 h1 g2 hs0 hs1 sh im hF
  refine u_X8_bits_86 ?_
  unfold bX8_bits_86
  refine e_add ?_
  exact e_rI (K _ _ sh im)
theorem A_X8_bits {Q : Option Value → MM → Prop} {S0 : MM} {m : Nat} {A : Nat → Nat} (hM : MS S0 m A) (K : ∀ r S', SM [] m A S0 S' → IM S' m A → Q (some (.int r)) S') : ∀ n k, k ≤ n → P_X8_bits_0 Q S0 m A k ∧ P_X8_bits_21 Q S0 m A k ∧ P_X8_bits_35 Q S0 m A k ∧ P_X8_bits_50 Q S0 m A k ∧ P_X8_bits_62 Q S0 m A k ∧ P_X8_bits_74 Q S0 m A k ∧ P_X8_bits_86 Q S0 m A k := by
  intro n
  induction n with
  | zero =>
    intro k hk
    have e : k = 0 := by omega
    subst e
    exact ⟨(fun lv S i1 _ _ _ _ _ hF => absurd hF (by omega)), (fun lv S i1 w2 is0 _ _ _ _ _ _ _ hF => absurd hF (by omega)), (fun lv S i1 w2 is0 is1 _ _ _ _ _ _ _ _ hF => absurd hF (by omega)), (fun lv S i1 w2 is0 is1 _ _ _ _ _ _ _ _ hF => absurd hF (by omega)), (fun lv S i1 w2 is0 is1 _ _ _ _ _ _ _ _ hF => absurd hF (by omega)), (fun lv S i1 w2 is0 is1 _ _ _ _ _ _ _ _ hF => absurd hF (by omega)), (fun lv S i1 w2 is0 is1 _ _ _ _ _ _ _ _ hF => absurd hF (by omega))⟩
  | succ n ih =>
    intro k hk
    by_cases hn : k ≤ n
    · exact ih k hn
    · have e : k = n + 1 := by omega
      subst e
      have T_0 : ∀ k, k ≤ n → P_X8_bits_0 Q S0 m A k := fun k hk => (ih k hk).1
      have T_21 : ∀ k, k ≤ n → P_X8_bits_21 Q S0 m A k := fun k hk => (ih k hk).2.1
      have T_35 : ∀ k, k ≤ n → P_X8_bits_35 Q S0 m A k := fun k hk => (ih k hk).2.2.1
      have T_50 : ∀ k, k ≤ n → P_X8_bits_50 Q S0 m A k := fun k hk => (ih k hk).2.2.2.1
      have T_62 : ∀ k, k ≤ n → P_X8_bits_62 Q S0 m A k := fun k hk => (ih k hk).2.2.2.2.1
      have T_74 : ∀ k, k ≤ n → P_X8_bits_74 Q S0 m A k := fun k hk => (ih k hk).2.2.2.2.2.1
      have T_86 : ∀ k, k ≤ n → P_X8_bits_86 Q S0 m A k := fun k hk => (ih k hk).2.2.2.2.2.2
      exact ⟨B_X8_bits_0 hM K T_21, B_X8_bits_21 hM K T_35, B_X8_bits_35 hM K T_50, B_X8_bits_50 hM K T_62, B_X8_bits_62 hM K T_74, B_X8_bits_74 hM K T_86, B_X8_bits_86 hM K ⟩
theorem z_X8_bits {Q : Option Value → MM → Prop} {S0 : MM} {m : Nat} {A : Nat → Nat} {i1 : Nat} (hM : MS S0 m A) (im : IM S0 m A) (h1 : i1 < 16) (K : ∀ r S', SM [] m A S0 S' → IM S' m A → Q (some (.int r)) S') : wX8_bits [.ref m, .int (nI i1)] S0 Q := by
  exact Exists.intro 217 ((A_X8_bits hM K 217 217 (Nat.le_refl _)).1 _ S0 i1 rfl rfl h1 SM.rf im (by omega))
theorem u_X8_own_0 {Q : Option Value → MM → Prop} {n : Nat} {lv : Lv} {st : List Value} {S : MM} {c z : Nat} (h : bX8_own_0 Q (wpn (kX8_own Q) n) lv st S c z) : wpn (kX8_own Q) (n + 1) 0 lv st S c z := h
theorem u_X8_own_32 {Q : Option Value → MM → Prop} {n : Nat} {lv : Lv} {st : List Value} {S : MM} {c z : Nat} (h : bX8_own_32 Q (wpn (kX8_own Q) n) lv st S c z) : wpn (kX8_own Q) (n + 1) 32 lv st S c z := h
theorem u_X8_own_42 {Q : Option Value → MM → Prop} {n : Nat} {lv : Lv} {st : List Value} {S : MM} {c z : Nat} (h : bX8_own_42 Q (wpn (kX8_own Q) n) lv st S c z) : wpn (kX8_own Q) (n + 1) 42 lv st S c z := h
theorem u_X8_own_49 {Q : Option Value → MM → Prop} {n : Nat} {lv : Lv} {st : List Value} {S : MM} {c z : Nat} (h : bX8_own_49 Q (wpn (kX8_own Q) n) lv st S c z) : wpn (kX8_own Q) (n + 1) 49 lv st S c z := h
theorem u_X8_own_56 {Q : Option Value → MM → Prop} {n : Nat} {lv : Lv} {st : List Value} {S : MM} {c z : Nat} (h : bX8_own_56 Q (wpn (kX8_own Q) n) lv st S c z) : wpn (kX8_own Q) (n + 1) 56 lv st S c z := h
theorem u_X8_own_61 {Q : Option Value → MM → Prop} {n : Nat} {lv : Lv} {st : List Value} {S : MM} {c z : Nat} (h : bX8_own_61 Q (wpn (kX8_own Q) n) lv st S c z) : wpn (kX8_own Q) (n + 1) 61 lv st S c z := h
theorem z_X8_own {Q : Option Value → MM → Prop} {S0 : MM} {m : Nat} {A : Nat → Nat} {i1 : Nat} {w2 : Int32} (hM : MS S0 m A) (im : IM S0 m A) (h1 : i1 < 16) (K : ∀ r S', SM [] m A S0 S' → IM S' m A → Q (some (.int r)) S') : wX8_own [.ref m, .int (nI i1), .int w2] S0 Q := by
  have sh : SM [] m A S0 S0 := SM.rf
  refine Exists.intro 60 (u_X8_own_0 ?_)
  unfold bX8_own_0
  refine e_ldI rfl ?_
  refine e_sw0 (by decide) ?_ (fun j1 h2 e3 => ?_)
  · refine u_X8_own_61 ?_
    unfold bX8_own_61
    refine e_ldA rfl ?_
    refine e_ldI rfl ?_
    refine And.intro (SM_k sh hM.1) (And.intro ⟨by decide, by decide⟩ (z_X8_bits (MS_SM hM sh) im (show i1 < 16 by omega) (fun r8 S4 s5 ir6 => ?_)))
    have sh7 := SM.tr sh s5 (by decide)
    exact e_rI (K _ _ sh7 ir6)
  · match j1, h2, e3 with
    | 0, _, e3 =>
      subst e3
      refine u_X8_own_32 ?_
      unfold bX8_own_32
      refine e_ldA rfl ?_
      refine e_gR (SM_k sh hM.1) (SM_r sh (hM.2.1 1 (by decide)).1) ?_
      refine e_ldI rfl ?_
      refine e_cN 8 rfl ?_
      refine e_div (by omega) (by decide) (by decide) ?_
      refine e_aI (N := 2) (SM_k sh (hM.2.1 1 (by decide)).2.1) (SM_n sh (hM.2.1 1 (by decide)).2.2.1) (by omega) (by decide) (fun v9 hv10 => ?_)
      exact e_rI (K _ _ sh im)
    | 1, _, e3 =>
      subst e3
      refine u_X8_own_42 ?_
      unfold bX8_own_42
      refine e_ldA rfl ?_
      refine e_gR (SM_k sh hM.1) (SM_r sh (hM.2.1 3 (by decide)).1) ?_
      refine e_ldI rfl ?_
      refine e_aI (N := 16) (SM_k sh (hM.2.1 3 (by decide)).2.1) (SM_n sh (hM.2.1 3 (by decide)).2.2.1) (by omega) (by decide) (fun v11 hv12 => ?_)
      exact e_rI (K _ _ sh im)
    | 2, _, e3 =>
      subst e3
      refine u_X8_own_49 ?_
      unfold bX8_own_49
      refine e_ldA rfl ?_
      refine e_gR (SM_k sh hM.1) (SM_r sh (hM.2.1 4 (by decide)).1) ?_
      refine e_ldI rfl ?_
      refine e_aI (N := 16) (SM_k sh (hM.2.1 4 (by decide)).2.1) (SM_n sh (hM.2.1 4 (by decide)).2.2.1) (by omega) (by decide) (fun v13 hv14 => ?_)
      exact e_rI (K _ _ sh im)
    | 3, _, e3 =>
      subst e3
      refine u_X8_own_56 ?_
      unfold bX8_own_56
      refine e_ldI rfl ?_
      refine e_cN 8 rfl ?_
      refine e_rem (by omega) (by decide) (by decide) ?_
      exact e_rI (K _ _ sh im)
    | nn + 4, hh, _ => exact absurd hh (by omega)
theorem u_X8_isLit_0 {Q : Option Value → MM → Prop} {n : Nat} {lv : Lv} {st : List Value} {S : MM} {c z : Nat} (h : bX8_isLit_0 Q (wpn (kX8_isLit Q) n) lv st S c z) : wpn (kX8_isLit Q) (n + 1) 0 lv st S c z := h
theorem u_X8_isLit_13 {Q : Option Value → MM → Prop} {n : Nat} {lv : Lv} {st : List Value} {S : MM} {c z : Nat} (h : bX8_isLit_13 Q (wpn (kX8_isLit Q) n) lv st S c z) : wpn (kX8_isLit Q) (n + 1) 13 lv st S c z := h
theorem u_X8_isLit_14 {Q : Option Value → MM → Prop} {n : Nat} {lv : Lv} {st : List Value} {S : MM} {c z : Nat} (h : bX8_isLit_14 Q (wpn (kX8_isLit Q) n) lv st S c z) : wpn (kX8_isLit Q) (n + 1) 14 lv st S c z := h
theorem z_X8_isLit {Q : Option Value → MM → Prop} {S0 : MM} {m : Nat} {A : Nat → Nat} {i1 : Nat} (hM : MS S0 m A) (im : IM S0 m A) (h1 : i1 < 16) (K : ∀ j S', SM [] m A S0 S' → IM S' m A → j < 2 → Q (some (.int (nI j))) S') : wX8_isLit [.ref m, .int (nI i1)] S0 Q := by
  have sh : SM [] m A S0 S0 := SM.rf
  refine Exists.intro 60 (u_X8_isLit_0 ?_)
  unfold bX8_isLit_0
  refine e_ldA rfl ?_
  refine e_gR (SM_k sh hM.1) (SM_r sh (hM.2.1 7 (by decide)).1) ?_
  refine e_ldI rfl ?_
  refine e_aI (N := 16) (SM_k sh (hM.2.1 7 (by decide)).2.1) (SM_n sh (hM.2.1 7 (by decide)).2.2.1) (by omega) (by decide) (fun v1 hv2 => ?_)
  refine e_if0 (fun h3 => ?_) (fun h3 => ?_)
  · refine u_X8_isLit_13 ?_
    unfold bX8_isLit_13
    refine e_cN 0 rfl ?_
    refine u_X8_isLit_14 ?_
    unfold bX8_isLit_14
    exact e_rZ (by omega) (K 0 _ sh im (by omega))
  · refine e_cN 1 rfl ?_
    refine u_X8_isLit_14 ?_
    unfold bX8_isLit_14
    exact e_rZ (by omega) (K 1 _ sh im (by omega))
theorem u_X8_isPartner_0 {Q : Option Value → MM → Prop} {n : Nat} {lv : Lv} {st : List Value} {S : MM} {c z : Nat} (h : bX8_isPartner_0 Q (wpn (kX8_isPartner Q) n) lv st S c z) : wpn (kX8_isPartner Q) (n + 1) 0 lv st S c z := h
theorem u_X8_isPartner_19 {Q : Option Value → MM → Prop} {n : Nat} {lv : Lv} {st : List Value} {S : MM} {c z : Nat} (h : bX8_isPartner_19 Q (wpn (kX8_isPartner Q) n) lv st S c z) : wpn (kX8_isPartner Q) (n + 1) 19 lv st S c z := h
theorem u_X8_isPartner_20 {Q : Option Value → MM → Prop} {n : Nat} {lv : Lv} {st : List Value} {S : MM} {c z : Nat} (h : bX8_isPartner_20 Q (wpn (kX8_isPartner Q) n) lv st S c z) : wpn (kX8_isPartner Q) (n + 1) 20 lv st S c z := h
theorem z_X8_isPartner {Q : Option Value → MM → Prop} {S0 : MM} {m : Nat} {A : Nat → Nat} {i1 : Nat} {w2 : Int32} (hM : MS S0 m A) (im : IM S0 m A) (h1 : i1 < 16) (K : ∀ j S', SM [] m A S0 S' → IM S' m A → j < 2 → Q (some (.int (nI j))) S') : wX8_isPartner [.ref m, .int (nI i1), .int w2] S0 Q := by
  have sh : SM [] m A S0 S0 := SM.rf
  refine Exists.intro 60 (u_X8_isPartner_0 ?_)
  unfold bX8_isPartner_0
  refine e_ldA rfl ?_
  refine e_gR (SM_k sh hM.1) (SM_r sh (hM.2.1 18 (by decide)).1) ?_
  refine e_cN 5 rfl ?_
  refine e_ldI rfl ?_
  refine e_mul ?_
  refine e_cN 4 rfl ?_
  refine e_add ?_
  refine e_aI (N := 80) (SM_k sh (hM.2.1 18 (by decide)).2.1) (SM_n sh (hM.2.1 18 (by decide)).2.2.1) (by omega) (by decide) (fun v1 hv2 => ?_)
  refine e_ldI rfl ?_
  refine e_bopU (fun r3 => ?_)
  refine e_if0 (fun h4 => ?_) (fun h4 => ?_)
  · refine u_X8_isPartner_19 ?_
    unfold bX8_isPartner_19
    refine e_cN 0 rfl ?_
    refine u_X8_isPartner_20 ?_
    unfold bX8_isPartner_20
    exact e_rZ (by omega) (K 0 _ sh im (by omega))
  · refine e_cN 1 rfl ?_
    refine u_X8_isPartner_20 ?_
    unfold bX8_isPartner_20
    exact e_rZ (by omega) (K 1 _ sh im (by omega))
theorem u_X8_stronger_0 {Q : Option Value → MM → Prop} {n : Nat} {lv : Lv} {st : List Value} {S : MM} {c z : Nat} (h : bX8_stronger_0 Q (wpn (kX8_stronger Q) n) lv st S c z) : wpn (kX8_stronger Q) (n + 1) 0 lv st S c z := h
theorem u_X8_stronger_19 {Q : Option Value → MM → Prop} {n : Nat} {lv : Lv} {st : List Value} {S : MM} {c z : Nat} (h : bX8_stronger_19 Q (wpn (kX8_stronger Q) n) lv st S c z) : wpn (kX8_stronger Q) (n + 1) 19 lv st S c z := h
theorem u_X8_stronger_20 {Q : Option Value → MM → Prop} {n : Nat} {lv : Lv} {st : List Value} {S : MM} {c z : Nat} (h : bX8_stronger_20 Q (wpn (kX8_stronger Q) n) lv st S c z) : wpn (kX8_stronger Q) (n + 1) 20 lv st S c z := h
theorem z_X8_stronger {Q : Option Value → MM → Prop} {S0 : MM} {m : Nat} {A : Nat → Nat}  (hM : MS S0 m A) (im : IM S0 m A)  (K : ∀ j S', SM [] m A S0 S' → IM S' m A → j < 2 → Q (some (.int (nI j))) S') : wX8_stronger [.ref m] S0 Q := by
  have sh : SM [] m A S0 S0 := SM.rf
  refine Exists.intro 60 (u_X8_stronger_0 ?_)
  unfold bX8_stronger_0
  refine e_ldA rfl ?_
  refine e_gR (SM_k sh hM.1) (SM_r sh (hM.2.1 1 (by decide)).1) ?_
  refine e_cN 0 rfl ?_
  refine e_aI (N := 2) (SM_k sh (hM.2.1 1 (by decide)).2.1) (SM_n sh (hM.2.1 1 (by decide)).2.2.1) (by omega) (by decide) (fun v1 hv2 => ?_)
  refine e_ldA rfl ?_
  refine e_gR (SM_k sh hM.1) (SM_r sh (hM.2.1 1 (by decide)).1) ?_
  refine e_cN 1 rfl ?_
  refine e_aI (N := 2) (SM_k sh (hM.2.1 1 (by decide)).2.1) (SM_n sh (hM.2.1 1 (by decide)).2.2.1) (by omega) (by decide) (fun v3 hv4 => ?_)
  refine e_ifc ?_ ?_
  · refine u_X8_stronger_19 ?_
    unfold bX8_stronger_19
    refine e_cN 1 rfl ?_
    refine u_X8_stronger_20 ?_
    unfold bX8_stronger_20
    exact e_rI (K 1 _ sh im (by omega))
  · refine e_cN 0 rfl ?_
    refine u_X8_stronger_20 ?_
    unfold bX8_stronger_20
    exact e_rI (K 0 _ sh im (by omega))
theorem u_X8_forgets_0 {Q : Option Value → MM → Prop} {n : Nat} {lv : Lv} {st : List Value} {S : MM} {c z : Nat} (h : bX8_forgets_0 Q (wpn (kX8_forgets Q) n) lv st S c z) : wpn (kX8_forgets Q) (n + 1) 0 lv st S c z := h
theorem u_X8_forgets_2 {Q : Option Value → MM → Prop} {n : Nat} {lv : Lv} {st : List Value} {S : MM} {c z : Nat} (h : bX8_forgets_2 Q (wpn (kX8_forgets Q) n) lv st S c z) : wpn (kX8_forgets Q) (n + 1) 2 lv st S c z := h
theorem u_X8_forgets_24 {Q : Option Value → MM → Prop} {n : Nat} {lv : Lv} {st : List Value} {S : MM} {c z : Nat} (h : bX8_forgets_24 Q (wpn (kX8_forgets Q) n) lv st S c z) : wpn (kX8_forgets Q) (n + 1) 24 lv st S c z := h
def P_X8_forgets_0 (Q : Option Value → MM → Prop) (S0 : MM) (m : Nat) (A : Nat → Nat) (n : Nat) : Prop := ∀ (lv : Lv) (S : MM) (i1 : Nat), lvg lv 0 = some (.ref m) → lvg lv 1 = some (.int (nI i1)) → i1 < 16 → SM [18] m A S0 S → IM S m A → 372 ≤ n → wpn (kX8_forgets Q) n 0 lv [] S 0 0
def P_X8_forgets_2 (Q : Option Value → MM → Prop) (S0 : MM) (m : Nat) (A : Nat → Nat) (n : Nat) : Prop := ∀ (lv : Lv) (S : MM) (i1 : Nat) (i2 : Nat), lvg lv 0 = some (.ref m) → lvg lv 1 = some (.int (nI i1)) → i1 < 16 → lvg lv 2 = some (.int (nI i2)) → i2 < 6 → SM [18] m A S0 S → IM S m A → 31 + 62 * (5 - i2) ≤ n → wpn (kX8_forgets Q) n 2 lv [] S 0 0
theorem B_X8_forgets_0 {Q : Option Value → MM → Prop} {S0 : MM} {m : Nat} {A : Nat → Nat} {n : Nat} (hM : MS S0 m A) (K : ∀ S', SM [18] m A S0 S' → IM S' m A → Q none S') (t_2 : ∀ k, k ≤ n → P_X8_forgets_2 Q S0 m A k) : P_X8_forgets_0 Q S0 m A (n + 1) := by
  intro lv S i1 g0 g1 h1 sh im hF
  refine u_X8_forgets_0 ?_
  unfold bX8_forgets_0
  refine e_cN 0 rfl ?_
  refine e_stI ?_
  exact t_2 n (by omega) _ _ i1 0 (lvg_ne g0 rfl (by decide)) (lvg_ne g1 rfl (by decide)) (by omega) lvg_self (by omega) sh im (by omega)
theorem B_X8_forgets_2 {Q : Option Value → MM → Prop} {S0 : MM} {m : Nat} {A : Nat → Nat} {n : Nat} (hM : MS S0 m A) (K : ∀ S', SM [18] m A S0 S' → IM S' m A → Q none S') (t_2 : ∀ k, k ≤ n → P_X8_forgets_2 Q S0 m A k) : P_X8_forgets_2 Q S0 m A (n + 1) := by
  intro lv S i1 i2 g0 g1 h1 g2 h2 sh im hF
  refine u_X8_forgets_2 ?_
  unfold bX8_forgets_2
  refine e_ldI g2 ?_
  refine e_cN 5 rfl ?_
  refine e_ge (by omega) (by omega) (fun h1 => ?_) (fun h1 => ?_)
  · obtain ⟨q2, rfl⟩ : ∃ q, n = q + 1 := ⟨n - 1, by omega⟩
    refine u_X8_forgets_24 ?_
    unfold bX8_forgets_24
    exact e_rV (K _ sh im)
  · refine e_ldA g0 ?_
    refine e_gR (SM_k sh hM.1) (SM_r sh (hM.2.1 18 (by decide)).1) ?_
    refine e_cN 5 rfl ?_
    refine e_ldI g1 ?_
    refine e_mul ?_
    refine e_ldI g2 ?_
    refine e_add ?_
    refine e_cN 0 rfl ?_
    refine y_mA (N := 80) hM sh im (by decide) rfl rfl (by omega) (by decide) (by decide) (fun N e => nomatch (show (none : Option Nat) = some N from e)) (fun e => absurd e (by decide)) (fun S3 he4 sh5 ir6 => ?_)
    refine e_inc g2 ?_
    exact t_2 n (by omega) _ _ i1 (i2 + 1) (lvg_ne g0 rfl (by decide)) (lvg_ne g1 rfl (by decide)) (by omega) lvg_self (by omega) sh5 ir6 (by omega)
theorem A_X8_forgets {Q : Option Value → MM → Prop} {S0 : MM} {m : Nat} {A : Nat → Nat} (hM : MS S0 m A) (K : ∀ S', SM [18] m A S0 S' → IM S' m A → Q none S') : ∀ n k, k ≤ n → P_X8_forgets_0 Q S0 m A k ∧ P_X8_forgets_2 Q S0 m A k := by
  intro n
  induction n with
  | zero =>
    intro k hk
    have e : k = 0 := by omega
    subst e
    exact ⟨(fun lv S i1 _ _ _ _ _ hF => absurd hF (by omega)), (fun lv S i1 i2 _ _ _ _ _ _ _ hF => absurd hF (by omega))⟩
  | succ n ih =>
    intro k hk
    by_cases hn : k ≤ n
    · exact ih k hn
    · have e : k = n + 1 := by omega
      subst e
      have T_0 : ∀ k, k ≤ n → P_X8_forgets_0 Q S0 m A k := fun k hk => (ih k hk).1
      have T_2 : ∀ k, k ≤ n → P_X8_forgets_2 Q S0 m A k := fun k hk => (ih k hk).2
      exact ⟨B_X8_forgets_0 hM K T_2, B_X8_forgets_2 hM K T_2⟩
theorem z_X8_forgets {Q : Option Value → MM → Prop} {S0 : MM} {m : Nat} {A : Nat → Nat} {i1 : Nat} (hM : MS S0 m A) (im : IM S0 m A) (h1 : i1 < 16) (K : ∀ S', SM [18] m A S0 S' → IM S' m A → Q none S') : wX8_forgets [.ref m, .int (nI i1)] S0 Q := by
  exact Exists.intro 372 ((A_X8_forgets hM K 372 372 (Nat.le_refl _)).1 _ S0 i1 rfl rfl h1 SM.rf im (by omega))
theorem u_X8_partnerStops_0 {Q : Option Value → MM → Prop} {n : Nat} {lv : Lv} {st : List Value} {S : MM} {c z : Nat} (h : bX8_partnerStops_0 Q (wpn (kX8_partnerStops Q) n) lv st S c z) : wpn (kX8_partnerStops Q) (n + 1) 0 lv st S c z := h
theorem z_X8_partnerStops {Q : Option Value → MM → Prop} {S0 : MM} {m : Nat} {A : Nat → Nat} {i1 : Nat} (hM : MS S0 m A) (im : IM S0 m A) (h1 : i1 < 16) (K : ∀ S', SM [18] m A S0 S' → IM S' m A → Q none S') : wX8_partnerStops [.ref m, .int (nI i1)] S0 Q := by
  have sh : SM [18] m A S0 S0 := SM.rf
  refine Exists.intro 60 (u_X8_partnerStops_0 ?_)
  unfold bX8_partnerStops_0
  refine e_ldA rfl ?_
  refine e_gR (SM_k sh hM.1) (SM_r sh (hM.2.1 18 (by decide)).1) ?_
  refine e_cN 5 rfl ?_
  refine e_ldI rfl ?_
  refine e_mul ?_
  refine e_cN 4 rfl ?_
  refine e_add ?_
  refine e_du2 ?_
  refine e_aI (N := 80) (SM_k sh (hM.2.1 18 (by decide)).2.1) (SM_n sh (hM.2.1 18 (by decide)).2.2.1) (by omega) (by decide) (fun v1 hv2 => ?_)
  refine e_cI ?_
  refine e_bopU (fun r3 => ?_)
  refine y_mA (N := 80) hM sh im (by decide) rfl rfl (by omega) (by decide) (by decide) (fun N e => nomatch (show (none : Option Nat) = some N from e)) (fun e => absurd e (by decide)) (fun S4 he5 sh6 ir7 => ?_)
  exact e_rV (K _ sh6 ir7)
theorem u_X8_goesTo_0 {Q : Option Value → MM → Prop} {n : Nat} {lv : Lv} {st : List Value} {S : MM} {c z : Nat} (h : bX8_goesTo_0 Q (wpn (kX8_goesTo Q) n) lv st S c z) : wpn (kX8_goesTo Q) (n + 1) 0 lv st S c z := h
theorem u_X8_goesTo_25 {Q : Option Value → MM → Prop} {n : Nat} {lv : Lv} {st : List Value} {S : MM} {c z : Nat} (h : bX8_goesTo_25 Q (wpn (kX8_goesTo Q) n) lv st S c z) : wpn (kX8_goesTo Q) (n + 1) 25 lv st S c z := h
theorem u_X8_goesTo_38 {Q : Option Value → MM → Prop} {n : Nat} {lv : Lv} {st : List Value} {S : MM} {c z : Nat} (h : bX8_goesTo_38 Q (wpn (kX8_goesTo Q) n) lv st S c z) : wpn (kX8_goesTo Q) (n + 1) 38 lv st S c z := h
def P_X8_goesTo_0 (Q : Option Value → MM → Prop) (S0 : MM) (m : Nat) (A : Nat → Nat) (n : Nat) : Prop := ∀ (lv : Lv) (S : MM) (i1 : Nat) (w2 : Int32), lvg lv 0 = some (.ref m) → lvg lv 1 = some (.int (nI i1)) → i1 < 16 → lvg lv 2 = some (.int w2) → SM [9, 40] m A S0 S → IM S m A → 93 ≤ n → wpn (kX8_goesTo Q) n 0 lv [] S 0 0
def P_X8_goesTo_25 (Q : Option Value → MM → Prop) (S0 : MM) (m : Nat) (A : Nat → Nat) (n : Nat) : Prop := ∀ (lv : Lv) (S : MM) (i1 : Nat) (w2 : Int32), lvg lv 0 = some (.ref m) → lvg lv 1 = some (.int (nI i1)) → i1 < 16 → lvg lv 2 = some (.int w2) → SM [9, 40] m A S0 S → IM S m A → 62 ≤ n → wpn (kX8_goesTo Q) n 25 lv [] S 0 0
def P_X8_goesTo_38 (Q : Option Value → MM → Prop) (S0 : MM) (m : Nat) (A : Nat → Nat) (n : Nat) : Prop := ∀ (lv : Lv) (S : MM) (i1 : Nat) (w2 : Int32), lvg lv 0 = some (.ref m) → lvg lv 1 = some (.int (nI i1)) → i1 < 16 → lvg lv 2 = some (.int w2) → SM [9, 40] m A S0 S → IM S m A → 31 ≤ n → wpn (kX8_goesTo Q) n 38 lv [] S 0 0
theorem B_X8_goesTo_0 {Q : Option Value → MM → Prop} {S0 : MM} {m : Nat} {A : Nat → Nat} {n : Nat} (hM : MS S0 m A) (K : ∀ S', SM [9, 40] m A S0 S' → IM S' m A → Q none S') (t_25 : ∀ k, k ≤ n → P_X8_goesTo_25 Q S0 m A k) (t_38 : ∀ k, k ≤ n → P_X8_goesTo_38 Q S0 m A k) : P_X8_goesTo_0 Q S0 m A (n + 1) := by
  intro lv S i1 w2 g0 g1 h1 g2 sh im hF
  refine u_X8_goesTo_0 ?_
  unfold bX8_goesTo_0
  refine e_ldI g2 ?_
  refine e_ldA g0 ?_
  refine e_gR (SM_k sh hM.1) (SM_r sh (hM.2.1 9 (by decide)).1) ?_
  refine e_ldI g1 ?_
  refine e_aI (N := 16) (SM_k sh (hM.2.1 9 (by decide)).2.1) (SM_n sh (hM.2.1 9 (by decide)).2.2.1) (by omega) (by decide) (fun v1 hv2 => ?_)
  refine e_ifc ?_ ?_
  · exact t_38 n (by omega) _ _ i1 _ g0 g1 (by omega) g2 sh im (by omega)
  · refine e_ldI g2 ?_
    refine e_cN 4 rfl ?_
    refine e_ifc ?_ ?_
    · exact t_25 n (by omega) _ _ i1 _ g0 g1 (by omega) g2 sh im (by omega)
    · refine e_ldA g0 ?_
      refine e_gR (SM_k sh hM.1) (SM_r sh (hM.2.1 9 (by decide)).1) ?_
      refine e_ldI g1 ?_
      refine e_aI (N := 16) (SM_k sh (hM.2.1 9 (by decide)).2.1) (SM_n sh (hM.2.1 9 (by decide)).2.2.1) (by omega) (by decide) (fun v3 hv4 => ?_)
      refine e_cN 4 rfl ?_
      refine e_ifc ?_ ?_
      · exact t_25 n (by omega) _ _ i1 _ g0 g1 (by omega) g2 sh im (by omega)
      · exact t_38 n (by omega) _ _ i1 _ g0 g1 (by omega) g2 sh im (by omega)
theorem B_X8_goesTo_25 {Q : Option Value → MM → Prop} {S0 : MM} {m : Nat} {A : Nat → Nat} {n : Nat} (hM : MS S0 m A) (K : ∀ S', SM [9, 40] m A S0 S' → IM S' m A → Q none S') (t_38 : ∀ k, k ≤ n → P_X8_goesTo_38 Q S0 m A k) : P_X8_goesTo_25 Q S0 m A (n + 1) := by
  intro lv S i1 w2 g0 g1 h1 g2 sh im hF
  refine u_X8_goesTo_25 ?_
  unfold bX8_goesTo_25
  refine e_ldA g0 ?_
  refine e_gR (SM_k sh hM.1) (SM_r sh (hM.2.1 40 (by decide)).1) ?_
  refine e_ldI g1 ?_
  refine e_cN 8 rfl ?_
  refine e_div (by omega) (by decide) (by decide) ?_
  refine e_du2 ?_
  refine e_aI (N := 2) (SM_k sh (hM.2.1 40 (by decide)).2.1) (SM_n sh (hM.2.1 40 (by decide)).2.2.1) (by omega) (by decide) (fun v1 hv2 => ?_)
  refine e_cN 1 rfl ?_
  refine e_bopU (fun r3 => ?_)
  refine y_mA (N := 2) hM sh im (by decide) rfl rfl (by omega) (by decide) (by decide) (fun N e => nomatch (show (none : Option Nat) = some N from e)) (fun e => absurd e (by decide)) (fun S4 he5 sh6 ir7 => ?_)
  exact t_38 n (by omega) _ _ i1 _ g0 g1 (by omega) g2 sh6 ir7 (by omega)
theorem B_X8_goesTo_38 {Q : Option Value → MM → Prop} {S0 : MM} {m : Nat} {A : Nat → Nat} {n : Nat} (hM : MS S0 m A) (K : ∀ S', SM [9, 40] m A S0 S' → IM S' m A → Q none S')  : P_X8_goesTo_38 Q S0 m A (n + 1) := by
  intro lv S i1 w2 g0 g1 h1 g2 sh im hF
  refine u_X8_goesTo_38 ?_
  unfold bX8_goesTo_38
  refine e_ldA g0 ?_
  refine e_gR (SM_k sh hM.1) (SM_r sh (hM.2.1 9 (by decide)).1) ?_
  refine e_ldI g1 ?_
  refine e_ldI g2 ?_
  refine y_mA (N := 16) hM sh im (by decide) rfl rfl (by omega) (by decide) (by decide) (fun N e => nomatch (show (none : Option Nat) = some N from e)) (fun e => absurd e (by decide)) (fun S1 he2 sh3 ir4 => ?_)
  exact e_rV (K _ sh3 ir4)
theorem A_X8_goesTo {Q : Option Value → MM → Prop} {S0 : MM} {m : Nat} {A : Nat → Nat} (hM : MS S0 m A) (K : ∀ S', SM [9, 40] m A S0 S' → IM S' m A → Q none S') : ∀ n k, k ≤ n → P_X8_goesTo_0 Q S0 m A k ∧ P_X8_goesTo_25 Q S0 m A k ∧ P_X8_goesTo_38 Q S0 m A k := by
  intro n
  induction n with
  | zero =>
    intro k hk
    have e : k = 0 := by omega
    subst e
    exact ⟨(fun lv S i1 w2 _ _ _ _ _ _ hF => absurd hF (by omega)), (fun lv S i1 w2 _ _ _ _ _ _ hF => absurd hF (by omega)), (fun lv S i1 w2 _ _ _ _ _ _ hF => absurd hF (by omega))⟩
  | succ n ih =>
    intro k hk
    by_cases hn : k ≤ n
    · exact ih k hn
    · have e : k = n + 1 := by omega
      subst e
      have T_0 : ∀ k, k ≤ n → P_X8_goesTo_0 Q S0 m A k := fun k hk => (ih k hk).1
      have T_25 : ∀ k, k ≤ n → P_X8_goesTo_25 Q S0 m A k := fun k hk => (ih k hk).2.1
      have T_38 : ∀ k, k ≤ n → P_X8_goesTo_38 Q S0 m A k := fun k hk => (ih k hk).2.2
      exact ⟨B_X8_goesTo_0 hM K T_25 T_38, B_X8_goesTo_25 hM K T_38, B_X8_goesTo_38 hM K ⟩
theorem z_X8_goesTo {Q : Option Value → MM → Prop} {S0 : MM} {m : Nat} {A : Nat → Nat} {i1 : Nat} {w2 : Int32} (hM : MS S0 m A) (im : IM S0 m A) (h1 : i1 < 16) (K : ∀ S', SM [9, 40] m A S0 S' → IM S' m A → Q none S') : wX8_goesTo [.ref m, .int (nI i1), .int w2] S0 Q := by
  exact Exists.intro 93 ((A_X8_goesTo hM K 93 93 (Nat.le_refl _)).1 _ S0 i1 w2 rfl rfl h1 rfl SM.rf im (by omega))
theorem u_X8_isLitNow_0 {Q : Option Value → MM → Prop} {n : Nat} {lv : Lv} {st : List Value} {S : MM} {c z : Nat} (h : bX8_isLitNow_0 Q (wpn (kX8_isLitNow Q) n) lv st S c z) : wpn (kX8_isLitNow Q) (n + 1) 0 lv st S c z := h
theorem z_X8_isLitNow {Q : Option Value → MM → Prop} {S0 : MM} {m : Nat} {A : Nat → Nat} {i1 : Nat} (hM : MS S0 m A) (im : IM S0 m A) (h1 : i1 < 16) (K : ∀ S', SM [7, 8, 9, 14, 18, 21, 40] m A S0 S' → IM S' m A → Q none S') : wX8_isLitNow [.ref m, .int (nI i1)] S0 Q := by
  have sh : SM [7, 8, 9, 14, 18, 21, 40] m A S0 S0 := SM.rf
  refine Exists.intro 60 (u_X8_isLitNow_0 ?_)
  unfold bX8_isLitNow_0
  refine e_ldA rfl ?_
  refine e_gR (SM_k sh hM.1) (SM_r sh (hM.2.1 7 (by decide)).1) ?_
  refine e_ldI rfl ?_
  refine e_cN 1 rfl ?_
  refine y_mA (N := 16) hM sh im (by decide) rfl rfl (by omega) (by decide) (by decide) (fun N e => nomatch (show (none : Option Nat) = some N from e)) (fun e => absurd e (by decide)) (fun S1 he2 sh3 ir4 => ?_)
  refine e_ldA rfl ?_
  refine e_gR (SM_k sh3 hM.1) (SM_r sh3 (hM.2.1 8 (by decide)).1) ?_
  refine e_ldI rfl ?_
  refine e_cN 3 rfl ?_
  refine y_mA (N := 16) hM sh3 ir4 (by decide) rfl rfl (by omega) (by decide) (by decide) (fun N e => nomatch (show (none : Option Nat) = some N from e)) (fun e => absurd e (by decide)) (fun S5 he6 sh7 ir8 => ?_)
  refine e_ldA rfl ?_
  refine e_ldI rfl ?_
  refine And.intro (SM_k sh7 hM.1) (And.intro ⟨by decide, by decide⟩ (z_X8_partnerStops (MS_SM hM sh7) ir8 (show i1 < 16 by omega) (fun S9 s10 ir11 => ?_)))
  have sh12 := SM.tr sh7 s10 (by decide)
  refine e_ldA rfl ?_
  refine e_ldI rfl ?_
  refine e_cN 0 rfl ?_
  refine And.intro (SM_k sh12 hM.1) (And.intro ⟨by decide, by decide⟩ (z_X8_goesTo (MS_SM hM sh12) ir11 (show i1 < 16 by omega) (fun S13 s14 ir15 => ?_)))
  have sh16 := SM.tr sh12 s14 (by decide)
  refine e_ldA rfl ?_
  refine e_gR (SM_k sh16 hM.1) (SM_r sh16 (hM.2.1 14 (by decide)).1) ?_
  refine e_ldI rfl ?_
  refine e_cN 0 rfl ?_
  refine y_mB (N := 16) hM sh16 ir15 (by decide) rfl rfl (by omega) (by decide) (by omega) (by decide) (fun N e => nomatch (show (none : Option Nat) = some N from e)) (fun e => absurd e (by decide)) (fun S17 he18 sh19 ir20 => ?_)
  refine e_ldA rfl ?_
  refine e_gR (SM_k sh19 hM.1) (SM_r sh19 (hM.2.1 21 (by decide)).1) ?_
  refine e_ldI rfl ?_
  refine e_cI ?_
  refine y_mA (N := 16) hM sh19 ir20 (by decide) rfl rfl (by omega) (by decide) (by decide) (fun N e => nomatch (show (none : Option Nat) = some N from e)) (fun e => absurd e (by decide)) (fun S21 he22 sh23 ir24 => ?_)
  exact e_rV (K _ sh23 ir24)
theorem u_X8_isDarkNow_0 {Q : Option Value → MM → Prop} {n : Nat} {lv : Lv} {st : List Value} {S : MM} {c z : Nat} (h : bX8_isDarkNow_0 Q (wpn (kX8_isDarkNow Q) n) lv st S c z) : wpn (kX8_isDarkNow Q) (n + 1) 0 lv st S c z := h
theorem z_X8_isDarkNow {Q : Option Value → MM → Prop} {S0 : MM} {m : Nat} {A : Nat → Nat} {i1 : Nat} (hM : MS S0 m A) (im : IM S0 m A) (h1 : i1 < 16) (K : ∀ S', SM [7, 8, 9, 12, 13, 14, 18, 21, 40] m A S0 S' → IM S' m A → Q none S') : wX8_isDarkNow [.ref m, .int (nI i1)] S0 Q := by
  have sh : SM [7, 8, 9, 12, 13, 14, 18, 21, 40] m A S0 S0 := SM.rf
  refine Exists.intro 60 (u_X8_isDarkNow_0 ?_)
  unfold bX8_isDarkNow_0
  refine e_ldA rfl ?_
  refine e_gR (SM_k sh hM.1) (SM_r sh (hM.2.1 7 (by decide)).1) ?_
  refine e_ldI rfl ?_
  refine e_cN 0 rfl ?_
  refine y_mA (N := 16) hM sh im (by decide) rfl rfl (by omega) (by decide) (by decide) (fun N e => nomatch (show (none : Option Nat) = some N from e)) (fun e => absurd e (by decide)) (fun S1 he2 sh3 ir4 => ?_)
  refine e_ldA rfl ?_
  refine e_gR (SM_k sh3 hM.1) (SM_r sh3 (hM.2.1 8 (by decide)).1) ?_
  refine e_ldI rfl ?_
  refine e_cN 0 rfl ?_
  refine y_mA (N := 16) hM sh3 ir4 (by decide) rfl rfl (by omega) (by decide) (by decide) (fun N e => nomatch (show (none : Option Nat) = some N from e)) (fun e => absurd e (by decide)) (fun S5 he6 sh7 ir8 => ?_)
  refine e_ldA rfl ?_
  refine e_ldI rfl ?_
  refine e_cN 0 rfl ?_
  refine And.intro (SM_k sh7 hM.1) (And.intro ⟨by decide, by decide⟩ (z_X8_goesTo (MS_SM hM sh7) ir8 (show i1 < 16 by omega) (fun S9 s10 ir11 => ?_)))
  have sh12 := SM.tr sh7 s10 (by decide)
  refine e_ldA rfl ?_
  refine e_ldI rfl ?_
  refine And.intro (SM_k sh12 hM.1) (And.intro ⟨by decide, by decide⟩ (z_X8_forgets (MS_SM hM sh12) ir11 (show i1 < 16 by omega) (fun S13 s14 ir15 => ?_)))
  have sh16 := SM.tr sh12 s14 (by decide)
  refine e_ldA rfl ?_
  refine e_gR (SM_k sh16 hM.1) (SM_r sh16 (hM.2.1 12 (by decide)).1) ?_
  refine e_ldI rfl ?_
  refine e_cI ?_
  refine y_mA (N := 16) hM sh16 ir15 (by decide) rfl rfl (by omega) (by decide) (by decide) (fun N e => nomatch (show (none : Option Nat) = some N from e)) (fun e => absurd e (by decide)) (fun S17 he18 sh19 ir20 => ?_)
  refine e_ldA rfl ?_
  refine e_gR (SM_k sh19 hM.1) (SM_r sh19 (hM.2.1 13 (by decide)).1) ?_
  refine e_ldI rfl ?_
  refine e_cN 0 rfl ?_
  refine y_mB (N := 16) hM sh19 ir20 (by decide) rfl rfl (by omega) (by decide) (by omega) (by decide) (fun N e => nomatch (show (none : Option Nat) = some N from e)) (fun e => absurd e (by decide)) (fun S21 he22 sh23 ir24 => ?_)
  refine e_ldA rfl ?_
  refine e_gR (SM_k sh23 hM.1) (SM_r sh23 (hM.2.1 14 (by decide)).1) ?_
  refine e_ldI rfl ?_
  refine e_cN 0 rfl ?_
  refine y_mB (N := 16) hM sh23 ir24 (by decide) rfl rfl (by omega) (by decide) (by omega) (by decide) (fun N e => nomatch (show (none : Option Nat) = some N from e)) (fun e => absurd e (by decide)) (fun S25 he26 sh27 ir28 => ?_)
  refine e_ldA rfl ?_
  refine e_gR (SM_k sh27 hM.1) (SM_r sh27 (hM.2.1 21 (by decide)).1) ?_
  refine e_ldI rfl ?_
  refine e_cI ?_
  refine y_mA (N := 16) hM sh27 ir28 (by decide) rfl rfl (by omega) (by decide) (by decide) (fun N e => nomatch (show (none : Option Nat) = some N from e)) (fun e => absurd e (by decide)) (fun S29 he30 sh31 ir32 => ?_)
  exact e_rV (K _ sh31 ir32)
theorem u_X8_isNotQuiet_0 {Q : Option Value → MM → Prop} {n : Nat} {lv : Lv} {st : List Value} {S : MM} {c z : Nat} (h : bX8_isNotQuiet_0 Q (wpn (kX8_isNotQuiet Q) n) lv st S c z) : wpn (kX8_isNotQuiet Q) (n + 1) 0 lv st S c z := h
theorem z_X8_isNotQuiet {Q : Option Value → MM → Prop} {S0 : MM} {m : Nat} {A : Nat → Nat}  (hM : MS S0 m A) (im : IM S0 m A)  (K : ∀ S', SM [44] m A S0 S' → IM S' m A → Q none S') : wX8_isNotQuiet [.ref m] S0 Q := by
  have sh : SM [44] m A S0 S0 := SM.rf
  refine Exists.intro 60 (u_X8_isNotQuiet_0 ?_)
  unfold bX8_isNotQuiet_0
  refine e_ldA rfl ?_
  refine e_cN 0 rfl ?_
  refine y_mI hM sh im (by decide) (fun N e => nomatch (show (none : Option Nat) = some N from e)) (fun S1 he2 sh3 ir4 => ?_)
  exact e_rV (K _ sh3 ir4)
theorem u_X8_system_0 {Q : Option Value → MM → Prop} {n : Nat} {lv : Lv} {st : List Value} {S : MM} {c z : Nat} (h : bX8_system_0 Q (wpn (kX8_system Q) n) lv st S c z) : wpn (kX8_system Q) (n + 1) 0 lv st S c z := h
theorem u_X8_system_19 {Q : Option Value → MM → Prop} {n : Nat} {lv : Lv} {st : List Value} {S : MM} {c z : Nat} (h : bX8_system_19 Q (wpn (kX8_system Q) n) lv st S c z) : wpn (kX8_system Q) (n + 1) 19 lv st S c z := h
theorem u_X8_system_23 {Q : Option Value → MM → Prop} {n : Nat} {lv : Lv} {st : List Value} {S : MM} {c z : Nat} (h : bX8_system_23 Q (wpn (kX8_system Q) n) lv st S c z) : wpn (kX8_system Q) (n + 1) 23 lv st S c z := h
theorem u_X8_system_39 {Q : Option Value → MM → Prop} {n : Nat} {lv : Lv} {st : List Value} {S : MM} {c z : Nat} (h : bX8_system_39 Q (wpn (kX8_system Q) n) lv st S c z) : wpn (kX8_system Q) (n + 1) 39 lv st S c z := h
theorem u_X8_system_40 {Q : Option Value → MM → Prop} {n : Nat} {lv : Lv} {st : List Value} {S : MM} {c z : Nat} (h : bX8_system_40 Q (wpn (kX8_system Q) n) lv st S c z) : wpn (kX8_system Q) (n + 1) 40 lv st S c z := h
theorem u_X8_system_52 {Q : Option Value → MM → Prop} {n : Nat} {lv : Lv} {st : List Value} {S : MM} {c z : Nat} (h : bX8_system_52 Q (wpn (kX8_system Q) n) lv st S c z) : wpn (kX8_system Q) (n + 1) 52 lv st S c z := h
theorem z_X8_system {Q : Option Value → MM → Prop} {S0 : MM} {m : Nat} {A : Nat → Nat} {w1 : Int32} {w2 : Int32} (hM : MS S0 m A) (im : IM S0 m A)  (K : ∀ r S', SM [0, 1, 44] m A S0 S' → IM S' m A → Q (some (.int r)) S') : wX8_system [.ref m, .int w1, .int w2] S0 Q := by
  have sh : SM [0, 1, 44] m A S0 S0 := SM.rf
  refine Exists.intro 60 (u_X8_system_0 ?_)
  unfold bX8_system_0
  refine e_ldA rfl ?_
  refine e_ldI rfl ?_
  refine And.intro ⟨by decide, by decide⟩ (z_X8_isEnd ?_ (fun j1 hj2 e3 => ?_))
  · refine e_ifN (by omega) (fun h4 => ?_) (fun h4 => ?_)
    · refine u_X8_system_19 ?_
      unfold bX8_system_19
      refine e_cN 1 rfl ?_
      refine u_X8_system_40 ?_
      unfold bX8_system_40
      refine y_mI hM sh im (by decide) (fun N e => nomatch (show (none : Option Nat) = some N from e)) (fun S5 he6 sh7 ir8 => ?_)
      refine e_ldA rfl ?_
      refine e_gV (v := nI 1) (SM_k sh7 hM.1) (by rw [he6]; exact rd_s) ?_
      refine e_lez (by omega) (fun h9 => ?_) (fun h9 => ?_)
      · exact absurd h9 (by decide)
      · refine e_cN 0 rfl ?_
        exact e_rI (K _ _ sh7 ir8)
    · exact absurd rfl h4
  · subst e3
    refine e_ifN (by omega) (fun h10 => ?_) (fun h10 => ?_)
    · exact absurd h10 (by decide)
    · refine e_ldI rfl ?_
      refine e_cN 1 rfl ?_
      refine e_ifc ?_ ?_
      · refine u_X8_system_19 ?_
        unfold bX8_system_19
        refine e_cN 1 rfl ?_
        refine u_X8_system_40 ?_
        unfold bX8_system_40
        refine y_mI hM sh im (by decide) (fun N e => nomatch (show (none : Option Nat) = some N from e)) (fun S11 he12 sh13 ir14 => ?_)
        refine e_ldA rfl ?_
        refine e_gV (v := nI 1) (SM_k sh13 hM.1) (by rw [he12]; exact rd_s) ?_
        refine e_lez (by omega) (fun h15 => ?_) (fun h15 => ?_)
        · exact absurd h15 (by decide)
        · refine e_cN 0 rfl ?_
          exact e_rI (K _ _ sh13 ir14)
      · refine e_ldI rfl ?_
        refine e_cN 1000000 rfl ?_
        refine e_ifc ?_ ?_
        · refine u_X8_system_23 ?_
          unfold bX8_system_23
          refine e_ldA rfl ?_
          refine e_gR (SM_k sh hM.1) (SM_r sh (hM.2.1 1 (by decide)).1) ?_
          refine e_cN 1 rfl ?_
          refine e_ldI rfl ?_
          refine e_sub (by omega) ?_
          refine e_aI (N := 2) (SM_k sh (hM.2.1 1 (by decide)).2.1) (SM_n sh (hM.2.1 1 (by decide)).2.2.1) (by omega) (by decide) (fun v16 hv17 => ?_)
          refine e_ldI rfl ?_
          refine e_ifc ?_ ?_
          · refine e_cN 2 rfl ?_
            refine u_X8_system_40 ?_
            unfold bX8_system_40
            refine y_mI hM sh im (by decide) (fun N e => nomatch (show (none : Option Nat) = some N from e)) (fun S18 he19 sh20 ir21 => ?_)
            refine e_ldA rfl ?_
            refine e_gV (v := nI 2) (SM_k sh20 hM.1) (by rw [he19]; exact rd_s) ?_
            refine e_lez (by omega) (fun h22 => ?_) (fun h22 => ?_)
            · exact absurd h22 (by decide)
            · refine e_cN 0 rfl ?_
              exact e_rI (K _ _ sh20 ir21)
          · refine u_X8_system_39 ?_
            unfold bX8_system_39
            refine e_cN 0 rfl ?_
            refine u_X8_system_40 ?_
            unfold bX8_system_40
            refine y_mI hM sh im (by decide) (fun N e => nomatch (show (none : Option Nat) = some N from e)) (fun S23 he24 sh25 ir26 => ?_)
            refine e_ldA rfl ?_
            refine e_gV (v := nI 0) (SM_k sh25 hM.1) (by rw [he24]; exact rd_s) ?_
            refine e_lez (by omega) (fun h27 => ?_) (fun h27 => ?_)
            · refine u_X8_system_52 ?_
              unfold bX8_system_52
              refine e_ldA rfl ?_
              refine e_gR (SM_k sh25 hM.1) (SM_r sh25 (hM.2.1 1 (by decide)).1) ?_
              refine e_ldI rfl ?_
              refine e_aI (N := 2) (SM_k sh25 (hM.2.1 1 (by decide)).2.1) (SM_n sh25 (hM.2.1 1 (by decide)).2.2.1) (by omega) (by decide) (fun v28 hv29 => ?_)
              refine e_stI ?_
              refine e_ldA (lvg_ne rfl rfl (by decide)) ?_
              refine e_gR (SM_k sh25 hM.1) (SM_r sh25 (hM.2.1 1 (by decide)).1) ?_
              refine e_ldI (lvg_ne rfl rfl (by decide)) ?_
              refine e_ldI (lvg_ne rfl rfl (by decide)) ?_
              refine y_mA (N := 2) hM sh25 ir26 (by decide) rfl rfl (by omega) (by decide) (by decide) (fun N e => nomatch (show (none : Option Nat) = some N from e)) (fun e => absurd e (by decide)) (fun S30 he31 sh32 ir33 => ?_)
              refine e_ldA (lvg_ne rfl rfl (by decide)) ?_
              refine And.intro (SM_k sh32 hM.1) (And.intro ⟨by decide, by decide⟩ (z_X8_isNotQuiet (MS_SM hM sh32) ir33 (fun S34 s35 ir36 => ?_)))
              have sh37 := SM.tr sh32 s35 (by decide)
              refine e_ldI lvg_self ?_
              exact e_rI (K _ _ sh37 ir36)
            · exact absurd rfl h27
        · refine u_X8_system_19 ?_
          unfold bX8_system_19
          refine e_cN 1 rfl ?_
          refine u_X8_system_40 ?_
          unfold bX8_system_40
          refine y_mI hM sh im (by decide) (fun N e => nomatch (show (none : Option Nat) = some N from e)) (fun S38 he39 sh40 ir41 => ?_)
          refine e_ldA rfl ?_
          refine e_gV (v := nI 1) (SM_k sh40 hM.1) (by rw [he39]; exact rd_s) ?_
          refine e_lez (by omega) (fun h42 => ?_) (fun h42 => ?_)
          · exact absurd h42 (by decide)
          · refine e_cN 0 rfl ?_
            exact e_rI (K _ _ sh40 ir41)
theorem u_X8_limit_0 {Q : Option Value → MM → Prop} {n : Nat} {lv : Lv} {st : List Value} {S : MM} {c z : Nat} (h : bX8_limit_0 Q (wpn (kX8_limit Q) n) lv st S c z) : wpn (kX8_limit Q) (n + 1) 0 lv st S c z := h
theorem u_X8_limit_19 {Q : Option Value → MM → Prop} {n : Nat} {lv : Lv} {st : List Value} {S : MM} {c z : Nat} (h : bX8_limit_19 Q (wpn (kX8_limit Q) n) lv st S c z) : wpn (kX8_limit Q) (n + 1) 19 lv st S c z := h
theorem u_X8_limit_23 {Q : Option Value → MM → Prop} {n : Nat} {lv : Lv} {st : List Value} {S : MM} {c z : Nat} (h : bX8_limit_23 Q (wpn (kX8_limit Q) n) lv st S c z) : wpn (kX8_limit Q) (n + 1) 23 lv st S c z := h
theorem u_X8_limit_24 {Q : Option Value → MM → Prop} {n : Nat} {lv : Lv} {st : List Value} {S : MM} {c z : Nat} (h : bX8_limit_24 Q (wpn (kX8_limit Q) n) lv st S c z) : wpn (kX8_limit Q) (n + 1) 24 lv st S c z := h
theorem u_X8_limit_36 {Q : Option Value → MM → Prop} {n : Nat} {lv : Lv} {st : List Value} {S : MM} {c z : Nat} (h : bX8_limit_36 Q (wpn (kX8_limit Q) n) lv st S c z) : wpn (kX8_limit Q) (n + 1) 36 lv st S c z := h
theorem z_X8_limit {Q : Option Value → MM → Prop} {S0 : MM} {m : Nat} {A : Nat → Nat} {w1 : Int32} {w2 : Int32} (hM : MS S0 m A) (im : IM S0 m A)  (K : ∀ r S', SM [0, 2, 44] m A S0 S' → IM S' m A → Q (some (.int r)) S') : wX8_limit [.ref m, .int w1, .int w2] S0 Q := by
  have sh : SM [0, 2, 44] m A S0 S0 := SM.rf
  refine Exists.intro 60 (u_X8_limit_0 ?_)
  unfold bX8_limit_0
  refine e_ldA rfl ?_
  refine e_ldI rfl ?_
  refine And.intro ⟨by decide, by decide⟩ (z_X8_isEnd ?_ (fun j1 hj2 e3 => ?_))
  · refine e_ifN (by omega) (fun h4 => ?_) (fun h4 => ?_)
    · refine u_X8_limit_19 ?_
      unfold bX8_limit_19
      refine e_cN 1 rfl ?_
      refine u_X8_limit_24 ?_
      unfold bX8_limit_24
      refine y_mI hM sh im (by decide) (fun N e => nomatch (show (none : Option Nat) = some N from e)) (fun S5 he6 sh7 ir8 => ?_)
      refine e_ldA rfl ?_
      refine e_gV (v := nI 1) (SM_k sh7 hM.1) (by rw [he6]; exact rd_s) ?_
      refine e_lez (by omega) (fun h9 => ?_) (fun h9 => ?_)
      · exact absurd h9 (by decide)
      · refine e_cN 0 rfl ?_
        exact e_rI (K _ _ sh7 ir8)
    · exact absurd rfl h4
  · subst e3
    refine e_ifN (by omega) (fun h10 => ?_) (fun h10 => ?_)
    · exact absurd h10 (by decide)
    · refine e_ldI rfl ?_
      refine e_cN 1 rfl ?_
      refine e_ifc ?_ ?_
      · refine u_X8_limit_19 ?_
        unfold bX8_limit_19
        refine e_cN 1 rfl ?_
        refine u_X8_limit_24 ?_
        unfold bX8_limit_24
        refine y_mI hM sh im (by decide) (fun N e => nomatch (show (none : Option Nat) = some N from e)) (fun S11 he12 sh13 ir14 => ?_)
        refine e_ldA rfl ?_
        refine e_gV (v := nI 1) (SM_k sh13 hM.1) (by rw [he12]; exact rd_s) ?_
        refine e_lez (by omega) (fun h15 => ?_) (fun h15 => ?_)
        · exact absurd h15 (by decide)
        · refine e_cN 0 rfl ?_
          exact e_rI (K _ _ sh13 ir14)
      · refine e_ldI rfl ?_
        refine e_cN 8 rfl ?_
        refine e_ifc ?_ ?_
        · refine u_X8_limit_23 ?_
          unfold bX8_limit_23
          refine e_cN 0 rfl ?_
          refine u_X8_limit_24 ?_
          unfold bX8_limit_24
          refine y_mI hM sh im (by decide) (fun N e => nomatch (show (none : Option Nat) = some N from e)) (fun S16 he17 sh18 ir19 => ?_)
          refine e_ldA rfl ?_
          refine e_gV (v := nI 0) (SM_k sh18 hM.1) (by rw [he17]; exact rd_s) ?_
          refine e_lez (by omega) (fun h20 => ?_) (fun h20 => ?_)
          · refine u_X8_limit_36 ?_
            unfold bX8_limit_36
            refine e_ldA rfl ?_
            refine e_gR (SM_k sh18 hM.1) (SM_r sh18 (hM.2.1 2 (by decide)).1) ?_
            refine e_ldI rfl ?_
            refine e_aI (N := 2) (SM_k sh18 (hM.2.1 2 (by decide)).2.1) (SM_n sh18 (hM.2.1 2 (by decide)).2.2.1) (by omega) (by decide) (fun v21 hv22 => ?_)
            refine e_stI ?_
            refine e_ldA (lvg_ne rfl rfl (by decide)) ?_
            refine e_gR (SM_k sh18 hM.1) (SM_r sh18 (hM.2.1 2 (by decide)).1) ?_
            refine e_ldI (lvg_ne rfl rfl (by decide)) ?_
            refine e_ldI (lvg_ne rfl rfl (by decide)) ?_
            refine y_mA (N := 2) hM sh18 ir19 (by decide) rfl rfl (by omega) (by decide) (by decide) (fun N e => nomatch (show (none : Option Nat) = some N from e)) (fun e => absurd e (by decide)) (fun S23 he24 sh25 ir26 => ?_)
            refine e_ldA (lvg_ne rfl rfl (by decide)) ?_
            refine And.intro (SM_k sh25 hM.1) (And.intro ⟨by decide, by decide⟩ (z_X8_isNotQuiet (MS_SM hM sh25) ir26 (fun S27 s28 ir29 => ?_)))
            have sh30 := SM.tr sh25 s28 (by decide)
            refine e_ldI lvg_self ?_
            exact e_rI (K _ _ sh30 ir29)
          · exact absurd rfl h20
        · refine u_X8_limit_19 ?_
          unfold bX8_limit_19
          refine e_cN 1 rfl ?_
          refine u_X8_limit_24 ?_
          unfold bX8_limit_24
          refine y_mI hM sh im (by decide) (fun N e => nomatch (show (none : Option Nat) = some N from e)) (fun S31 he32 sh33 ir34 => ?_)
          refine e_ldA rfl ?_
          refine e_gV (v := nI 1) (SM_k sh33 hM.1) (by rw [he32]; exact rd_s) ?_
          refine e_lez (by omega) (fun h35 => ?_) (fun h35 => ?_)
          · exact absurd h35 (by decide)
          · refine e_cN 0 rfl ?_
            exact e_rI (K _ _ sh33 ir34)
theorem u_X8_port_0 {Q : Option Value → MM → Prop} {n : Nat} {lv : Lv} {st : List Value} {S : MM} {c z : Nat} (h : bX8_port_0 Q (wpn (kX8_port Q) n) lv st S c z) : wpn (kX8_port Q) (n + 1) 0 lv st S c z := h
theorem u_X8_port_37 {Q : Option Value → MM → Prop} {n : Nat} {lv : Lv} {st : List Value} {S : MM} {c z : Nat} (h : bX8_port_37 Q (wpn (kX8_port Q) n) lv st S c z) : wpn (kX8_port Q) (n + 1) 37 lv st S c z := h
theorem u_X8_port_41 {Q : Option Value → MM → Prop} {n : Nat} {lv : Lv} {st : List Value} {S : MM} {c z : Nat} (h : bX8_port_41 Q (wpn (kX8_port Q) n) lv st S c z) : wpn (kX8_port Q) (n + 1) 41 lv st S c z := h
theorem u_X8_port_42 {Q : Option Value → MM → Prop} {n : Nat} {lv : Lv} {st : List Value} {S : MM} {c z : Nat} (h : bX8_port_42 Q (wpn (kX8_port Q) n) lv st S c z) : wpn (kX8_port Q) (n + 1) 42 lv st S c z := h
theorem u_X8_port_53 {Q : Option Value → MM → Prop} {n : Nat} {lv : Lv} {st : List Value} {S : MM} {c z : Nat} (h : bX8_port_53 Q (wpn (kX8_port Q) n) lv st S c z) : wpn (kX8_port Q) (n + 1) 53 lv st S c z := h
theorem z_X8_port {Q : Option Value → MM → Prop} {S0 : MM} {m : Nat} {A : Nat → Nat} {w1 : Int32} {w2 : Int32} {w3 : Int32} {w4 : Int32} (hM : MS S0 m A) (im : IM S0 m A)  (K : ∀ S', SM [0, 3, 4, 44] m A S0 S' → IM S' m A → Q none S') : wX8_port [.ref m, .int w1, .int w2, .int w3, .int w4] S0 Q := by
  have sh : SM [0, 3, 4, 44] m A S0 S0 := SM.rf
  refine Exists.intro 60 (u_X8_port_0 ?_)
  unfold bX8_port_0
  refine e_ldA rfl ?_
  refine e_ldI rfl ?_
  refine And.intro ⟨by decide, by decide⟩ (z_X8_isEnd ?_ (fun j1 hj2 e3 => ?_))
  · refine e_ifN (by omega) (fun h4 => ?_) (fun h4 => ?_)
    · refine u_X8_port_37 ?_
      unfold bX8_port_37
      refine e_cN 1 rfl ?_
      refine u_X8_port_42 ?_
      unfold bX8_port_42
      refine y_mI hM sh im (by decide) (fun N e => nomatch (show (none : Option Nat) = some N from e)) (fun S5 he6 sh7 ir8 => ?_)
      refine e_ldA rfl ?_
      refine e_gV (v := nI 1) (SM_k sh7 hM.1) (by rw [he6]; exact rd_s) ?_
      refine e_lez (by omega) (fun h9 => ?_) (fun h9 => ?_)
      · exact absurd h9 (by decide)
      · exact e_rV (K _ sh7 ir8)
    · exact absurd rfl h4
  · subst e3
    refine e_ifN (by omega) (fun h10 => ?_) (fun h10 => ?_)
    · exact absurd h10 (by decide)
    · refine e_ldI rfl ?_
      refine And.intro ⟨by decide, by decide⟩ (z_X8_isPort ?_ (fun j11 hj12 e13 => ?_))
      · refine e_ifN (by omega) (fun h14 => ?_) (fun h14 => ?_)
        · refine u_X8_port_37 ?_
          unfold bX8_port_37
          refine e_cN 1 rfl ?_
          refine u_X8_port_42 ?_
          unfold bX8_port_42
          refine y_mI hM sh im (by decide) (fun N e => nomatch (show (none : Option Nat) = some N from e)) (fun S15 he16 sh17 ir18 => ?_)
          refine e_ldA rfl ?_
          refine e_gV (v := nI 1) (SM_k sh17 hM.1) (by rw [he16]; exact rd_s) ?_
          refine e_lez (by omega) (fun h19 => ?_) (fun h19 => ?_)
          · exact absurd h19 (by decide)
          · exact e_rV (K _ sh17 ir18)
        · exact absurd rfl h14
      · subst e13
        refine e_ifN (by omega) (fun h20 => ?_) (fun h20 => ?_)
        · exact absurd h20 (by decide)
        · refine e_ldI rfl ?_
          refine e_ltz ?_ (fun j21 hj22 e23 => ?_)
          · refine u_X8_port_37 ?_
            unfold bX8_port_37
            refine e_cN 1 rfl ?_
            refine u_X8_port_42 ?_
            unfold bX8_port_42
            refine y_mI hM sh im (by decide) (fun N e => nomatch (show (none : Option Nat) = some N from e)) (fun S24 he25 sh26 ir27 => ?_)
            refine e_ldA rfl ?_
            refine e_gV (v := nI 1) (SM_k sh26 hM.1) (by rw [he25]; exact rd_s) ?_
            refine e_lez (by omega) (fun h28 => ?_) (fun h28 => ?_)
            · exact absurd h28 (by decide)
            · exact e_rV (K _ sh26 ir27)
          · subst e23
            refine e_ldI rfl ?_
            refine e_cN 65535 rfl ?_
            refine e_ifc ?_ ?_
            · refine u_X8_port_37 ?_
              unfold bX8_port_37
              refine e_cN 1 rfl ?_
              refine u_X8_port_42 ?_
              unfold bX8_port_42
              refine y_mI hM sh im (by decide) (fun N e => nomatch (show (none : Option Nat) = some N from e)) (fun S29 he30 sh31 ir32 => ?_)
              refine e_ldA rfl ?_
              refine e_gV (v := nI 1) (SM_k sh31 hM.1) (by rw [he30]; exact rd_s) ?_
              refine e_lez (by omega) (fun h33 => ?_) (fun h33 => ?_)
              · exact absurd h33 (by decide)
              · exact e_rV (K _ sh31 ir32)
            · refine e_ldI rfl ?_
              refine e_ltz ?_ (fun j34 hj35 e36 => ?_)
              · refine u_X8_port_37 ?_
                unfold bX8_port_37
                refine e_cN 1 rfl ?_
                refine u_X8_port_42 ?_
                unfold bX8_port_42
                refine y_mI hM sh im (by decide) (fun N e => nomatch (show (none : Option Nat) = some N from e)) (fun S37 he38 sh39 ir40 => ?_)
                refine e_ldA rfl ?_
                refine e_gV (v := nI 1) (SM_k sh39 hM.1) (by rw [he38]; exact rd_s) ?_
                refine e_lez (by omega) (fun h41 => ?_) (fun h41 => ?_)
                · exact absurd h41 (by decide)
                · exact e_rV (K _ sh39 ir40)
              · subst e36
                refine e_ldI rfl ?_
                refine e_cN 65535 rfl ?_
                refine e_le (by omega) (by omega) (fun h42 => ?_) (fun h42 => ?_)
                · refine u_X8_port_41 ?_
                  unfold bX8_port_41
                  refine e_cN 0 rfl ?_
                  refine u_X8_port_42 ?_
                  unfold bX8_port_42
                  refine y_mI hM sh im (by decide) (fun N e => nomatch (show (none : Option Nat) = some N from e)) (fun S43 he44 sh45 ir46 => ?_)
                  refine e_ldA rfl ?_
                  refine e_gV (v := nI 0) (SM_k sh45 hM.1) (by rw [he44]; exact rd_s) ?_
                  refine e_lez (by omega) (fun h47 => ?_) (fun h47 => ?_)
                  · refine u_X8_port_53 ?_
                    unfold bX8_port_53
                    refine e_ldA rfl ?_
                    refine e_gR (SM_k sh45 hM.1) (SM_r sh45 (hM.2.1 3 (by decide)).1) ?_
                    refine e_cN 8 rfl ?_
                    refine e_ldI rfl ?_
                    refine e_mul ?_
                    refine e_ldI rfl ?_
                    refine e_add ?_
                    refine e_ldI rfl ?_
                    refine y_mA (N := 16) hM sh45 ir46 (by decide) rfl rfl (by omega) (by decide) (by decide) (fun N e => nomatch (show (none : Option Nat) = some N from e)) (fun e => absurd e (by decide)) (fun S48 he49 sh50 ir51 => ?_)
                    refine e_ldA rfl ?_
                    refine e_gR (SM_k sh50 hM.1) (SM_r sh50 (hM.2.1 4 (by decide)).1) ?_
                    refine e_cN 8 rfl ?_
                    refine e_ldI rfl ?_
                    refine e_mul ?_
                    refine e_ldI rfl ?_
                    refine e_add ?_
                    refine e_ldI rfl ?_
                    refine y_mA (N := 16) hM sh50 ir51 (by decide) rfl rfl (by omega) (by decide) (by decide) (fun N e => nomatch (show (none : Option Nat) = some N from e)) (fun e => absurd e (by decide)) (fun S52 he53 sh54 ir55 => ?_)
                    refine e_ldA rfl ?_
                    refine And.intro (SM_k sh54 hM.1) (And.intro ⟨by decide, by decide⟩ (z_X8_isNotQuiet (MS_SM hM sh54) ir55 (fun S56 s57 ir58 => ?_)))
                    have sh59 := SM.tr sh54 s57 (by decide)
                    exact e_rV (K _ sh59 ir58)
                  · exact absurd rfl h47
                · refine u_X8_port_37 ?_
                  unfold bX8_port_37
                  refine e_cN 1 rfl ?_
                  refine u_X8_port_42 ?_
                  unfold bX8_port_42
                  refine y_mI hM sh im (by decide) (fun N e => nomatch (show (none : Option Nat) = some N from e)) (fun S60 he61 sh62 ir63 => ?_)
                  refine e_ldA rfl ?_
                  refine e_gV (v := nI 1) (SM_k sh62 hM.1) (by rw [he61]; exact rd_s) ?_
                  refine e_lez (by omega) (fun h64 => ?_) (fun h64 => ?_)
                  · exact absurd h64 (by decide)
                  · exact e_rV (K _ sh62 ir63)
theorem u_X8_manner_0 {Q : Option Value → MM → Prop} {n : Nat} {lv : Lv} {st : List Value} {S : MM} {c z : Nat} (h : bX8_manner_0 Q (wpn (kX8_manner Q) n) lv st S c z) : wpn (kX8_manner Q) (n + 1) 0 lv st S c z := h
theorem u_X8_manner_15 {Q : Option Value → MM → Prop} {n : Nat} {lv : Lv} {st : List Value} {S : MM} {c z : Nat} (h : bX8_manner_15 Q (wpn (kX8_manner Q) n) lv st S c z) : wpn (kX8_manner Q) (n + 1) 15 lv st S c z := h
theorem u_X8_manner_19 {Q : Option Value → MM → Prop} {n : Nat} {lv : Lv} {st : List Value} {S : MM} {c z : Nat} (h : bX8_manner_19 Q (wpn (kX8_manner Q) n) lv st S c z) : wpn (kX8_manner Q) (n + 1) 19 lv st S c z := h
theorem u_X8_manner_20 {Q : Option Value → MM → Prop} {n : Nat} {lv : Lv} {st : List Value} {S : MM} {c z : Nat} (h : bX8_manner_20 Q (wpn (kX8_manner Q) n) lv st S c z) : wpn (kX8_manner Q) (n + 1) 20 lv st S c z := h
theorem u_X8_manner_31 {Q : Option Value → MM → Prop} {n : Nat} {lv : Lv} {st : List Value} {S : MM} {c z : Nat} (h : bX8_manner_31 Q (wpn (kX8_manner Q) n) lv st S c z) : wpn (kX8_manner Q) (n + 1) 31 lv st S c z := h
theorem z_X8_manner {Q : Option Value → MM → Prop} {S0 : MM} {m : Nat} {A : Nat → Nat} {w1 : Int32} {w2 : Int32} {i3 : Nat} {i4 : Nat} (hM : MS S0 m A) (im : IM S0 m A) (h3 : i3 < 2) (h4 : i4 < 2) (K : ∀ S', SM [0, 5, 6, 44] m A S0 S' → IM S' m A → Q none S') : wX8_manner [.ref m, .int w1, .int w2, .int (nI i3), .int (nI i4)] S0 Q := by
  have sh : SM [0, 5, 6, 44] m A S0 S0 := SM.rf
  refine Exists.intro 60 (u_X8_manner_0 ?_)
  unfold bX8_manner_0
  refine e_ldA rfl ?_
  refine e_ldI rfl ?_
  refine And.intro ⟨by decide, by decide⟩ (z_X8_isEnd ?_ (fun j1 hj2 e3 => ?_))
  · refine e_ifN (by omega) (fun h4 => ?_) (fun h4 => ?_)
    · refine u_X8_manner_15 ?_
      unfold bX8_manner_15
      refine e_cN 1 rfl ?_
      refine u_X8_manner_20 ?_
      unfold bX8_manner_20
      refine y_mI hM sh im (by decide) (fun N e => nomatch (show (none : Option Nat) = some N from e)) (fun S5 he6 sh7 ir8 => ?_)
      refine e_ldA rfl ?_
      refine e_gV (v := nI 1) (SM_k sh7 hM.1) (by rw [he6]; exact rd_s) ?_
      refine e_lez (by omega) (fun h9 => ?_) (fun h9 => ?_)
      · exact absurd h9 (by decide)
      · exact e_rV (K _ sh7 ir8)
    · exact absurd rfl h4
  · subst e3
    refine e_ifN (by omega) (fun h10 => ?_) (fun h10 => ?_)
    · exact absurd h10 (by decide)
    · refine e_ldI rfl ?_
      refine And.intro ⟨by decide, by decide⟩ (z_X8_isPort ?_ (fun j11 hj12 e13 => ?_))
      · refine e_ifN (by omega) (fun h14 => ?_) (fun h14 => ?_)
        · refine u_X8_manner_15 ?_
          unfold bX8_manner_15
          refine e_cN 1 rfl ?_
          refine u_X8_manner_20 ?_
          unfold bX8_manner_20
          refine y_mI hM sh im (by decide) (fun N e => nomatch (show (none : Option Nat) = some N from e)) (fun S15 he16 sh17 ir18 => ?_)
          refine e_ldA rfl ?_
          refine e_gV (v := nI 1) (SM_k sh17 hM.1) (by rw [he16]; exact rd_s) ?_
          refine e_lez (by omega) (fun h19 => ?_) (fun h19 => ?_)
          · exact absurd h19 (by decide)
          · exact e_rV (K _ sh17 ir18)
        · exact absurd rfl h14
      · subst e13
        refine e_ifN (by omega) (fun h20 => ?_) (fun h20 => ?_)
        · exact absurd h20 (by decide)
        · refine u_X8_manner_19 ?_
          unfold bX8_manner_19
          refine e_cN 0 rfl ?_
          refine u_X8_manner_20 ?_
          unfold bX8_manner_20
          refine y_mI hM sh im (by decide) (fun N e => nomatch (show (none : Option Nat) = some N from e)) (fun S21 he22 sh23 ir24 => ?_)
          refine e_ldA rfl ?_
          refine e_gV (v := nI 0) (SM_k sh23 hM.1) (by rw [he22]; exact rd_s) ?_
          refine e_lez (by omega) (fun h25 => ?_) (fun h25 => ?_)
          · refine u_X8_manner_31 ?_
            unfold bX8_manner_31
            refine e_ldA rfl ?_
            refine e_gR (SM_k sh23 hM.1) (SM_r sh23 (hM.2.1 5 (by decide)).1) ?_
            refine e_cN 8 rfl ?_
            refine e_ldI rfl ?_
            refine e_mul ?_
            refine e_ldI rfl ?_
            refine e_add ?_
            refine e_ldI rfl ?_
            refine y_mB (N := 16) hM sh23 ir24 (by decide) rfl rfl (by omega) (by decide) (by omega) (by decide) (fun N e => nomatch (show (none : Option Nat) = some N from e)) (fun e => absurd e (by decide)) (fun S26 he27 sh28 ir29 => ?_)
            refine e_ldA rfl ?_
            refine e_gR (SM_k sh28 hM.1) (SM_r sh28 (hM.2.1 6 (by decide)).1) ?_
            refine e_cN 8 rfl ?_
            refine e_ldI rfl ?_
            refine e_mul ?_
            refine e_ldI rfl ?_
            refine e_add ?_
            refine e_ldI rfl ?_
            refine y_mB (N := 16) hM sh28 ir29 (by decide) rfl rfl (by omega) (by decide) (by omega) (by decide) (fun N e => nomatch (show (none : Option Nat) = some N from e)) (fun e => absurd e (by decide)) (fun S30 he31 sh32 ir33 => ?_)
            refine e_ldA rfl ?_
            refine And.intro (SM_k sh32 hM.1) (And.intro ⟨by decide, by decide⟩ (z_X8_isNotQuiet (MS_SM hM sh32) ir33 (fun S34 s35 ir36 => ?_)))
            have sh37 := SM.tr sh32 s35 (by decide)
            exact e_rV (K _ sh37 ir36)
          · exact absurd rfl h25
theorem u_X8_portAt_0 {Q : Option Value → MM → Prop} {n : Nat} {lv : Lv} {st : List Value} {S : MM} {c z : Nat} (h : bX8_portAt_0 Q (wpn (kX8_portAt Q) n) lv st S c z) : wpn (kX8_portAt Q) (n + 1) 0 lv st S c z := h
theorem z_X8_portAt {Q : Option Value → MM → Prop} {S0 : MM} {m : Nat} {A : Nat → Nat} {i1 : Nat} {i2 : Nat} (hM : MS S0 m A) (im : IM S0 m A) (h1 : i1 < 8) (h2 : i2 < 2) (K : ∀ j S', SM [] m A S0 S' → IM S' m A → j < 16 → Q (some (.int (nI j))) S') : wX8_portAt [.ref m, .int (nI i1), .int (nI i2)] S0 Q := by
  have sh : SM [] m A S0 S0 := SM.rf
  refine Exists.intro 60 (u_X8_portAt_0 ?_)
  unfold bX8_portAt_0
  refine e_cN 8 rfl ?_
  refine e_ldI rfl ?_
  refine e_mul ?_
  refine e_ldA rfl ?_
  refine e_gR (SM_k sh hM.1) (SM_r sh (hM.2.1 22 (by decide)).1) ?_
  refine e_cN 2 rfl ?_
  refine e_ldI rfl ?_
  refine e_mul ?_
  refine e_ldI rfl ?_
  refine e_add ?_
  obtain ⟨n1, hn2, vn3⟩ := im.1 22 8 rfl ((2 * i1) + i2)
  refine e_aV (N := 16) (v := nI n1) (SM_k sh (hM.2.1 22 (by decide)).2.1) (SM_n sh (hM.2.1 22 (by decide)).2.2.1) (by omega) (by decide) vn3 ?_
  refine e_add ?_
  exact e_rI (K ((8 * i2) + n1) _ sh im (by omega))
theorem u_X8_lose_0 {Q : Option Value → MM → Prop} {n : Nat} {lv : Lv} {st : List Value} {S : MM} {c z : Nat} (h : bX8_lose_0 Q (wpn (kX8_lose Q) n) lv st S c z) : wpn (kX8_lose Q) (n + 1) 0 lv st S c z := h
theorem u_X8_lose_25 {Q : Option Value → MM → Prop} {n : Nat} {lv : Lv} {st : List Value} {S : MM} {c z : Nat} (h : bX8_lose_25 Q (wpn (kX8_lose Q) n) lv st S c z) : wpn (kX8_lose Q) (n + 1) 25 lv st S c z := h
theorem u_X8_lose_29 {Q : Option Value → MM → Prop} {n : Nat} {lv : Lv} {st : List Value} {S : MM} {c z : Nat} (h : bX8_lose_29 Q (wpn (kX8_lose Q) n) lv st S c z) : wpn (kX8_lose Q) (n + 1) 29 lv st S c z := h
theorem u_X8_lose_30 {Q : Option Value → MM → Prop} {n : Nat} {lv : Lv} {st : List Value} {S : MM} {c z : Nat} (h : bX8_lose_30 Q (wpn (kX8_lose Q) n) lv st S c z) : wpn (kX8_lose Q) (n + 1) 30 lv st S c z := h
theorem u_X8_lose_41 {Q : Option Value → MM → Prop} {n : Nat} {lv : Lv} {st : List Value} {S : MM} {c z : Nat} (h : bX8_lose_41 Q (wpn (kX8_lose Q) n) lv st S c z) : wpn (kX8_lose Q) (n + 1) 41 lv st S c z := h
theorem z_X8_lose {Q : Option Value → MM → Prop} {S0 : MM} {m : Nat} {A : Nat → Nat} {w1 : Int32} {w2 : Int32} {w3 : Int32} (hM : MS S0 m A) (im : IM S0 m A)  (K : ∀ S', SM [0, 26, 44] m A S0 S' → IM S' m A → Q none S') : wX8_lose [.ref m, .int w1, .int w2, .int w3] S0 Q := by
  have sh : SM [0, 26, 44] m A S0 S0 := SM.rf
  refine Exists.intro 60 (u_X8_lose_0 ?_)
  unfold bX8_lose_0
  refine e_ldA rfl ?_
  refine e_ldI rfl ?_
  refine And.intro ⟨by decide, by decide⟩ (z_X8_isEnd ?_ (fun j1 hj2 e3 => ?_))
  · refine e_ifN (by omega) (fun h4 => ?_) (fun h4 => ?_)
    · refine u_X8_lose_25 ?_
      unfold bX8_lose_25
      refine e_cN 1 rfl ?_
      refine u_X8_lose_30 ?_
      unfold bX8_lose_30
      refine y_mI hM sh im (by decide) (fun N e => nomatch (show (none : Option Nat) = some N from e)) (fun S5 he6 sh7 ir8 => ?_)
      refine e_ldA rfl ?_
      refine e_gV (v := nI 1) (SM_k sh7 hM.1) (by rw [he6]; exact rd_s) ?_
      refine e_lez (by omega) (fun h9 => ?_) (fun h9 => ?_)
      · exact absurd h9 (by decide)
      · exact e_rV (K _ sh7 ir8)
    · exact absurd rfl h4
  · subst e3
    refine e_ifN (by omega) (fun h10 => ?_) (fun h10 => ?_)
    · exact absurd h10 (by decide)
    · refine e_ldI rfl ?_
      refine And.intro ⟨by decide, by decide⟩ (z_X8_isCable ?_ (fun j11 hj12 e13 => ?_))
      · refine e_ifN (by omega) (fun h14 => ?_) (fun h14 => ?_)
        · refine u_X8_lose_25 ?_
          unfold bX8_lose_25
          refine e_cN 1 rfl ?_
          refine u_X8_lose_30 ?_
          unfold bX8_lose_30
          refine y_mI hM sh im (by decide) (fun N e => nomatch (show (none : Option Nat) = some N from e)) (fun S15 he16 sh17 ir18 => ?_)
          refine e_ldA rfl ?_
          refine e_gV (v := nI 1) (SM_k sh17 hM.1) (by rw [he16]; exact rd_s) ?_
          refine e_lez (by omega) (fun h19 => ?_) (fun h19 => ?_)
          · exact absurd h19 (by decide)
          · exact e_rV (K _ sh17 ir18)
        · exact absurd rfl h14
      · subst e13
        refine e_ifN (by omega) (fun h20 => ?_) (fun h20 => ?_)
        · exact absurd h20 (by decide)
        · refine e_ldI rfl ?_
          refine e_ltz ?_ (fun j21 hj22 e23 => ?_)
          · refine u_X8_lose_25 ?_
            unfold bX8_lose_25
            refine e_cN 1 rfl ?_
            refine u_X8_lose_30 ?_
            unfold bX8_lose_30
            refine y_mI hM sh im (by decide) (fun N e => nomatch (show (none : Option Nat) = some N from e)) (fun S24 he25 sh26 ir27 => ?_)
            refine e_ldA rfl ?_
            refine e_gV (v := nI 1) (SM_k sh26 hM.1) (by rw [he25]; exact rd_s) ?_
            refine e_lez (by omega) (fun h28 => ?_) (fun h28 => ?_)
            · exact absurd h28 (by decide)
            · exact e_rV (K _ sh26 ir27)
          · subst e23
            refine e_ldI rfl ?_
            refine e_cN 100 rfl ?_
            refine e_le (by omega) (by omega) (fun h29 => ?_) (fun h29 => ?_)
            · refine u_X8_lose_29 ?_
              unfold bX8_lose_29
              refine e_cN 0 rfl ?_
              refine u_X8_lose_30 ?_
              unfold bX8_lose_30
              refine y_mI hM sh im (by decide) (fun N e => nomatch (show (none : Option Nat) = some N from e)) (fun S30 he31 sh32 ir33 => ?_)
              refine e_ldA rfl ?_
              refine e_gV (v := nI 0) (SM_k sh32 hM.1) (by rw [he31]; exact rd_s) ?_
              refine e_lez (by omega) (fun h34 => ?_) (fun h34 => ?_)
              · refine u_X8_lose_41 ?_
                unfold bX8_lose_41
                refine e_ldA rfl ?_
                refine e_gR (SM_k sh32 hM.1) (SM_r sh32 (hM.2.1 26 (by decide)).1) ?_
                refine e_cN 2 rfl ?_
                refine e_ldI rfl ?_
                refine e_mul ?_
                refine e_ldI rfl ?_
                refine e_add ?_
                refine e_ldI rfl ?_
                refine y_mA (N := 16) hM sh32 ir33 (by decide) rfl rfl (by omega) (by decide) (by decide) (fun N e => nomatch (show (none : Option Nat) = some N from e)) (fun e => absurd e (by decide)) (fun S35 he36 sh37 ir38 => ?_)
                refine e_ldA rfl ?_
                refine And.intro (SM_k sh37 hM.1) (And.intro ⟨by decide, by decide⟩ (z_X8_isNotQuiet (MS_SM hM sh37) ir38 (fun S39 s40 ir41 => ?_)))
                have sh42 := SM.tr sh37 s40 (by decide)
                exact e_rV (K _ sh42 ir41)
              · exact absurd rfl h34
            · refine u_X8_lose_25 ?_
              unfold bX8_lose_25
              refine e_cN 1 rfl ?_
              refine u_X8_lose_30 ?_
              unfold bX8_lose_30
              refine y_mI hM sh im (by decide) (fun N e => nomatch (show (none : Option Nat) = some N from e)) (fun S43 he44 sh45 ir46 => ?_)
              refine e_ldA rfl ?_
              refine e_gV (v := nI 1) (SM_k sh45 hM.1) (by rw [he44]; exact rd_s) ?_
              refine e_lez (by omega) (fun h47 => ?_) (fun h47 => ?_)
              · exact absurd h47 (by decide)
              · exact e_rV (K _ sh45 ir46)
