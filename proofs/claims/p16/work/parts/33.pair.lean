theorem u_X7_isWord_0 {Q : Option Value → MM → Prop} {n : Nat} {lv : Lv} {st : List Value} {S : MM} {c z : Nat} (h : bX7_isWord_0 Q (wpn (kX7_isWord Q) n) lv st S c z) : wpn (kX7_isWord Q) (n + 1) 0 lv st S c z := h
theorem u_X7_isWord_15 {Q : Option Value → MM → Prop} {n : Nat} {lv : Lv} {st : List Value} {S : MM} {c z : Nat} (h : bX7_isWord_15 Q (wpn (kX7_isWord Q) n) lv st S c z) : wpn (kX7_isWord Q) (n + 1) 15 lv st S c z := h
theorem u_X7_isWord_16 {Q : Option Value → MM → Prop} {n : Nat} {lv : Lv} {st : List Value} {S : MM} {c z : Nat} (h : bX7_isWord_16 Q (wpn (kX7_isWord Q) n) lv st S c z) : wpn (kX7_isWord Q) (n + 1) 16 lv st S c z := h
theorem z_X7_isWord {Q : Option Value → MM → Prop} {S0 : MM} {w0 : Int32} (hT : TY S0) (ir : IR S0)  (K : ∀ j S', SH [] S0 S' → IR S' → j < 2 → Q (some (.int (nI j))) S') : wX7_isWord [.int w0] S0 Q := by
  have sh : SH [] S0 S0 := SH.rf
  refine Exists.intro 40 (u_X7_isWord_0 ?_)
  unfold bX7_isWord_0
  refine e_ldI rfl ?_
  refine e_ifz ?_ ?_
  · refine u_X7_isWord_15 ?_
    unfold bX7_isWord_15
    refine e_cN 0 rfl ?_
    refine u_X7_isWord_16 ?_
    unfold bX7_isWord_16
    exact e_rZ (by omega) (K 0 _ sh ir (by omega))
  · refine e_ldI rfl ?_
    refine e_cN 65535 rfl ?_
    refine e_ifc ?_ ?_
    · refine u_X7_isWord_15 ?_
      unfold bX7_isWord_15
      refine e_cN 0 rfl ?_
      refine u_X7_isWord_16 ?_
      unfold bX7_isWord_16
      exact e_rZ (by omega) (K 0 _ sh ir (by omega))
    · refine e_cN 1 rfl ?_
      refine u_X7_isWord_16 ?_
      unfold bX7_isWord_16
      exact e_rZ (by omega) (K 1 _ sh ir (by omega))
theorem u_X7_isTaken_0 {Q : Option Value → MM → Prop} {n : Nat} {lv : Lv} {st : List Value} {S : MM} {c z : Nat} (h : bX7_isTaken_0 Q (wpn (kX7_isTaken Q) n) lv st S c z) : wpn (kX7_isTaken Q) (n + 1) 0 lv st S c z := h
theorem u_X7_isTaken_20 {Q : Option Value → MM → Prop} {n : Nat} {lv : Lv} {st : List Value} {S : MM} {c z : Nat} (h : bX7_isTaken_20 Q (wpn (kX7_isTaken Q) n) lv st S c z) : wpn (kX7_isTaken Q) (n + 1) 20 lv st S c z := h
theorem u_X7_isTaken_21 {Q : Option Value → MM → Prop} {n : Nat} {lv : Lv} {st : List Value} {S : MM} {c z : Nat} (h : bX7_isTaken_21 Q (wpn (kX7_isTaken Q) n) lv st S c z) : wpn (kX7_isTaken Q) (n + 1) 21 lv st S c z := h
theorem z_X7_isTaken {Q : Option Value → MM → Prop} {S0 : MM} {x0 : Nat} {w1 : Int32} (hT : TY S0) (ir : IR S0) (k0 : sK S0 x0 = 6) (K : ∀ j S', SH [] S0 S' → IR S' → j < 2 → Q (some (.int (nI j))) S') : wX7_isTaken [.ref x0, .int w1] S0 Q := by
  have sh : SH [] S0 S0 := SH.rf
  refine Exists.intro 40 (u_X7_isTaken_0 ?_)
  unfold bX7_isTaken_0
  refine e_ldA rfl ?_
  refine e_gI (SH_k sh k0) (fun v1 hv2 => ?_)
  refine e_cI ?_
  refine e_ifc ?_ ?_
  · refine u_X7_isTaken_20 ?_
    unfold bX7_isTaken_20
    refine e_cN 0 rfl ?_
    refine u_X7_isTaken_21 ?_
    unfold bX7_isTaken_21
    exact e_rZ (by omega) (K 0 _ sh ir (by omega))
  · refine e_ldA rfl ?_
    refine e_gV (v := v1) (SH_k sh k0) hv2 ?_
    refine e_ldI rfl ?_
    refine e_ifc ?_ ?_
    · refine u_X7_isTaken_20 ?_
      unfold bX7_isTaken_20
      refine e_cN 0 rfl ?_
      refine u_X7_isTaken_21 ?_
      unfold bX7_isTaken_21
      exact e_rZ (by omega) (K 0 _ sh ir (by omega))
    · refine e_cN 1 rfl ?_
      refine u_X7_isTaken_21 ?_
      unfold bX7_isTaken_21
      exact e_rZ (by omega) (K 1 _ sh ir (by omega))
theorem u_X7_strongerEnd_0 {Q : Option Value → MM → Prop} {n : Nat} {lv : Lv} {st : List Value} {S : MM} {c z : Nat} (h : bX7_strongerEnd_0 Q (wpn (kX7_strongerEnd Q) n) lv st S c z) : wpn (kX7_strongerEnd Q) (n + 1) 0 lv st S c z := h
theorem u_X7_strongerEnd_25 {Q : Option Value → MM → Prop} {n : Nat} {lv : Lv} {st : List Value} {S : MM} {c z : Nat} (h : bX7_strongerEnd_25 Q (wpn (kX7_strongerEnd Q) n) lv st S c z) : wpn (kX7_strongerEnd Q) (n + 1) 25 lv st S c z := h
theorem u_X7_strongerEnd_26 {Q : Option Value → MM → Prop} {n : Nat} {lv : Lv} {st : List Value} {S : MM} {c z : Nat} (h : bX7_strongerEnd_26 Q (wpn (kX7_strongerEnd Q) n) lv st S c z) : wpn (kX7_strongerEnd Q) (n + 1) 26 lv st S c z := h
theorem z_X7_strongerEnd {Q : Option Value → MM → Prop} {S0 : MM} {x0 : Nat} (hT : TY S0) (ir : IR S0) (k0 : sK S0 x0 = 8) (K : ∀ j S', SH [] S0 S' → IR S' → j < 2 → Q (some (.int (nI j))) S') : wX7_strongerEnd [.ref x0] S0 Q := by
  have sh : SH [] S0 S0 := SH.rf
  refine Exists.intro 40 (u_X7_strongerEnd_0 ?_)
  unfold bX7_strongerEnd_0
  refine e_ldA rfl ?_
  obtain ⟨b1, rb2, kb3, nb4⟩ := hT.1 x0 8 0 13 2 k0 rfl
  refine e_gR (SH_k sh k0) (SH_r sh rb2) ?_
  refine e_cN 0 rfl ?_
  obtain ⟨b5, rb6, kb7, nb8⟩ := hT.2.1 b1 13 2 2 0 kb3 nb4 rfl (by omega)
  refine e_aR (SH_k sh kb3) (SH_n sh nb4) (by omega) (by decide) (SH_r sh rb6) ?_
  refine e_gI (SH_k sh kb7) (fun v9 hv10 => ?_)
  refine e_ldA rfl ?_
  refine e_gR (SH_k sh k0) (SH_r sh rb2) ?_
  refine e_cN 1 rfl ?_
  obtain ⟨b11, rb12, kb13, nb14⟩ := hT.2.1 b1 13 2 2 1 kb3 nb4 rfl (by omega)
  refine e_aR (SH_k sh kb3) (SH_n sh nb4) (by omega) (by decide) (SH_r sh rb12) ?_
  refine e_gI (SH_k sh kb13) (fun v15 hv16 => ?_)
  refine e_ifc ?_ ?_
  · refine u_X7_strongerEnd_25 ?_
    unfold bX7_strongerEnd_25
    refine e_cN 1 rfl ?_
    refine u_X7_strongerEnd_26 ?_
    unfold bX7_strongerEnd_26
    exact e_rI (K 1 _ sh ir (by omega))
  · refine e_cN 0 rfl ?_
    refine u_X7_strongerEnd_26 ?_
    unfold bX7_strongerEnd_26
    exact e_rI (K 0 _ sh ir (by omega))
theorem u_X7_countMeantAhead_0 {Q : Option Value → MM → Prop} {n : Nat} {lv : Lv} {st : List Value} {S : MM} {c z : Nat} (h : bX7_countMeantAhead_0 Q (wpn (kX7_countMeantAhead Q) n) lv st S c z) : wpn (kX7_countMeantAhead Q) (n + 1) 0 lv st S c z := h
theorem u_X7_countMeantAhead_10 {Q : Option Value → MM → Prop} {n : Nat} {lv : Lv} {st : List Value} {S : MM} {c z : Nat} (h : bX7_countMeantAhead_10 Q (wpn (kX7_countMeantAhead Q) n) lv st S c z) : wpn (kX7_countMeantAhead Q) (n + 1) 10 lv st S c z := h
theorem u_X7_countMeantAhead_66 {Q : Option Value → MM → Prop} {n : Nat} {lv : Lv} {st : List Value} {S : MM} {c z : Nat} (h : bX7_countMeantAhead_66 Q (wpn (kX7_countMeantAhead Q) n) lv st S c z) : wpn (kX7_countMeantAhead Q) (n + 1) 66 lv st S c z := h
theorem u_X7_countMeantAhead_72 {Q : Option Value → MM → Prop} {n : Nat} {lv : Lv} {st : List Value} {S : MM} {c z : Nat} (h : bX7_countMeantAhead_72 Q (wpn (kX7_countMeantAhead Q) n) lv st S c z) : wpn (kX7_countMeantAhead Q) (n + 1) 72 lv st S c z := h
def P_X7_countMeantAhead_0 (Q : Option Value → MM → Prop) (S0 : MM) (n : Nat) : Prop := ∀ (lv : Lv) (S : MM) (x0 : Nat) (x1 : Nat), lvg lv 0 = some (.ref x0) → sK S0 x0 = 8 → lvg lv 1 = some (.ref x1) → sK S0 x1 = 1 → PL S0 x1 → SH [] S0 S → IR S → 558 ≤ n → wpn (kX7_countMeantAhead Q) n 0 lv [] S 0 0
def P_X7_countMeantAhead_10 (Q : Option Value → MM → Prop) (S0 : MM) (n : Nat) : Prop := ∀ (lv : Lv) (S : MM) (x0 : Nat) (x1 : Nat) (i2 : Nat) (w3 : Int32) (i4 : Nat), lvg lv 0 = some (.ref x0) → sK S0 x0 = 8 → lvg lv 1 = some (.ref x1) → sK S0 x1 = 1 → PL S0 x1 → lvg lv 2 = some (.int (nI i2)) → i2 < 2 → lvg lv 3 = some (.int w3) → lvg lv 4 = some (.int (nI i4)) → i4 < 9 → SH [] S0 S → IR S → 31 + 62 * (8 - i4) ≤ n → wpn (kX7_countMeantAhead Q) n 10 lv [] S 0 0
theorem B_X7_countMeantAhead_0 {Q : Option Value → MM → Prop} {S0 : MM} {n : Nat} (hT : TY S0) (K : ∀ r S', SH [] S0 S' → IR S' → Q (some (.int r)) S') (t_10 : ∀ k, k ≤ n → P_X7_countMeantAhead_10 Q S0 k) : P_X7_countMeantAhead_0 Q S0 (n + 1) := by
  intro lv S x0 x1 g0 k0 g1 k1 p1 sh ir hF
  refine u_X7_countMeantAhead_0 ?_
  unfold bX7_countMeantAhead_0
  refine e_ldA g0 ?_
  refine And.intro (SH_k sh k0) (And.intro ⟨by decide, by decide⟩ (z_X7_strongerEnd (TY_SH hT sh) ir (SH_k sh k0) (fun n5 S1 s2 ir3 hn6 => ?_)))
  have sh4 := SH.tr sh s2 (by decide)
  refine e_stI ?_
  refine e_cN 0 rfl ?_
  refine e_stI ?_
  refine e_cN 0 rfl ?_
  refine e_stI ?_
  exact t_10 n (by omega) _ _ x0 x1 n5 _ 0 (lvg_ne (lvg_ne (lvg_ne g0 rfl (by decide)) rfl (by decide)) rfl (by decide)) k0 (lvg_ne (lvg_ne (lvg_ne g1 rfl (by decide)) rfl (by decide)) rfl (by decide)) k1 p1 (lvg_ne (lvg_ne lvg_self rfl (by decide)) rfl (by decide)) (by omega) (lvg_ne lvg_self rfl (by decide)) lvg_self (by omega) sh4 ir3 (by omega)
theorem B_X7_countMeantAhead_10 {Q : Option Value → MM → Prop} {S0 : MM} {n : Nat} (hT : TY S0) (K : ∀ r S', SH [] S0 S' → IR S' → Q (some (.int r)) S') (t_10 : ∀ k, k ≤ n → P_X7_countMeantAhead_10 Q S0 k) : P_X7_countMeantAhead_10 Q S0 (n + 1) := by
  intro lv S x0 x1 i2 w3 i4 g0 k0 g1 k1 p1 g2 h2 g3 g4 h4 sh ir hF
  refine u_X7_countMeantAhead_10 ?_
  unfold bX7_countMeantAhead_10
  refine e_ldI g4 ?_
  refine e_cN 8 rfl ?_
  refine e_ge (by omega) (by omega) (fun h1 => ?_) (fun h1 => ?_)
  · obtain ⟨q2, rfl⟩ : ∃ q, n = q + 1 := ⟨n - 1, by omega⟩
    refine u_X7_countMeantAhead_72 ?_
    unfold bX7_countMeantAhead_72
    refine e_ldI g3 ?_
    exact e_rI (K _ _ sh ir)
  · refine e_ldA g0 ?_
    obtain ⟨b3, rb4, kb5, nb6⟩ := hT.1 x0 8 1 12 8 k0 rfl
    refine e_gR (SH_k sh k0) (SH_r sh rb4) ?_
    refine e_ldI g4 ?_
    obtain ⟨b7, rb8, kb9, nb10⟩ := hT.2.1 b3 12 8 1 i4 kb5 nb6 rfl (by omega)
    refine e_aR (SH_k sh kb5) (SH_n sh nb6) (by omega) (by decide) (SH_r sh rb8) ?_
    refine e_stA ?_
    refine e_ldA lvg_self ?_
    refine And.intro (SH_k sh kb9) (And.intro ⟨by decide, by decide⟩ (z_X0_agrees (TY_SH hT sh) ir (SH_k sh kb9) (fun S11 s12 ir13 => ?_) (fun S11 s12 ir13 hp15 => ?_)))
    · have sh14 := SH.tr sh s12 (by decide)
      refine e_ifN (by omega) (fun h16 => ?_) (fun h16 => ?_)
      · obtain ⟨q17, rfl⟩ : ∃ q, n = q + 1 := ⟨n - 1, by omega⟩
        refine u_X7_countMeantAhead_66 ?_
        unfold bX7_countMeantAhead_66
        refine e_inc (lvg_ne g4 rfl (by decide)) ?_
        exact t_10 q17 (by omega) _ _ x0 x1 i2 _ (i4 + 1) (lvg_ne (lvg_ne g0 rfl (by decide)) rfl (by decide)) k0 (lvg_ne (lvg_ne g1 rfl (by decide)) rfl (by decide)) k1 p1 (lvg_ne (lvg_ne g2 rfl (by decide)) rfl (by decide)) (by omega) (lvg_ne (lvg_ne g3 rfl (by decide)) rfl (by decide)) lvg_self (by omega) sh14 ir13 (by omega)
      · exact absurd rfl h16
    · have sh14 := SH.tr sh s12 (by decide)
      refine e_ifN (by omega) (fun h18 => ?_) (fun h18 => ?_)
      · exact absurd h18 (by decide)
      · refine e_ldA lvg_self ?_
        refine e_ldA (lvg_ne g1 rfl (by decide)) ?_
        refine And.intro (SH_k sh14 kb9) (And.intro ⟨by decide, by decide⟩ (z_X0_isInGroupOf (TY_SH hT sh14) ir13 (SH_k sh14 kb9) (SH_k sh14 k1) (fun n23 S19 s20 ir21 hn24 => ?_)))
        have sh22 := SH.tr sh14 s20 (by decide)
        refine e_ifN (by omega) (fun h25 => ?_) (fun h25 => ?_)
        · obtain ⟨q26, rfl⟩ : ∃ q, n = q + 1 := ⟨n - 1, by omega⟩
          refine u_X7_countMeantAhead_66 ?_
          unfold bX7_countMeantAhead_66
          refine e_inc (lvg_ne g4 rfl (by decide)) ?_
          exact t_10 q26 (by omega) _ _ x0 x1 i2 _ (i4 + 1) (lvg_ne (lvg_ne g0 rfl (by decide)) rfl (by decide)) k0 (lvg_ne (lvg_ne g1 rfl (by decide)) rfl (by decide)) k1 p1 (lvg_ne (lvg_ne g2 rfl (by decide)) rfl (by decide)) (by omega) (lvg_ne (lvg_ne g3 rfl (by decide)) rfl (by decide)) lvg_self (by omega) sh22 ir21 (by omega)
        · refine e_ldA lvg_self ?_
          obtain ⟨b27, rb28, kb29, nb30⟩ := hT.1 b7 1 0 17 2 kb9 rfl
          refine e_gR (SH_k sh22 kb9) (SH_r sh22 rb28) ?_
          refine e_ldI (lvg_ne g2 rfl (by decide)) ?_
          obtain ⟨b31, rb32⟩ := (PL_SH' hp15 sh) b27 i2 rb28 (by omega)
          obtain ⟨kb33, nb34⟩ := hT.2.2 b27 17 6 i2 b31 kb29 rfl rb32
          refine e_aR (SH_k sh22 kb29) (SH_n sh22 nb30) (by omega) (by decide) (SH_r sh22 rb32) ?_
          refine e_ldA (lvg_ne g1 rfl (by decide)) ?_
          obtain ⟨b35, rb36, kb37, nb38⟩ := hT.1 x1 1 0 17 2 k1 rfl
          refine e_gR (SH_k sh22 k1) (SH_r sh22 rb36) ?_
          refine e_ldI (lvg_ne g2 rfl (by decide)) ?_
          obtain ⟨b39, rb40⟩ := p1 b35 i2 rb36 (by omega)
          obtain ⟨kb41, nb42⟩ := hT.2.2 b35 17 6 i2 b39 kb37 rfl rb40
          refine e_aR (SH_k sh22 kb37) (SH_n sh22 nb38) (by omega) (by decide) (SH_r sh22 rb40) ?_
          refine e_cN 1 rfl ?_
          refine And.intro (SH_k sh22 kb33) (And.intro ⟨by decide, by decide⟩ (z_X5_isAheadOf (TY_SH hT sh22) ir21 (SH_k sh22 kb33) (SH_k sh22 kb41) (show 1 < 2 by omega) (fun n47 S43 s44 ir45 hn48 => ?_)))
          have sh46 := SH.tr sh22 s44 (by decide)
          refine e_ifN (by omega) (fun h49 => ?_) (fun h49 => ?_)
          · obtain ⟨q50, rfl⟩ : ∃ q, n = q + 1 := ⟨n - 1, by omega⟩
            refine u_X7_countMeantAhead_66 ?_
            unfold bX7_countMeantAhead_66
            refine e_inc (lvg_ne g4 rfl (by decide)) ?_
            exact t_10 q50 (by omega) _ _ x0 x1 i2 _ (i4 + 1) (lvg_ne (lvg_ne g0 rfl (by decide)) rfl (by decide)) k0 (lvg_ne (lvg_ne g1 rfl (by decide)) rfl (by decide)) k1 p1 (lvg_ne (lvg_ne g2 rfl (by decide)) rfl (by decide)) (by omega) (lvg_ne (lvg_ne g3 rfl (by decide)) rfl (by decide)) lvg_self (by omega) sh46 ir45 (by omega)
          · refine e_incU (lvg_ne g3 rfl (by decide)) (fun r51 => ?_)
            obtain ⟨q52, rfl⟩ : ∃ q, n = q + 1 := ⟨n - 1, by omega⟩
            refine u_X7_countMeantAhead_66 ?_
            unfold bX7_countMeantAhead_66
            refine e_inc (lvg_ne (lvg_ne g4 rfl (by decide)) rfl (by decide)) ?_
            exact t_10 q52 (by omega) _ _ x0 x1 i2 _ (i4 + 1) (lvg_ne (lvg_ne (lvg_ne g0 rfl (by decide)) rfl (by decide)) rfl (by decide)) k0 (lvg_ne (lvg_ne (lvg_ne g1 rfl (by decide)) rfl (by decide)) rfl (by decide)) k1 p1 (lvg_ne (lvg_ne (lvg_ne g2 rfl (by decide)) rfl (by decide)) rfl (by decide)) (by omega) (lvg_ne lvg_self rfl (by decide)) lvg_self (by omega) sh46 ir45 (by omega)
theorem A_X7_countMeantAhead {Q : Option Value → MM → Prop} {S0 : MM} (hT : TY S0) (K : ∀ r S', SH [] S0 S' → IR S' → Q (some (.int r)) S') : ∀ n k, k ≤ n → P_X7_countMeantAhead_0 Q S0 k ∧ P_X7_countMeantAhead_10 Q S0 k := by
  intro n
  induction n with
  | zero =>
    intro k hk
    have e : k = 0 := by omega
    subst e
    exact ⟨(fun lv S x0 x1 _ _ _ _ _ _ _ hF => absurd hF (by omega)), (fun lv S x0 x1 i2 w3 i4 _ _ _ _ _ _ _ _ _ _ _ _ hF => absurd hF (by omega))⟩
  | succ n ih =>
    intro k hk
    by_cases hn : k ≤ n
    · exact ih k hn
    · have e : k = n + 1 := by omega
      subst e
      have T_0 : ∀ k, k ≤ n → P_X7_countMeantAhead_0 Q S0 k := fun k hk => (ih k hk).1
      have T_10 : ∀ k, k ≤ n → P_X7_countMeantAhead_10 Q S0 k := fun k hk => (ih k hk).2
      exact ⟨B_X7_countMeantAhead_0 hT K T_10, B_X7_countMeantAhead_10 hT K T_10⟩
theorem z_X7_countMeantAhead {Q : Option Value → MM → Prop} {S0 : MM} {x0 : Nat} {x1 : Nat} (hT : TY S0) (ir : IR S0) (k0 : sK S0 x0 = 8) (k1 : sK S0 x1 = 1) (p1 : PL S0 x1) (K : ∀ r S', SH [] S0 S' → IR S' → Q (some (.int r)) S') : wX7_countMeantAhead [.ref x0, .ref x1] S0 Q := by
  exact Exists.intro 558 ((A_X7_countMeantAhead hT K 558 558 (Nat.le_refl _)).1 _ S0 x0 x1 rfl k0 rfl k1 p1 SH.rf ir (by omega))
theorem u_X7_noteChange_0 {Q : Option Value → MM → Prop} {n : Nat} {lv : Lv} {st : List Value} {S : MM} {c z : Nat} (h : bX7_noteChange_0 Q (wpn (kX7_noteChange Q) n) lv st S c z) : wpn (kX7_noteChange Q) (n + 1) 0 lv st S c z := h
theorem u_X7_noteChange_29 {Q : Option Value → MM → Prop} {n : Nat} {lv : Lv} {st : List Value} {S : MM} {c z : Nat} (h : bX7_noteChange_29 Q (wpn (kX7_noteChange Q) n) lv st S c z) : wpn (kX7_noteChange Q) (n + 1) 29 lv st S c z := h
theorem u_X7_noteChange_71 {Q : Option Value → MM → Prop} {n : Nat} {lv : Lv} {st : List Value} {S : MM} {c z : Nat} (h : bX7_noteChange_71 Q (wpn (kX7_noteChange Q) n) lv st S c z) : wpn (kX7_noteChange Q) (n + 1) 71 lv st S c z := h
theorem u_X7_noteChange_72 {Q : Option Value → MM → Prop} {n : Nat} {lv : Lv} {st : List Value} {S : MM} {c z : Nat} (h : bX7_noteChange_72 Q (wpn (kX7_noteChange Q) n) lv st S c z) : wpn (kX7_noteChange Q) (n + 1) 72 lv st S c z := h
theorem u_X7_noteChange_81 {Q : Option Value → MM → Prop} {n : Nat} {lv : Lv} {st : List Value} {S : MM} {c z : Nat} (h : bX7_noteChange_81 Q (wpn (kX7_noteChange Q) n) lv st S c z) : wpn (kX7_noteChange Q) (n + 1) 81 lv st S c z := h
def P_X7_noteChange_0 (Q : Option Value → MM → Prop) (S0 : MM) (n : Nat) : Prop := ∀ (lv : Lv) (S : MM) (x0 : Nat), lvg lv 0 = some (.ref x0) → sK S0 x0 = 8 → SH [1, 8] S0 S → IR S → 558 ≤ n → wpn (kX7_noteChange Q) n 0 lv [] S 0 0
def P_X7_noteChange_29 (Q : Option Value → MM → Prop) (S0 : MM) (n : Nat) : Prop := ∀ (lv : Lv) (S : MM) (x0 : Nat) (w1 : Int32) (i2 : Nat), lvg lv 0 = some (.ref x0) → sK S0 x0 = 8 → lvg lv 1 = some (.int w1) → lvg lv 2 = some (.int (nI i2)) → i2 < 9 → SH [1, 8] S0 S → IR S → 31 + 62 * (8 - i2) ≤ n → wpn (kX7_noteChange Q) n 29 lv [] S 0 0
theorem B_X7_noteChange_0 {Q : Option Value → MM → Prop} {S0 : MM} {n : Nat} (hT : TY S0) (K : ∀ S', SH [1, 8] S0 S' → IR S' → Q none S') (t_29 : ∀ k, k ≤ n → P_X7_noteChange_29 Q S0 k) : P_X7_noteChange_0 Q S0 (n + 1) := by
  intro lv S x0 g0 k0 sh ir hF
  refine u_X7_noteChange_0 ?_
  unfold bX7_noteChange_0
  refine e_ldA g0 ?_
  refine e_cN 0 rfl ?_
  refine y_tI (SH_k sh k0) sh ir (by decide) (by decide) (fun N e => nomatch (show (none : Option Nat) = some N from e)) (fun S1 he2 sh3 ir4 => ?_)
  refine e_ldA g0 ?_
  obtain ⟨b5, rb6, kb7, nb8⟩ := hT.1 x0 8 0 13 2 k0 rfl
  refine e_gR (SH_k sh3 k0) (SH_r sh3 rb6) ?_
  refine e_cN 0 rfl ?_
  obtain ⟨b9, rb10, kb11, nb12⟩ := hT.2.1 b5 13 2 2 0 kb7 nb8 rfl (by omega)
  refine e_aR (SH_k sh3 kb7) (SH_n sh3 nb8) (by omega) (by decide) (SH_r sh3 rb10) ?_
  refine e_gI (SH_k sh3 kb11) (fun v13 hv14 => ?_)
  refine e_ldA g0 ?_
  refine e_gR (SH_k sh3 k0) (SH_r sh3 rb6) ?_
  refine e_cN 1 rfl ?_
  obtain ⟨b15, rb16, kb17, nb18⟩ := hT.2.1 b5 13 2 2 1 kb7 nb8 rfl (by omega)
  refine e_aR (SH_k sh3 kb7) (SH_n sh3 nb8) (by omega) (by decide) (SH_r sh3 rb16) ?_
  refine e_gI (SH_k sh3 kb17) (fun v19 hv20 => ?_)
  refine e_mMn (fun r21 => ?_)
  refine e_stI ?_
  refine e_cN 0 rfl ?_
  refine e_stI ?_
  exact t_29 n (by omega) _ _ x0 _ 0 (lvg_ne (lvg_ne g0 rfl (by decide)) rfl (by decide)) k0 (lvg_ne lvg_self rfl (by decide)) lvg_self (by omega) sh3 ir4 (by omega)
theorem B_X7_noteChange_29 {Q : Option Value → MM → Prop} {S0 : MM} {n : Nat} (hT : TY S0) (K : ∀ S', SH [1, 8] S0 S' → IR S' → Q none S') (t_29 : ∀ k, k ≤ n → P_X7_noteChange_29 Q S0 k) : P_X7_noteChange_29 Q S0 (n + 1) := by
  intro lv S x0 w1 i2 g0 k0 g1 g2 h2 sh ir hF
  refine u_X7_noteChange_29 ?_
  unfold bX7_noteChange_29
  refine e_ldI g2 ?_
  refine e_cN 8 rfl ?_
  refine e_ge (by omega) (by omega) (fun h1 => ?_) (fun h1 => ?_)
  · obtain ⟨q2, rfl⟩ : ∃ q, n = q + 1 := ⟨n - 1, by omega⟩
    refine u_X7_noteChange_81 ?_
    unfold bX7_noteChange_81
    exact e_rV (K _ sh ir)
  · refine e_ldA g0 ?_
    obtain ⟨b3, rb4, kb5, nb6⟩ := hT.1 x0 8 1 12 8 k0 rfl
    refine e_gR (SH_k sh k0) (SH_r sh rb4) ?_
    refine e_ldI g2 ?_
    obtain ⟨b7, rb8, kb9, nb10⟩ := hT.2.1 b3 12 8 1 i2 kb5 nb6 rfl (by omega)
    refine e_aR (SH_k sh kb5) (SH_n sh nb6) (by omega) (by decide) (SH_r sh rb8) ?_
    refine e_ldA g0 ?_
    refine e_gR (SH_k sh k0) (SH_r sh rb4) ?_
    refine e_ldI g2 ?_
    refine e_aR (SH_k sh kb5) (SH_n sh nb6) (by omega) (by decide) (SH_r sh rb8) ?_
    refine And.intro (SH_k sh kb9) (And.intro ⟨by decide, by decide⟩ (z_X0_agrees (TY_SH hT sh) ir (SH_k sh kb9) (fun S11 s12 ir13 => ?_) (fun S11 s12 ir13 hp15 => ?_)))
    · have sh14 := SH.tr sh s12 (by decide)
      refine e_ifN (by omega) (fun h16 => ?_) (fun h16 => ?_)
      · obtain ⟨q17, rfl⟩ : ∃ q, n = q + 1 := ⟨n - 1, by omega⟩
        refine u_X7_noteChange_71 ?_
        unfold bX7_noteChange_71
        refine e_cN 0 rfl ?_
        obtain ⟨q18, rfl⟩ : ∃ q, q17 = q + 1 := ⟨q17 - 1, by omega⟩
        refine u_X7_noteChange_72 ?_
        unfold bX7_noteChange_72
        refine y_tZ (SH_k sh14 kb9) (by omega) sh14 ir13 (by decide) (by decide) (fun N e => nomatch (show (none : Option Nat) = some N from e)) (fun S19 he20 sh21 ir22 => ?_)
        refine e_inc g2 ?_
        exact t_29 q18 (by omega) _ _ x0 _ (i2 + 1) (lvg_ne g0 rfl (by decide)) k0 (lvg_ne g1 rfl (by decide)) lvg_self (by omega) sh21 ir22 (by omega)
      · exact absurd rfl h16
    · have sh14 := SH.tr sh s12 (by decide)
      refine e_ifN (by omega) (fun h23 => ?_) (fun h23 => ?_)
      · exact absurd h23 (by decide)
      · refine e_ldA g0 ?_
        refine e_ldA g0 ?_
        refine e_gR (SH_k sh14 k0) (SH_r sh14 rb4) ?_
        refine e_ldI g2 ?_
        refine e_aR (SH_k sh14 kb5) (SH_n sh14 nb6) (by omega) (by decide) (SH_r sh14 rb8) ?_
        refine And.intro (SH_k sh14 k0) (And.intro ⟨by decide, by decide⟩ (z_X7_countMeantAhead (TY_SH hT sh14) ir13 (SH_k sh14 k0) (SH_k sh14 kb9) (PL_SH (PL_SH' hp15 sh) sh14) (fun r28 S24 s25 ir26 => ?_)))
        have sh27 := SH.tr sh14 s25 (by decide)
        refine e_ldI g1 ?_
        refine e_ifc ?_ ?_
        · obtain ⟨q29, rfl⟩ : ∃ q, n = q + 1 := ⟨n - 1, by omega⟩
          refine u_X7_noteChange_71 ?_
          unfold bX7_noteChange_71
          refine e_cN 0 rfl ?_
          obtain ⟨q30, rfl⟩ : ∃ q, q29 = q + 1 := ⟨q29 - 1, by omega⟩
          refine u_X7_noteChange_72 ?_
          unfold bX7_noteChange_72
          refine y_tZ (SH_k sh27 kb9) (by omega) sh27 ir26 (by decide) (by decide) (fun N e => nomatch (show (none : Option Nat) = some N from e)) (fun S31 he32 sh33 ir34 => ?_)
          refine e_inc g2 ?_
          exact t_29 q30 (by omega) _ _ x0 _ (i2 + 1) (lvg_ne g0 rfl (by decide)) k0 (lvg_ne g1 rfl (by decide)) lvg_self (by omega) sh33 ir34 (by omega)
        · refine e_cN 1 rfl ?_
          obtain ⟨q35, rfl⟩ : ∃ q, n = q + 1 := ⟨n - 1, by omega⟩
          refine u_X7_noteChange_72 ?_
          unfold bX7_noteChange_72
          refine y_tZ (SH_k sh27 kb9) (by omega) sh27 ir26 (by decide) (by decide) (fun N e => nomatch (show (none : Option Nat) = some N from e)) (fun S36 he37 sh38 ir39 => ?_)
          refine e_inc g2 ?_
          exact t_29 q35 (by omega) _ _ x0 _ (i2 + 1) (lvg_ne g0 rfl (by decide)) k0 (lvg_ne g1 rfl (by decide)) lvg_self (by omega) sh38 ir39 (by omega)
theorem A_X7_noteChange {Q : Option Value → MM → Prop} {S0 : MM} (hT : TY S0) (K : ∀ S', SH [1, 8] S0 S' → IR S' → Q none S') : ∀ n k, k ≤ n → P_X7_noteChange_0 Q S0 k ∧ P_X7_noteChange_29 Q S0 k := by
  intro n
  induction n with
  | zero =>
    intro k hk
    have e : k = 0 := by omega
    subst e
    exact ⟨(fun lv S x0 _ _ _ _ hF => absurd hF (by omega)), (fun lv S x0 w1 i2 _ _ _ _ _ _ _ hF => absurd hF (by omega))⟩
  | succ n ih =>
    intro k hk
    by_cases hn : k ≤ n
    · exact ih k hn
    · have e : k = n + 1 := by omega
      subst e
      have T_0 : ∀ k, k ≤ n → P_X7_noteChange_0 Q S0 k := fun k hk => (ih k hk).1
      have T_29 : ∀ k, k ≤ n → P_X7_noteChange_29 Q S0 k := fun k hk => (ih k hk).2
      exact ⟨B_X7_noteChange_0 hT K T_29, B_X7_noteChange_29 hT K T_29⟩
theorem z_X7_noteChange {Q : Option Value → MM → Prop} {S0 : MM} {x0 : Nat} (hT : TY S0) (ir : IR S0) (k0 : sK S0 x0 = 8) (K : ∀ S', SH [1, 8] S0 S' → IR S' → Q none S') : wX7_noteChange [.ref x0] S0 Q := by
  exact Exists.intro 558 ((A_X7_noteChange hT K 558 558 (Nat.le_refl _)).1 _ S0 x0 rfl k0 SH.rf ir (by omega))
theorem u_X7_switchOn_0 {Q : Option Value → MM → Prop} {n : Nat} {lv : Lv} {st : List Value} {S : MM} {c z : Nat} (h : bX7_switchOn_0 Q (wpn (kX7_switchOn Q) n) lv st S c z) : wpn (kX7_switchOn Q) (n + 1) 0 lv st S c z := h
theorem u_X7_switchOn_7 {Q : Option Value → MM → Prop} {n : Nat} {lv : Lv} {st : List Value} {S : MM} {c z : Nat} (h : bX7_switchOn_7 Q (wpn (kX7_switchOn Q) n) lv st S c z) : wpn (kX7_switchOn Q) (n + 1) 7 lv st S c z := h
theorem u_X7_switchOn_27 {Q : Option Value → MM → Prop} {n : Nat} {lv : Lv} {st : List Value} {S : MM} {c z : Nat} (h : bX7_switchOn_27 Q (wpn (kX7_switchOn Q) n) lv st S c z) : wpn (kX7_switchOn Q) (n + 1) 27 lv st S c z := h
def P_X7_switchOn_0 (Q : Option Value → MM → Prop) (S0 : MM) (n : Nat) : Prop := ∀ (lv : Lv) (S : MM) (x0 : Nat) (x1 : Nat), lvg lv 0 = some (.ref x0) → sK S0 x0 = 8 → lvg lv 1 = some (.ref x1) → sK S0 x1 = 1 → PL S0 x1 → SH [6, 7, 23] S0 S → IR S → 186 ≤ n → wpn (kX7_switchOn Q) n 0 lv [] S 0 0
def P_X7_switchOn_7 (Q : Option Value → MM → Prop) (S0 : MM) (n : Nat) : Prop := ∀ (lv : Lv) (S : MM) (x0 : Nat) (x1 : Nat) (i2 : Nat), lvg lv 0 = some (.ref x0) → sK S0 x0 = 8 → lvg lv 1 = some (.ref x1) → sK S0 x1 = 1 → PL S0 x1 → lvg lv 2 = some (.int (nI i2)) → i2 < 3 → SH [6, 7, 23] S0 S → IR S → 31 + 62 * (2 - i2) ≤ n → wpn (kX7_switchOn Q) n 7 lv [] S 0 0
theorem B_X7_switchOn_0 {Q : Option Value → MM → Prop} {S0 : MM} {n : Nat} (hT : TY S0) (K : ∀ S', SH [6, 7, 23] S0 S' → IR S' → Q none S') (t_7 : ∀ k, k ≤ n → P_X7_switchOn_7 Q S0 k) : P_X7_switchOn_0 Q S0 (n + 1) := by
  intro lv S x0 x1 g0 k0 g1 k1 p1 sh ir hF
  refine u_X7_switchOn_0 ?_
  unfold bX7_switchOn_0
  refine e_ldA g1 ?_
  refine e_cN 1 rfl ?_
  refine y_tZ (SH_k sh k1) (by omega) sh ir (by decide) (by decide) (fun N e => nomatch (show (none : Option Nat) = some N from e)) (fun S1 he2 sh3 ir4 => ?_)
  refine e_cN 0 rfl ?_
  refine e_stI ?_
  exact t_7 n (by omega) _ _ x0 x1 0 (lvg_ne g0 rfl (by decide)) k0 (lvg_ne g1 rfl (by decide)) k1 p1 lvg_self (by omega) sh3 ir4 (by omega)
theorem B_X7_switchOn_7 {Q : Option Value → MM → Prop} {S0 : MM} {n : Nat} (hT : TY S0) (K : ∀ S', SH [6, 7, 23] S0 S' → IR S' → Q none S') (t_7 : ∀ k, k ≤ n → P_X7_switchOn_7 Q S0 k) : P_X7_switchOn_7 Q S0 (n + 1) := by
  intro lv S x0 x1 i2 g0 k0 g1 k1 p1 g2 h2 sh ir hF
  refine u_X7_switchOn_7 ?_
  unfold bX7_switchOn_7
  refine e_ldI g2 ?_
  refine e_cN 2 rfl ?_
  refine e_ge (by omega) (by omega) (fun h1 => ?_) (fun h1 => ?_)
  · obtain ⟨q2, rfl⟩ : ∃ q, n = q + 1 := ⟨n - 1, by omega⟩
    refine u_X7_switchOn_27 ?_
    unfold bX7_switchOn_27
    exact e_rV (K _ sh ir)
  · refine e_ldA g1 ?_
    obtain ⟨b3, rb4, kb5, nb6⟩ := hT.1 x1 1 0 17 2 k1 rfl
    refine e_gR (SH_k sh k1) (SH_r sh rb4) ?_
    refine e_ldI g2 ?_
    obtain ⟨b7, rb8⟩ := p1 b3 i2 rb4 (by omega)
    obtain ⟨kb9, nb10⟩ := hT.2.2 b3 17 6 i2 b7 kb5 rfl rb8
    refine e_aR (SH_k sh kb5) (SH_n sh nb6) (by omega) (by decide) (SH_r sh rb8) ?_
    refine And.intro (SH_k sh kb9) (And.intro ⟨by decide, by decide⟩ (z_X5_becomeLit (TY_SH hT sh) ir (SH_k sh kb9) (fun S11 s12 ir13 => ?_)))
    have sh14 := SH.tr sh s12 (by decide)
    refine e_inc g2 ?_
    exact t_7 n (by omega) _ _ x0 x1 (i2 + 1) (lvg_ne g0 rfl (by decide)) k0 (lvg_ne g1 rfl (by decide)) k1 p1 lvg_self (by omega) sh14 ir13 (by omega)
theorem A_X7_switchOn {Q : Option Value → MM → Prop} {S0 : MM} (hT : TY S0) (K : ∀ S', SH [6, 7, 23] S0 S' → IR S' → Q none S') : ∀ n k, k ≤ n → P_X7_switchOn_0 Q S0 k ∧ P_X7_switchOn_7 Q S0 k := by
  intro n
  induction n with
  | zero =>
    intro k hk
    have e : k = 0 := by omega
    subst e
    exact ⟨(fun lv S x0 x1 _ _ _ _ _ _ _ hF => absurd hF (by omega)), (fun lv S x0 x1 i2 _ _ _ _ _ _ _ _ _ hF => absurd hF (by omega))⟩
  | succ n ih =>
    intro k hk
    by_cases hn : k ≤ n
    · exact ih k hn
    · have e : k = n + 1 := by omega
      subst e
      have T_0 : ∀ k, k ≤ n → P_X7_switchOn_0 Q S0 k := fun k hk => (ih k hk).1
      have T_7 : ∀ k, k ≤ n → P_X7_switchOn_7 Q S0 k := fun k hk => (ih k hk).2
      exact ⟨B_X7_switchOn_0 hT K T_7, B_X7_switchOn_7 hT K T_7⟩
theorem z_X7_switchOn {Q : Option Value → MM → Prop} {S0 : MM} {x0 : Nat} {x1 : Nat} (hT : TY S0) (ir : IR S0) (k0 : sK S0 x0 = 8) (k1 : sK S0 x1 = 1) (p1 : PL S0 x1) (K : ∀ S', SH [6, 7, 23] S0 S' → IR S' → Q none S') : wX7_switchOn [.ref x0, .ref x1] S0 Q := by
  exact Exists.intro 186 ((A_X7_switchOn hT K 186 186 (Nat.le_refl _)).1 _ S0 x0 x1 rfl k0 rfl k1 p1 SH.rf ir (by omega))
theorem u_X7_switchOff_0 {Q : Option Value → MM → Prop} {n : Nat} {lv : Lv} {st : List Value} {S : MM} {c z : Nat} (h : bX7_switchOff_0 Q (wpn (kX7_switchOff Q) n) lv st S c z) : wpn (kX7_switchOff Q) (n + 1) 0 lv st S c z := h
theorem u_X7_switchOff_7 {Q : Option Value → MM → Prop} {n : Nat} {lv : Lv} {st : List Value} {S : MM} {c z : Nat} (h : bX7_switchOff_7 Q (wpn (kX7_switchOff Q) n) lv st S c z) : wpn (kX7_switchOff Q) (n + 1) 7 lv st S c z := h
theorem u_X7_switchOff_70 {Q : Option Value → MM → Prop} {n : Nat} {lv : Lv} {st : List Value} {S : MM} {c z : Nat} (h : bX7_switchOff_70 Q (wpn (kX7_switchOff Q) n) lv st S c z) : wpn (kX7_switchOff Q) (n + 1) 70 lv st S c z := h
def P_X7_switchOff_0 (Q : Option Value → MM → Prop) (S0 : MM) (n : Nat) : Prop := ∀ (lv : Lv) (S : MM) (x0 : Nat) (x1 : Nat), lvg lv 0 = some (.ref x0) → sK S0 x0 = 8 → lvg lv 1 = some (.ref x1) → sK S0 x1 = 1 → PL S0 x1 → SH [2, 4, 6, 7, 8, 23] S0 S → IR S → 186 ≤ n → wpn (kX7_switchOff Q) n 0 lv [] S 0 0
def P_X7_switchOff_7 (Q : Option Value → MM → Prop) (S0 : MM) (n : Nat) : Prop := ∀ (lv : Lv) (S : MM) (x0 : Nat) (x1 : Nat) (i2 : Nat), lvg lv 0 = some (.ref x0) → sK S0 x0 = 8 → lvg lv 1 = some (.ref x1) → sK S0 x1 = 1 → PL S0 x1 → lvg lv 2 = some (.int (nI i2)) → i2 < 3 → SH [2, 4, 6, 7, 8, 23] S0 S → IR S → 31 + 62 * (2 - i2) ≤ n → wpn (kX7_switchOff Q) n 7 lv [] S 0 0
theorem B_X7_switchOff_0 {Q : Option Value → MM → Prop} {S0 : MM} {n : Nat} (hT : TY S0) (K : ∀ S', SH [2, 4, 6, 7, 8, 23] S0 S' → IR S' → Q none S') (t_7 : ∀ k, k ≤ n → P_X7_switchOff_7 Q S0 k) : P_X7_switchOff_0 Q S0 (n + 1) := by
  intro lv S x0 x1 g0 k0 g1 k1 p1 sh ir hF
  refine u_X7_switchOff_0 ?_
  unfold bX7_switchOff_0
  refine e_ldA g1 ?_
  refine e_cN 0 rfl ?_
  refine y_tZ (SH_k sh k1) (by omega) sh ir (by decide) (by decide) (fun N e => nomatch (show (none : Option Nat) = some N from e)) (fun S1 he2 sh3 ir4 => ?_)
  refine e_cN 0 rfl ?_
  refine e_stI ?_
  exact t_7 n (by omega) _ _ x0 x1 0 (lvg_ne g0 rfl (by decide)) k0 (lvg_ne g1 rfl (by decide)) k1 p1 lvg_self (by omega) sh3 ir4 (by omega)
theorem B_X7_switchOff_7 {Q : Option Value → MM → Prop} {S0 : MM} {n : Nat} (hT : TY S0) (K : ∀ S', SH [2, 4, 6, 7, 8, 23] S0 S' → IR S' → Q none S') (t_7 : ∀ k, k ≤ n → P_X7_switchOff_7 Q S0 k) : P_X7_switchOff_7 Q S0 (n + 1) := by
  intro lv S x0 x1 i2 g0 k0 g1 k1 p1 g2 h2 sh ir hF
  refine u_X7_switchOff_7 ?_
  unfold bX7_switchOff_7
  refine e_ldI g2 ?_
  refine e_cN 2 rfl ?_
  refine e_ge (by omega) (by omega) (fun h1 => ?_) (fun h1 => ?_)
  · obtain ⟨q2, rfl⟩ : ∃ q, n = q + 1 := ⟨n - 1, by omega⟩
    refine u_X7_switchOff_70 ?_
    unfold bX7_switchOff_70
    exact e_rV (K _ sh ir)
  · refine e_ldA g0 ?_
    refine e_duA ?_
    refine e_gI (SH_k sh k0) (fun v3 hv4 => ?_)
    refine e_ldA g1 ?_
    obtain ⟨b5, rb6, kb7, nb8⟩ := hT.1 x1 1 1 15 2 k1 rfl
    refine e_gR (SH_k sh k1) (SH_r sh rb6) ?_
    refine e_ldI g2 ?_
    obtain ⟨b9, rb10, kb11, nb12⟩ := hT.2.1 b5 15 2 4 i2 kb7 nb8 rfl (by omega)
    refine e_aR (SH_k sh kb7) (SH_n sh nb8) (by omega) (by decide) (SH_r sh rb10) ?_
    obtain ⟨n13, hn14, vn15⟩ := ir b9 4 5 201 (SH_k sh kb11) rfl
    refine e_gV (SH_k sh kb11) vn15 ?_
    refine e_bopU (fun r16 => ?_)
    refine y_tI (SH_k sh k0) sh ir (by decide) (by decide) (fun N e => nomatch (show (none : Option Nat) = some N from e)) (fun S17 he18 sh19 ir20 => ?_)
    refine e_ldA g1 ?_
    refine e_gR (SH_k sh19 k1) (SH_r sh19 rb6) ?_
    refine e_ldI g2 ?_
    refine e_aR (SH_k sh19 kb7) (SH_n sh19 nb8) (by omega) (by decide) (SH_r sh19 rb10) ?_
    refine And.intro (SH_k sh19 kb11) (And.intro ⟨by decide, by decide⟩ (z_X3_clear (TY_SH hT sh19) ir20 (SH_k sh19 kb11) (fun S21 s22 ir23 => ?_)))
    have sh24 := SH.tr sh19 s22 (by decide)
    refine e_ldA g0 ?_
    obtain ⟨b25, rb26, kb27, nb28⟩ := hT.1 x0 8 0 13 2 k0 rfl
    refine e_gR (SH_k sh24 k0) (SH_r sh24 rb26) ?_
    refine e_ldI g2 ?_
    obtain ⟨b29, rb30, kb31, nb32⟩ := hT.2.1 b25 13 2 2 i2 kb27 nb28 rfl (by omega)
    refine e_aR (SH_k sh24 kb27) (SH_n sh24 nb28) (by omega) (by decide) (SH_r sh24 rb30) ?_
    refine e_ldA g1 ?_
    obtain ⟨b33, rb34, kb35, nb36⟩ := hT.1 x1 1 0 17 2 k1 rfl
    refine e_gR (SH_k sh24 k1) (SH_r sh24 rb34) ?_
    refine e_ldI g2 ?_
    obtain ⟨b37, rb38⟩ := p1 b33 i2 rb34 (by omega)
    obtain ⟨kb39, nb40⟩ := hT.2.2 b33 17 6 i2 b37 kb35 rfl rb38
    refine e_aR (SH_k sh24 kb35) (SH_n sh24 nb36) (by omega) (by decide) (SH_r sh24 rb38) ?_
    refine e_cN 0 rfl ?_
    refine And.intro (SH_k sh24 kb31) (And.intro ⟨by decide, by decide⟩ (z_X1_moveTo (TY_SH hT sh24) ir23 (SH_k sh24 kb31) (SH_k sh24 kb39) (fun S41 s42 ir43 => ?_)))
    have sh44 := SH.tr sh24 s42 (by decide)
    refine e_ldA g1 ?_
    refine e_gR (SH_k sh44 k1) (SH_r sh44 rb34) ?_
    refine e_ldI g2 ?_
    refine e_aR (SH_k sh44 kb35) (SH_n sh44 nb36) (by omega) (by decide) (SH_r sh44 rb38) ?_
    refine And.intro (SH_k sh44 kb39) (And.intro ⟨by decide, by decide⟩ (z_X5_becomeDark (TY_SH hT sh44) ir43 (SH_k sh44 kb39) (fun S45 s46 ir47 => ?_)))
    have sh48 := SH.tr sh44 s46 (by decide)
    refine e_inc g2 ?_
    exact t_7 n (by omega) _ _ x0 x1 (i2 + 1) (lvg_ne g0 rfl (by decide)) k0 (lvg_ne g1 rfl (by decide)) k1 p1 lvg_self (by omega) sh48 ir47 (by omega)
theorem A_X7_switchOff {Q : Option Value → MM → Prop} {S0 : MM} (hT : TY S0) (K : ∀ S', SH [2, 4, 6, 7, 8, 23] S0 S' → IR S' → Q none S') : ∀ n k, k ≤ n → P_X7_switchOff_0 Q S0 k ∧ P_X7_switchOff_7 Q S0 k := by
  intro n
  induction n with
  | zero =>
    intro k hk
    have e : k = 0 := by omega
    subst e
    exact ⟨(fun lv S x0 x1 _ _ _ _ _ _ _ hF => absurd hF (by omega)), (fun lv S x0 x1 i2 _ _ _ _ _ _ _ _ _ hF => absurd hF (by omega))⟩
  | succ n ih =>
    intro k hk
    by_cases hn : k ≤ n
    · exact ih k hn
    · have e : k = n + 1 := by omega
      subst e
      have T_0 : ∀ k, k ≤ n → P_X7_switchOff_0 Q S0 k := fun k hk => (ih k hk).1
      have T_7 : ∀ k, k ≤ n → P_X7_switchOff_7 Q S0 k := fun k hk => (ih k hk).2
      exact ⟨B_X7_switchOff_0 hT K T_7, B_X7_switchOff_7 hT K T_7⟩
theorem z_X7_switchOff {Q : Option Value → MM → Prop} {S0 : MM} {x0 : Nat} {x1 : Nat} (hT : TY S0) (ir : IR S0) (k0 : sK S0 x0 = 8) (k1 : sK S0 x1 = 1) (p1 : PL S0 x1) (K : ∀ S', SH [2, 4, 6, 7, 8, 23] S0 S' → IR S' → Q none S') : wX7_switchOff [.ref x0, .ref x1] S0 Q := by
  exact Exists.intro 186 ((A_X7_switchOff hT K 186 186 (Nat.le_refl _)).1 _ S0 x0 x1 rfl k0 rfl k1 p1 SH.rf ir (by omega))
theorem u_X7_receive_0 {Q : Option Value → MM → Prop} {n : Nat} {lv : Lv} {st : List Value} {S : MM} {c z : Nat} (h : bX7_receive_0 Q (wpn (kX7_receive Q) n) lv st S c z) : wpn (kX7_receive Q) (n + 1) 0 lv st S c z := h
theorem u_X7_receive_40 {Q : Option Value → MM → Prop} {n : Nat} {lv : Lv} {st : List Value} {S : MM} {c z : Nat} (h : bX7_receive_40 Q (wpn (kX7_receive Q) n) lv st S c z) : wpn (kX7_receive Q) (n + 1) 40 lv st S c z := h
theorem u_X7_receive_43 {Q : Option Value → MM → Prop} {n : Nat} {lv : Lv} {st : List Value} {S : MM} {c z : Nat} (h : bX7_receive_43 Q (wpn (kX7_receive Q) n) lv st S c z) : wpn (kX7_receive Q) (n + 1) 43 lv st S c z := h
theorem u_X7_receive_72 {Q : Option Value → MM → Prop} {n : Nat} {lv : Lv} {st : List Value} {S : MM} {c z : Nat} (h : bX7_receive_72 Q (wpn (kX7_receive Q) n) lv st S c z) : wpn (kX7_receive Q) (n + 1) 72 lv st S c z := h
def P_X7_receive_0 (Q : Option Value → MM → Prop) (S0 : MM) (n : Nat) : Prop := ∀ (lv : Lv) (S : MM) (x0 : Nat) (x1 : Nat) (x2 : Nat) (i3 : Nat), lvg lv 0 = some (.ref x0) → sK S0 x0 = 8 → lvg lv 1 = some (.ref x1) → sK S0 x1 = 3 → lvg lv 2 = some (.ref x2) → sK S0 x2 = 6 → lvg lv 3 = some (.int (nI i3)) → i3 < 2 → SH [2, 3, 8, 19] S0 S → IR S → 558 ≤ n → wpn (kX7_receive Q) n 0 lv [] S 0 0
def P_X7_receive_43 (Q : Option Value → MM → Prop) (S0 : MM) (n : Nat) : Prop := ∀ (lv : Lv) (S : MM) (x0 : Nat) (x1 : Nat) (x2 : Nat) (i3 : Nat) (i4 : Nat), lvg lv 0 = some (.ref x0) → sK S0 x0 = 8 → lvg lv 1 = some (.ref x1) → sK S0 x1 = 3 → lvg lv 2 = some (.ref x2) → sK S0 x2 = 6 → lvg lv 3 = some (.int (nI i3)) → i3 < 2 → lvg lv 4 = some (.int (nI i4)) → i4 < 9 → SH [2, 3, 8, 19] S0 S → IR S → 31 + 62 * (8 - i4) ≤ n → wpn (kX7_receive Q) n 43 lv [] S 0 0
theorem B_X7_receive_0 {Q : Option Value → MM → Prop} {S0 : MM} {n : Nat} (hT : TY S0) (K : ∀ S', SH [2, 3, 8, 19] S0 S' → IR S' → Q none S') (t_43 : ∀ k, k ≤ n → P_X7_receive_43 Q S0 k) : P_X7_receive_0 Q S0 (n + 1) := by
  intro lv S x0 x1 x2 i3 g0 k0 g1 k1 g2 k2 g3 h3 sh ir hF
  refine u_X7_receive_0 ?_
  unfold bX7_receive_0
  refine e_ldA g0 ?_
  obtain ⟨b1, rb2, kb3, nb4⟩ := hT.1 x0 8 0 13 2 k0 rfl
  refine e_gR (SH_k sh k0) (SH_r sh rb2) ?_
  refine e_cN 1 rfl ?_
  refine e_ldI g3 ?_
  refine e_sub (by omega) ?_
  obtain ⟨b5, rb6, kb7, nb8⟩ := hT.2.1 b1 13 2 2 (1 - i3) kb3 nb4 rfl (by omega)
  refine e_aR (SH_k sh kb3) (SH_n sh nb4) (by omega) (by decide) (SH_r sh rb6) ?_
  refine e_ldA g1 ?_
  refine e_ldA g2 ?_
  obtain ⟨b9, rb10, kb11, nb12⟩ := hT.1 x2 6 0 7 0 k2 rfl
  refine e_gR (SH_k sh k2) (SH_r sh rb10) ?_
  refine e_gI (SH_k sh kb11) (fun v13 hv14 => ?_)
  refine e_ldA g0 ?_
  refine e_gI (SH_k sh k0) (fun v15 hv16 => ?_)
  refine And.intro (SH_k sh kb7) (And.intro ⟨by decide, by decide⟩ (z_X1_keep (TY_SH hT sh) ir (SH_k sh kb7) (SH_k sh k1) (fun S17 s18 ir19 => ?_)))
  have sh20 := SH.tr sh s18 (by decide)
  refine e_ldA g1 ?_
  refine e_gI (SH_k sh20 k1) (fun v21 hv22 => ?_)
  refine e_if0 (fun h23 => ?_) (fun h23 => ?_)
  · obtain ⟨q24, rfl⟩ : ∃ q, n = q + 1 := ⟨n - 1, by omega⟩
    refine u_X7_receive_40 ?_
    unfold bX7_receive_40
    refine e_cN 0 rfl ?_
    refine e_stI ?_
    exact t_43 q24 (by omega) _ _ x0 x1 x2 i3 0 (lvg_ne g0 rfl (by decide)) k0 (lvg_ne g1 rfl (by decide)) k1 (lvg_ne g2 rfl (by decide)) k2 (lvg_ne g3 rfl (by decide)) (by omega) lvg_self (by omega) sh20 ir19 (by omega)
  · refine e_ldA g0 ?_
    refine e_duA ?_
    refine e_gI (SH_k sh20 k0) (fun v25 hv26 => ?_)
    refine e_cN 1 rfl ?_
    refine e_bopU (fun r27 => ?_)
    refine y_tI (SH_k sh20 k0) sh20 ir19 (by decide) (by decide) (fun N e => nomatch (show (none : Option Nat) = some N from e)) (fun S28 he29 sh30 ir31 => ?_)
    obtain ⟨q32, rfl⟩ : ∃ q, n = q + 1 := ⟨n - 1, by omega⟩
    refine u_X7_receive_40 ?_
    unfold bX7_receive_40
    refine e_cN 0 rfl ?_
    refine e_stI ?_
    exact t_43 q32 (by omega) _ _ x0 x1 x2 i3 0 (lvg_ne g0 rfl (by decide)) k0 (lvg_ne g1 rfl (by decide)) k1 (lvg_ne g2 rfl (by decide)) k2 (lvg_ne g3 rfl (by decide)) (by omega) lvg_self (by omega) sh30 ir31 (by omega)
theorem B_X7_receive_43 {Q : Option Value → MM → Prop} {S0 : MM} {n : Nat} (hT : TY S0) (K : ∀ S', SH [2, 3, 8, 19] S0 S' → IR S' → Q none S') (t_43 : ∀ k, k ≤ n → P_X7_receive_43 Q S0 k) : P_X7_receive_43 Q S0 (n + 1) := by
  intro lv S x0 x1 x2 i3 i4 g0 k0 g1 k1 g2 k2 g3 h3 g4 h4 sh ir hF
  refine u_X7_receive_43 ?_
  unfold bX7_receive_43
  refine e_ldI g4 ?_
  refine e_cN 8 rfl ?_
  refine e_ge (by omega) (by omega) (fun h1 => ?_) (fun h1 => ?_)
  · obtain ⟨q2, rfl⟩ : ∃ q, n = q + 1 := ⟨n - 1, by omega⟩
    refine u_X7_receive_72 ?_
    unfold bX7_receive_72
    exact e_rV (K _ sh ir)
  · refine e_ldA g0 ?_
    obtain ⟨b3, rb4, kb5, nb6⟩ := hT.1 x0 8 1 12 8 k0 rfl
    refine e_gR (SH_k sh k0) (SH_r sh rb4) ?_
    refine e_ldI g4 ?_
    obtain ⟨b7, rb8, kb9, nb10⟩ := hT.2.1 b3 12 8 1 i4 kb5 nb6 rfl (by omega)
    refine e_aR (SH_k sh kb5) (SH_n sh nb6) (by omega) (by decide) (SH_r sh rb8) ?_
    obtain ⟨b11, rb12, kb13, nb14⟩ := hT.1 b7 1 1 15 2 kb9 rfl
    refine e_gR (SH_k sh kb9) (SH_r sh rb12) ?_
    refine e_ldI g3 ?_
    obtain ⟨b15, rb16, kb17, nb18⟩ := hT.2.1 b11 15 2 4 i3 kb13 nb14 rfl (by omega)
    refine e_aR (SH_k sh kb13) (SH_n sh nb14) (by omega) (by decide) (SH_r sh rb16) ?_
    refine e_ldA g1 ?_
    refine And.intro (SH_k sh kb17) (And.intro ⟨by decide, by decide⟩ (z_X3_markOvertaken (TY_SH hT sh) ir (SH_k sh kb17) (SH_k sh k1) (fun S19 s20 ir21 => ?_)))
    have sh22 := SH.tr sh s20 (by decide)
    refine e_inc g4 ?_
    exact t_43 n (by omega) _ _ x0 x1 x2 i3 (i4 + 1) (lvg_ne g0 rfl (by decide)) k0 (lvg_ne g1 rfl (by decide)) k1 (lvg_ne g2 rfl (by decide)) k2 (lvg_ne g3 rfl (by decide)) (by omega) lvg_self (by omega) sh22 ir21 (by omega)
theorem A_X7_receive {Q : Option Value → MM → Prop} {S0 : MM} (hT : TY S0) (K : ∀ S', SH [2, 3, 8, 19] S0 S' → IR S' → Q none S') : ∀ n k, k ≤ n → P_X7_receive_0 Q S0 k ∧ P_X7_receive_43 Q S0 k := by
  intro n
  induction n with
  | zero =>
    intro k hk
    have e : k = 0 := by omega
    subst e
    exact ⟨(fun lv S x0 x1 x2 i3 _ _ _ _ _ _ _ _ _ _ hF => absurd hF (by omega)), (fun lv S x0 x1 x2 i3 i4 _ _ _ _ _ _ _ _ _ _ _ _ hF => absurd hF (by omega))⟩
  | succ n ih =>
    intro k hk
    by_cases hn : k ≤ n
    · exact ih k hn
    · have e : k = n + 1 := by omega
      subst e
      have T_0 : ∀ k, k ≤ n → P_X7_receive_0 Q S0 k := fun k hk => (ih k hk).1
      have T_43 : ∀ k, k ≤ n → P_X7_receive_43 Q S0 k := fun k hk => (ih k hk).2
      exact ⟨B_X7_receive_0 hT K T_43, B_X7_receive_43 hT K T_43⟩
theorem z_X7_receive {Q : Option Value → MM → Prop} {S0 : MM} {x0 : Nat} {x1 : Nat} {x2 : Nat} {i3 : Nat} (hT : TY S0) (ir : IR S0) (k0 : sK S0 x0 = 8) (k1 : sK S0 x1 = 3) (k2 : sK S0 x2 = 6) (h3 : i3 < 2) (K : ∀ S', SH [2, 3, 8, 19] S0 S' → IR S' → Q none S') : wX7_receive [.ref x0, .ref x1, .ref x2, .int (nI i3)] S0 Q := by
  exact Exists.intro 558 ((A_X7_receive hT K 558 558 (Nat.le_refl _)).1 _ S0 x0 x1 x2 i3 rfl k0 rfl k1 rfl k2 rfl h3 SH.rf ir (by omega))
theorem u_X7_bringFrames_0 {Q : Option Value → MM → Prop} {n : Nat} {lv : Lv} {st : List Value} {S : MM} {c z : Nat} (h : bX7_bringFrames_0 Q (wpn (kX7_bringFrames Q) n) lv st S c z) : wpn (kX7_bringFrames Q) (n + 1) 0 lv st S c z := h
theorem u_X7_bringFrames_3 {Q : Option Value → MM → Prop} {n : Nat} {lv : Lv} {st : List Value} {S : MM} {c z : Nat} (h : bX7_bringFrames_3 Q (wpn (kX7_bringFrames Q) n) lv st S c z) : wpn (kX7_bringFrames Q) (n + 1) 3 lv st S c z := h
theorem u_X7_bringFrames_27 {Q : Option Value → MM → Prop} {n : Nat} {lv : Lv} {st : List Value} {S : MM} {c z : Nat} (h : bX7_bringFrames_27 Q (wpn (kX7_bringFrames Q) n) lv st S c z) : wpn (kX7_bringFrames Q) (n + 1) 27 lv st S c z := h
theorem u_X7_bringFrames_50 {Q : Option Value → MM → Prop} {n : Nat} {lv : Lv} {st : List Value} {S : MM} {c z : Nat} (h : bX7_bringFrames_50 Q (wpn (kX7_bringFrames Q) n) lv st S c z) : wpn (kX7_bringFrames Q) (n + 1) 50 lv st S c z := h
theorem u_X7_bringFrames_60 {Q : Option Value → MM → Prop} {n : Nat} {lv : Lv} {st : List Value} {S : MM} {c z : Nat} (h : bX7_bringFrames_60 Q (wpn (kX7_bringFrames Q) n) lv st S c z) : wpn (kX7_bringFrames Q) (n + 1) 60 lv st S c z := h
theorem u_X7_bringFrames_66 {Q : Option Value → MM → Prop} {n : Nat} {lv : Lv} {st : List Value} {S : MM} {c z : Nat} (h : bX7_bringFrames_66 Q (wpn (kX7_bringFrames Q) n) lv st S c z) : wpn (kX7_bringFrames Q) (n + 1) 66 lv st S c z := h
def P_X7_bringFrames_0 (Q : Option Value → MM → Prop) (S0 : MM) (n : Nat) : Prop := ∀ (lv : Lv) (S : MM) (x0 : Nat) (x1 : Nat) (x2 : Nat) (i3 : Nat), lvg lv 0 = some (.ref x0) → sK S0 x0 = 8 → lvg lv 1 = some (.ref x1) → sK S0 x1 = 4 → lvg lv 2 = some (.ref x2) → sK S0 x2 = 6 → lvg lv 3 = some (.int (nI i3)) → i3 < 2 → SH [2, 3, 4, 8, 19] S0 S → IR S → 12462 ≤ n → wpn (kX7_bringFrames Q) n 0 lv [] S 0 0
def P_X7_bringFrames_3 (Q : Option Value → MM → Prop) (S0 : MM) (n : Nat) : Prop := ∀ (lv : Lv) (S : MM) (x0 : Nat) (x1 : Nat) (x2 : Nat) (i3 : Nat) (i4 : Nat), lvg lv 0 = some (.ref x0) → sK S0 x0 = 8 → lvg lv 1 = some (.ref x1) → sK S0 x1 = 4 → lvg lv 2 = some (.ref x2) → sK S0 x2 = 6 → lvg lv 3 = some (.int (nI i3)) → i3 < 2 → lvg lv 4 = some (.int (nI i4)) → i4 < 201 → SH [2, 3, 4, 8, 19] S0 S → IR S → 31 + 62 * (200 - i4) ≤ n → wpn (kX7_bringFrames Q) n 3 lv [] S 0 0
theorem B_X7_bringFrames_0 {Q : Option Value → MM → Prop} {S0 : MM} {n : Nat} (hT : TY S0) (K : ∀ S', SH [2, 3, 4, 8, 19] S0 S' → IR S' → Q none S') (t_3 : ∀ k, k ≤ n → P_X7_bringFrames_3 Q S0 k) : P_X7_bringFrames_0 Q S0 (n + 1) := by
  intro lv S x0 x1 x2 i3 g0 k0 g1 k1 g2 k2 g3 h3 sh ir hF
  refine u_X7_bringFrames_0 ?_
  unfold bX7_bringFrames_0
  refine e_cN 0 rfl ?_
  refine e_stI ?_
  exact t_3 n (by omega) _ _ x0 x1 x2 i3 0 (lvg_ne g0 rfl (by decide)) k0 (lvg_ne g1 rfl (by decide)) k1 (lvg_ne g2 rfl (by decide)) k2 (lvg_ne g3 rfl (by decide)) (by omega) lvg_self (by omega) sh ir (by omega)
theorem B_X7_bringFrames_3 {Q : Option Value → MM → Prop} {S0 : MM} {n : Nat} (hT : TY S0) (K : ∀ S', SH [2, 3, 4, 8, 19] S0 S' → IR S' → Q none S') (t_3 : ∀ k, k ≤ n → P_X7_bringFrames_3 Q S0 k) : P_X7_bringFrames_3 Q S0 (n + 1) := by
  intro lv S x0 x1 x2 i3 i4 g0 k0 g1 k1 g2 k2 g3 h3 g4 h4 sh ir hF
  refine u_X7_bringFrames_3 ?_
  unfold bX7_bringFrames_3
  refine e_ldI g4 ?_
  refine e_cN 200 rfl ?_
  refine e_ge (by omega) (by omega) (fun h1 => ?_) (fun h1 => ?_)
  · obtain ⟨q2, rfl⟩ : ∃ q, n = q + 1 := ⟨n - 1, by omega⟩
    refine u_X7_bringFrames_66 ?_
    unfold bX7_bringFrames_66
    exact e_rV (K _ sh ir)
  · refine e_ldA g1 ?_
    refine e_ldA g0 ?_
    refine e_gI (SH_k sh k0) (fun v3 hv4 => ?_)
    refine And.intro (SH_k sh k1) (And.intro ⟨by decide, by decide⟩ (z_X3_takeDueFrame (TY_SH hT sh) ir (SH_k sh k1) (fun S5 s6 ir7 => ?_) (fun b9 S5 s6 ir7 kb10 => ?_)))
    · have sh8 := SH.tr sh s6 (by decide)
      refine e_stN ?_
      refine e_ldN lvg_self ?_
      refine e_nnN ?_
      exact e_rV (K _ sh8 ir7)
    · have sh8 := SH.tr sh s6 (by decide)
      refine e_stA ?_
      refine e_ldA lvg_self ?_
      refine e_nnA ?_
      obtain ⟨q11, rfl⟩ : ∃ q, n = q + 1 := ⟨n - 1, by omega⟩
      refine u_X7_bringFrames_27 ?_
      unfold bX7_bringFrames_27
      refine e_ldA (lvg_ne g2 rfl (by decide)) ?_
      obtain ⟨b12, rb13, kb14, nb15⟩ := hT.1 x2 6 0 7 0 k2 rfl
      refine e_gR (SH_k sh8 k2) (SH_r sh8 rb13) ?_
      refine e_cN 16 rfl ?_
      refine And.intro (SH_k sh8 kb14) (And.intro ⟨by decide, by decide⟩ (z_X6_has (TY_SH hT sh8) ir7 (SH_k sh8 kb14) (fun n20 S16 s17 ir18 hn21 => ?_)))
      have sh19 := SH.tr sh8 s17 (by decide)
      refine e_ifN (by omega) (fun h22 => ?_) (fun h22 => ?_)
      · obtain ⟨q23, rfl⟩ : ∃ q, q11 = q + 1 := ⟨q11 - 1, by omega⟩
        refine u_X7_bringFrames_50 ?_
        unfold bX7_bringFrames_50
        refine e_ldA (lvg_ne g0 rfl (by decide)) ?_
        refine e_duA ?_
        refine e_gI (SH_k sh19 k0) (fun v24 hv25 => ?_)
        refine e_cN 1 rfl ?_
        refine e_bopU (fun r26 => ?_)
        refine y_tI (SH_k sh19 k0) sh19 ir18 (by decide) (by decide) (fun N e => nomatch (show (none : Option Nat) = some N from e)) (fun S27 he28 sh29 ir30 => ?_)
        obtain ⟨q31, rfl⟩ : ∃ q, q23 = q + 1 := ⟨q23 - 1, by omega⟩
        refine u_X7_bringFrames_60 ?_
        unfold bX7_bringFrames_60
        refine e_inc (lvg_ne g4 rfl (by decide)) ?_
        exact t_3 q31 (by omega) _ _ x0 x1 x2 i3 (i4 + 1) (lvg_ne (lvg_ne g0 rfl (by decide)) rfl (by decide)) k0 (lvg_ne (lvg_ne g1 rfl (by decide)) rfl (by decide)) k1 (lvg_ne (lvg_ne g2 rfl (by decide)) rfl (by decide)) k2 (lvg_ne (lvg_ne g3 rfl (by decide)) rfl (by decide)) (by omega) lvg_self (by omega) sh29 ir30 (by omega)
      · refine e_ldA (lvg_ne g0 rfl (by decide)) ?_
        refine e_ldA lvg_self ?_
        refine e_ldA (lvg_ne g2 rfl (by decide)) ?_
        refine e_ldI (lvg_ne g3 rfl (by decide)) ?_
        refine And.intro (SH_k sh19 k0) (And.intro ⟨by decide, by decide⟩ (z_X7_receive (TY_SH hT sh19) ir18 (SH_k sh19 k0) (SH_k sh19 (SH_k' sh kb10)) (SH_k sh19 k2) (show i3 < 2 by omega) (fun S32 s33 ir34 => ?_)))
        have sh35 := SH.tr sh19 s33 (by decide)
        obtain ⟨q36, rfl⟩ : ∃ q, q11 = q + 1 := ⟨q11 - 1, by omega⟩
        refine u_X7_bringFrames_60 ?_
        unfold bX7_bringFrames_60
        refine e_inc (lvg_ne g4 rfl (by decide)) ?_
        exact t_3 q36 (by omega) _ _ x0 x1 x2 i3 (i4 + 1) (lvg_ne (lvg_ne g0 rfl (by decide)) rfl (by decide)) k0 (lvg_ne (lvg_ne g1 rfl (by decide)) rfl (by decide)) k1 (lvg_ne (lvg_ne g2 rfl (by decide)) rfl (by decide)) k2 (lvg_ne (lvg_ne g3 rfl (by decide)) rfl (by decide)) (by omega) lvg_self (by omega) sh35 ir34 (by omega)
theorem A_X7_bringFrames {Q : Option Value → MM → Prop} {S0 : MM} (hT : TY S0) (K : ∀ S', SH [2, 3, 4, 8, 19] S0 S' → IR S' → Q none S') : ∀ n k, k ≤ n → P_X7_bringFrames_0 Q S0 k ∧ P_X7_bringFrames_3 Q S0 k := by
  intro n
  induction n with
  | zero =>
    intro k hk
    have e : k = 0 := by omega
    subst e
    exact ⟨(fun lv S x0 x1 x2 i3 _ _ _ _ _ _ _ _ _ _ hF => absurd hF (by omega)), (fun lv S x0 x1 x2 i3 i4 _ _ _ _ _ _ _ _ _ _ _ _ hF => absurd hF (by omega))⟩
  | succ n ih =>
    intro k hk
    by_cases hn : k ≤ n
    · exact ih k hn
    · have e : k = n + 1 := by omega
      subst e
      have T_0 : ∀ k, k ≤ n → P_X7_bringFrames_0 Q S0 k := fun k hk => (ih k hk).1
      have T_3 : ∀ k, k ≤ n → P_X7_bringFrames_3 Q S0 k := fun k hk => (ih k hk).2
      exact ⟨B_X7_bringFrames_0 hT K T_3, B_X7_bringFrames_3 hT K T_3⟩
theorem z_X7_bringFrames {Q : Option Value → MM → Prop} {S0 : MM} {x0 : Nat} {x1 : Nat} {x2 : Nat} {i3 : Nat} (hT : TY S0) (ir : IR S0) (k0 : sK S0 x0 = 8) (k1 : sK S0 x1 = 4) (k2 : sK S0 x2 = 6) (h3 : i3 < 2) (K : ∀ S', SH [2, 3, 4, 8, 19] S0 S' → IR S' → Q none S') : wX7_bringFrames [.ref x0, .ref x1, .ref x2, .int (nI i3)] S0 Q := by
  exact Exists.intro 12462 ((A_X7_bringFrames hT K 12462 12462 (Nat.le_refl _)).1 _ S0 x0 x1 x2 i3 rfl k0 rfl k1 rfl k2 rfl h3 SH.rf ir (by omega))
theorem u_X7_bringNotes_0 {Q : Option Value → MM → Prop} {n : Nat} {lv : Lv} {st : List Value} {S : MM} {c z : Nat} (h : bX7_bringNotes_0 Q (wpn (kX7_bringNotes Q) n) lv st S c z) : wpn (kX7_bringNotes Q) (n + 1) 0 lv st S c z := h
theorem u_X7_bringNotes_2 {Q : Option Value → MM → Prop} {n : Nat} {lv : Lv} {st : List Value} {S : MM} {c z : Nat} (h : bX7_bringNotes_2 Q (wpn (kX7_bringNotes Q) n) lv st S c z) : wpn (kX7_bringNotes Q) (n + 1) 2 lv st S c z := h
theorem u_X7_bringNotes_24 {Q : Option Value → MM → Prop} {n : Nat} {lv : Lv} {st : List Value} {S : MM} {c z : Nat} (h : bX7_bringNotes_24 Q (wpn (kX7_bringNotes Q) n) lv st S c z) : wpn (kX7_bringNotes Q) (n + 1) 24 lv st S c z := h
theorem u_X7_bringNotes_36 {Q : Option Value → MM → Prop} {n : Nat} {lv : Lv} {st : List Value} {S : MM} {c z : Nat} (h : bX7_bringNotes_36 Q (wpn (kX7_bringNotes Q) n) lv st S c z) : wpn (kX7_bringNotes Q) (n + 1) 36 lv st S c z := h
def P_X7_bringNotes_0 (Q : Option Value → MM → Prop) (S0 : MM) (n : Nat) : Prop := ∀ (lv : Lv) (S : MM) (x0 : Nat) (x1 : Nat) (x2 : Nat), lvg lv 0 = some (.ref x0) → sK S0 x0 = 8 → lvg lv 1 = some (.ref x1) → sK S0 x1 = 4 → lvg lv 2 = some (.ref x2) → sK S0 x2 = 6 → SH [4, 6, 7] S0 S → IR S → 558 ≤ n → wpn (kX7_bringNotes Q) n 0 lv [] S 0 0
def P_X7_bringNotes_2 (Q : Option Value → MM → Prop) (S0 : MM) (n : Nat) : Prop := ∀ (lv : Lv) (S : MM) (x0 : Nat) (x1 : Nat) (x2 : Nat) (i3 : Nat), lvg lv 0 = some (.ref x0) → sK S0 x0 = 8 → lvg lv 1 = some (.ref x1) → sK S0 x1 = 4 → lvg lv 2 = some (.ref x2) → sK S0 x2 = 6 → lvg lv 3 = some (.int (nI i3)) → i3 < 9 → SH [4, 6, 7] S0 S → IR S → 31 + 62 * (8 - i3) ≤ n → wpn (kX7_bringNotes Q) n 2 lv [] S 0 0
theorem B_X7_bringNotes_0 {Q : Option Value → MM → Prop} {S0 : MM} {n : Nat} (hT : TY S0) (K : ∀ S', SH [4, 6, 7] S0 S' → IR S' → Q none S') (t_2 : ∀ k, k ≤ n → P_X7_bringNotes_2 Q S0 k) : P_X7_bringNotes_0 Q S0 (n + 1) := by
  intro lv S x0 x1 x2 g0 k0 g1 k1 g2 k2 sh ir hF
  refine u_X7_bringNotes_0 ?_
  unfold bX7_bringNotes_0
  refine e_cN 0 rfl ?_
  refine e_stI ?_
  exact t_2 n (by omega) _ _ x0 x1 x2 0 (lvg_ne g0 rfl (by decide)) k0 (lvg_ne g1 rfl (by decide)) k1 (lvg_ne g2 rfl (by decide)) k2 lvg_self (by omega) sh ir (by omega)
theorem B_X7_bringNotes_2 {Q : Option Value → MM → Prop} {S0 : MM} {n : Nat} (hT : TY S0) (K : ∀ S', SH [4, 6, 7] S0 S' → IR S' → Q none S') (t_2 : ∀ k, k ≤ n → P_X7_bringNotes_2 Q S0 k) : P_X7_bringNotes_2 Q S0 (n + 1) := by
  intro lv S x0 x1 x2 i3 g0 k0 g1 k1 g2 k2 g3 h3 sh ir hF
  refine u_X7_bringNotes_2 ?_
  unfold bX7_bringNotes_2
  refine e_ldI g3 ?_
  refine e_cN 8 rfl ?_
  refine e_ge (by omega) (by omega) (fun h1 => ?_) (fun h1 => ?_)
  · obtain ⟨q2, rfl⟩ : ∃ q, n = q + 1 := ⟨n - 1, by omega⟩
    refine u_X7_bringNotes_36 ?_
    unfold bX7_bringNotes_36
    exact e_rV (K _ sh ir)
  · refine e_ldA g1 ?_
    refine e_ldA g0 ?_
    refine e_gI (SH_k sh k0) (fun v3 hv4 => ?_)
    refine And.intro (SH_k sh k1) (And.intro ⟨by decide, by decide⟩ (z_X3_takeDueNote (TY_SH hT sh) ir (SH_k sh k1) (fun S5 s6 ir7 => ?_) (fun b9 S5 s6 ir7 kb10 => ?_)))
    · have sh8 := SH.tr sh s6 (by decide)
      refine e_stN ?_
      refine e_ldN lvg_self ?_
      refine e_nnN ?_
      exact e_rV (K _ sh8 ir7)
    · have sh8 := SH.tr sh s6 (by decide)
      refine e_stA ?_
      refine e_ldA lvg_self ?_
      refine e_nnA ?_
      obtain ⟨q11, rfl⟩ : ∃ q, n = q + 1 := ⟨n - 1, by omega⟩
      refine u_X7_bringNotes_24 ?_
      unfold bX7_bringNotes_24
      refine e_ldA (lvg_ne g2 rfl (by decide)) ?_
      refine e_ldA lvg_self ?_
      refine And.intro (SH_k sh8 k2) (And.intro ⟨by decide, by decide⟩ (z_X5_hear (TY_SH hT sh8) ir7 (SH_k sh8 k2) (SH_k sh8 (SH_k' sh kb10)) (fun S12 s13 ir14 => ?_)))
      have sh15 := SH.tr sh8 s13 (by decide)
      refine e_inc (lvg_ne g3 rfl (by decide)) ?_
      exact t_2 q11 (by omega) _ _ x0 x1 x2 (i3 + 1) (lvg_ne (lvg_ne g0 rfl (by decide)) rfl (by decide)) k0 (lvg_ne (lvg_ne g1 rfl (by decide)) rfl (by decide)) k1 (lvg_ne (lvg_ne g2 rfl (by decide)) rfl (by decide)) k2 lvg_self (by omega) sh15 ir14 (by omega)
theorem A_X7_bringNotes {Q : Option Value → MM → Prop} {S0 : MM} (hT : TY S0) (K : ∀ S', SH [4, 6, 7] S0 S' → IR S' → Q none S') : ∀ n k, k ≤ n → P_X7_bringNotes_0 Q S0 k ∧ P_X7_bringNotes_2 Q S0 k := by
  intro n
  induction n with
  | zero =>
    intro k hk
    have e : k = 0 := by omega
    subst e
    exact ⟨(fun lv S x0 x1 x2 _ _ _ _ _ _ _ _ hF => absurd hF (by omega)), (fun lv S x0 x1 x2 i3 _ _ _ _ _ _ _ _ _ _ hF => absurd hF (by omega))⟩
  | succ n ih =>
    intro k hk
    by_cases hn : k ≤ n
    · exact ih k hn
    · have e : k = n + 1 := by omega
      subst e
      have T_0 : ∀ k, k ≤ n → P_X7_bringNotes_0 Q S0 k := fun k hk => (ih k hk).1
      have T_2 : ∀ k, k ≤ n → P_X7_bringNotes_2 Q S0 k := fun k hk => (ih k hk).2
      exact ⟨B_X7_bringNotes_0 hT K T_2, B_X7_bringNotes_2 hT K T_2⟩
theorem z_X7_bringNotes {Q : Option Value → MM → Prop} {S0 : MM} {x0 : Nat} {x1 : Nat} {x2 : Nat} (hT : TY S0) (ir : IR S0) (k0 : sK S0 x0 = 8) (k1 : sK S0 x1 = 4) (k2 : sK S0 x2 = 6) (K : ∀ S', SH [4, 6, 7] S0 S' → IR S' → Q none S') : wX7_bringNotes [.ref x0, .ref x1, .ref x2] S0 Q := by
  exact Exists.intro 558 ((A_X7_bringNotes hT K 558 558 (Nat.le_refl _)).1 _ S0 x0 x1 x2 rfl k0 rfl k1 rfl k2 SH.rf ir (by omega))
theorem u_X7_bringAll_0 {Q : Option Value → MM → Prop} {n : Nat} {lv : Lv} {st : List Value} {S : MM} {c z : Nat} (h : bX7_bringAll_0 Q (wpn (kX7_bringAll Q) n) lv st S c z) : wpn (kX7_bringAll Q) (n + 1) 0 lv st S c z := h
theorem u_X7_bringAll_2 {Q : Option Value → MM → Prop} {n : Nat} {lv : Lv} {st : List Value} {S : MM} {c z : Nat} (h : bX7_bringAll_2 Q (wpn (kX7_bringAll Q) n) lv st S c z) : wpn (kX7_bringAll Q) (n + 1) 2 lv st S c z := h
theorem u_X7_bringAll_31 {Q : Option Value → MM → Prop} {n : Nat} {lv : Lv} {st : List Value} {S : MM} {c z : Nat} (h : bX7_bringAll_31 Q (wpn (kX7_bringAll Q) n) lv st S c z) : wpn (kX7_bringAll Q) (n + 1) 31 lv st S c z := h
theorem u_X7_bringAll_79 {Q : Option Value → MM → Prop} {n : Nat} {lv : Lv} {st : List Value} {S : MM} {c z : Nat} (h : bX7_bringAll_79 Q (wpn (kX7_bringAll Q) n) lv st S c z) : wpn (kX7_bringAll Q) (n + 1) 79 lv st S c z := h
theorem u_X7_bringAll_85 {Q : Option Value → MM → Prop} {n : Nat} {lv : Lv} {st : List Value} {S : MM} {c z : Nat} (h : bX7_bringAll_85 Q (wpn (kX7_bringAll Q) n) lv st S c z) : wpn (kX7_bringAll Q) (n + 1) 85 lv st S c z := h
def P_X7_bringAll_0 (Q : Option Value → MM → Prop) (S0 : MM) (n : Nat) : Prop := ∀ (lv : Lv) (S : MM) (x0 : Nat), lvg lv 0 = some (.ref x0) → sK S0 x0 = 8 → SH [2, 3, 4, 6, 7, 8, 19] S0 S → IR S → 1953 ≤ n → wpn (kX7_bringAll Q) n 0 lv [] S 0 0
def P_X7_bringAll_2 (Q : Option Value → MM → Prop) (S0 : MM) (n : Nat) : Prop := ∀ (lv : Lv) (S : MM) (x0 : Nat) (i1 : Nat), lvg lv 0 = some (.ref x0) → sK S0 x0 = 8 → lvg lv 1 = some (.int (nI i1)) → i1 < 9 → SH [2, 3, 4, 6, 7, 8, 19] S0 S → IR S → 186 + 217 * (8 - i1) ≤ n → wpn (kX7_bringAll Q) n 2 lv [] S 0 0
def P_X7_bringAll_31 (Q : Option Value → MM → Prop) (S0 : MM) (n : Nat) : Prop := ∀ (lv : Lv) (S : MM) (x0 : Nat) (i1 : Nat) (x2 : Nat) (i3 : Nat), lvg lv 0 = some (.ref x0) → sK S0 x0 = 8 → lvg lv 1 = some (.int (nI i1)) → i1 < 8 → lvg lv 2 = some (.ref x2) → sK S0 x2 = 1 → PL S0 x2 → lvg lv 3 = some (.int (nI i3)) → i3 < 3 → SH [2, 3, 4, 6, 7, 8, 19] S0 S → IR S → 31 + 217 * (8 - i1) + 62 * (2 - i3) ≤ n → wpn (kX7_bringAll Q) n 31 lv [] S 0 0
theorem B_X7_bringAll_0 {Q : Option Value → MM → Prop} {S0 : MM} {n : Nat} (hT : TY S0) (K : ∀ S', SH [2, 3, 4, 6, 7, 8, 19] S0 S' → IR S' → Q none S') (t_2 : ∀ k, k ≤ n → P_X7_bringAll_2 Q S0 k) : P_X7_bringAll_0 Q S0 (n + 1) := by
  intro lv S x0 g0 k0 sh ir hF
  refine u_X7_bringAll_0 ?_
  unfold bX7_bringAll_0
  refine e_cN 0 rfl ?_
  refine e_stI ?_
  exact t_2 n (by omega) _ _ x0 0 (lvg_ne g0 rfl (by decide)) k0 lvg_self (by omega) sh ir (by omega)
theorem B_X7_bringAll_2 {Q : Option Value → MM → Prop} {S0 : MM} {n : Nat} (hT : TY S0) (K : ∀ S', SH [2, 3, 4, 6, 7, 8, 19] S0 S' → IR S' → Q none S') (t_2 : ∀ k, k ≤ n → P_X7_bringAll_2 Q S0 k) (t_31 : ∀ k, k ≤ n → P_X7_bringAll_31 Q S0 k) : P_X7_bringAll_2 Q S0 (n + 1) := by
  intro lv S x0 i1 g0 k0 g1 h1 sh ir hF
  refine u_X7_bringAll_2 ?_
  unfold bX7_bringAll_2
  refine e_ldI g1 ?_
  refine e_cN 8 rfl ?_
  refine e_ge (by omega) (by omega) (fun h1 => ?_) (fun h1 => ?_)
  · obtain ⟨q2, rfl⟩ : ∃ q, n = q + 1 := ⟨n - 1, by omega⟩
    refine u_X7_bringAll_85 ?_
    unfold bX7_bringAll_85
    exact e_rV (K _ sh ir)
  · refine e_ldA g0 ?_
    obtain ⟨b3, rb4, kb5, nb6⟩ := hT.1 x0 8 1 12 8 k0 rfl
    refine e_gR (SH_k sh k0) (SH_r sh rb4) ?_
    refine e_ldI g1 ?_
    obtain ⟨b7, rb8, kb9, nb10⟩ := hT.2.1 b3 12 8 1 i1 kb5 nb6 rfl (by omega)
    refine e_aR (SH_k sh kb5) (SH_n sh nb6) (by omega) (by decide) (SH_r sh rb8) ?_
    refine e_stA ?_
    refine e_ldA lvg_self ?_
    refine e_gI (SH_k sh kb9) (fun v11 hv12 => ?_)
    refine e_if0 (fun h13 => ?_) (fun h13 => ?_)
    · obtain ⟨q14, rfl⟩ : ∃ q, n = q + 1 := ⟨n - 1, by omega⟩
      refine u_X7_bringAll_79 ?_
      unfold bX7_bringAll_79
      refine e_inc (lvg_ne g1 rfl (by decide)) ?_
      exact t_2 q14 (by omega) _ _ x0 (i1 + 1) (lvg_ne (lvg_ne g0 rfl (by decide)) rfl (by decide)) k0 lvg_self (by omega) sh ir (by omega)
    · refine e_ldA lvg_self ?_
      refine And.intro (SH_k sh kb9) (And.intro ⟨by decide, by decide⟩ (z_X0_isPlugged (TY_SH hT sh) (SH_k sh kb9) ?_ (fun hp15 => ?_)))
      · refine e_ifN (by omega) (fun h16 => ?_) (fun h16 => ?_)
        · obtain ⟨q17, rfl⟩ : ∃ q, n = q + 1 := ⟨n - 1, by omega⟩
          refine u_X7_bringAll_79 ?_
          unfold bX7_bringAll_79
          refine e_inc (lvg_ne g1 rfl (by decide)) ?_
          exact t_2 q17 (by omega) _ _ x0 (i1 + 1) (lvg_ne (lvg_ne g0 rfl (by decide)) rfl (by decide)) k0 lvg_self (by omega) sh ir (by omega)
        · exact absurd rfl h16
      · refine e_ifN (by omega) (fun h18 => ?_) (fun h18 => ?_)
        · exact absurd h18 (by decide)
        · refine e_cN 0 rfl ?_
          refine e_stI ?_
          exact t_31 n (by omega) _ _ x0 i1 b7 0 (lvg_ne (lvg_ne g0 rfl (by decide)) rfl (by decide)) k0 (lvg_ne (lvg_ne g1 rfl (by decide)) rfl (by decide)) (by omega) (lvg_ne lvg_self rfl (by decide)) kb9 (PL_SH' hp15 sh) lvg_self (by omega) sh ir (by omega)
theorem B_X7_bringAll_31 {Q : Option Value → MM → Prop} {S0 : MM} {n : Nat} (hT : TY S0) (K : ∀ S', SH [2, 3, 4, 6, 7, 8, 19] S0 S' → IR S' → Q none S') (t_2 : ∀ k, k ≤ n → P_X7_bringAll_2 Q S0 k) (t_31 : ∀ k, k ≤ n → P_X7_bringAll_31 Q S0 k) : P_X7_bringAll_31 Q S0 (n + 1) := by
  intro lv S x0 i1 x2 i3 g0 k0 g1 h1 g2 k2 p2 g3 h3 sh ir hF
  refine u_X7_bringAll_31 ?_
  unfold bX7_bringAll_31
  refine e_ldI g3 ?_
  refine e_cN 2 rfl ?_
  refine e_ge (by omega) (by omega) (fun h1 => ?_) (fun h1 => ?_)
  · obtain ⟨q2, rfl⟩ : ∃ q, n = q + 1 := ⟨n - 1, by omega⟩
    refine u_X7_bringAll_79 ?_
    unfold bX7_bringAll_79
    refine e_inc g1 ?_
    exact t_2 q2 (by omega) _ _ x0 (i1 + 1) (lvg_ne g0 rfl (by decide)) k0 lvg_self (by omega) sh ir (by omega)
  · refine e_ldA g0 ?_
    refine e_ldA g2 ?_
    obtain ⟨b3, rb4, kb5, nb6⟩ := hT.1 x2 1 1 15 2 k2 rfl
    refine e_gR (SH_k sh k2) (SH_r sh rb4) ?_
    refine e_ldI g3 ?_
    obtain ⟨b7, rb8, kb9, nb10⟩ := hT.2.1 b3 15 2 4 i3 kb5 nb6 rfl (by omega)
    refine e_aR (SH_k sh kb5) (SH_n sh nb6) (by omega) (by decide) (SH_r sh rb8) ?_
    refine e_ldA g2 ?_
    obtain ⟨b11, rb12, kb13, nb14⟩ := hT.1 x2 1 0 17 2 k2 rfl
    refine e_gR (SH_k sh k2) (SH_r sh rb12) ?_
    refine e_cN 1 rfl ?_
    refine e_ldI g3 ?_
    refine e_sub (by omega) ?_
    obtain ⟨b15, rb16⟩ := p2 b11 (1 - i3) rb12 (by omega)
    obtain ⟨kb17, nb18⟩ := hT.2.2 b11 17 6 (1 - i3) b15 kb13 rfl rb16
    refine e_aR (SH_k sh kb13) (SH_n sh nb14) (by omega) (by decide) (SH_r sh rb16) ?_
    refine And.intro (SH_k sh k0) (And.intro ⟨by decide, by decide⟩ (z_X7_bringNotes (TY_SH hT sh) ir (SH_k sh k0) (SH_k sh kb9) (SH_k sh kb17) (fun S19 s20 ir21 => ?_)))
    have sh22 := SH.tr sh s20 (by decide)
    refine e_ldA g0 ?_
    refine e_ldA g2 ?_
    refine e_gR (SH_k sh22 k2) (SH_r sh22 rb4) ?_
    refine e_ldI g3 ?_
    refine e_aR (SH_k sh22 kb5) (SH_n sh22 nb6) (by omega) (by decide) (SH_r sh22 rb8) ?_
    refine e_ldA g2 ?_
    refine e_gR (SH_k sh22 k2) (SH_r sh22 rb12) ?_
    refine e_cN 1 rfl ?_
    refine e_ldI g3 ?_
    refine e_sub (by omega) ?_
    refine e_aR (SH_k sh22 kb13) (SH_n sh22 nb14) (by omega) (by decide) (SH_r sh22 rb16) ?_
    refine e_ldI g3 ?_
    refine And.intro (SH_k sh22 k0) (And.intro ⟨by decide, by decide⟩ (z_X7_bringFrames (TY_SH hT sh22) ir21 (SH_k sh22 k0) (SH_k sh22 kb9) (SH_k sh22 kb17) (show i3 < 2 by omega) (fun S23 s24 ir25 => ?_)))
    have sh26 := SH.tr sh22 s24 (by decide)
    refine e_inc g3 ?_
    exact t_31 n (by omega) _ _ x0 i1 x2 (i3 + 1) (lvg_ne g0 rfl (by decide)) k0 (lvg_ne g1 rfl (by decide)) (by omega) (lvg_ne g2 rfl (by decide)) k2 p2 lvg_self (by omega) sh26 ir25 (by omega)
theorem A_X7_bringAll {Q : Option Value → MM → Prop} {S0 : MM} (hT : TY S0) (K : ∀ S', SH [2, 3, 4, 6, 7, 8, 19] S0 S' → IR S' → Q none S') : ∀ n k, k ≤ n → P_X7_bringAll_0 Q S0 k ∧ P_X7_bringAll_2 Q S0 k ∧ P_X7_bringAll_31 Q S0 k := by
  intro n
  induction n with
  | zero =>
    intro k hk
    have e : k = 0 := by omega
    subst e
    exact ⟨(fun lv S x0 _ _ _ _ hF => absurd hF (by omega)), (fun lv S x0 i1 _ _ _ _ _ _ hF => absurd hF (by omega)), (fun lv S x0 i1 x2 i3 _ _ _ _ _ _ _ _ _ _ _ hF => absurd hF (by omega))⟩
  | succ n ih =>
    intro k hk
    by_cases hn : k ≤ n
    · exact ih k hn
    · have e : k = n + 1 := by omega
      subst e
      have T_0 : ∀ k, k ≤ n → P_X7_bringAll_0 Q S0 k := fun k hk => (ih k hk).1
      have T_2 : ∀ k, k ≤ n → P_X7_bringAll_2 Q S0 k := fun k hk => (ih k hk).2.1
      have T_31 : ∀ k, k ≤ n → P_X7_bringAll_31 Q S0 k := fun k hk => (ih k hk).2.2
      exact ⟨B_X7_bringAll_0 hT K T_2, B_X7_bringAll_2 hT K T_2 T_31, B_X7_bringAll_31 hT K T_2 T_31⟩
theorem z_X7_bringAll {Q : Option Value → MM → Prop} {S0 : MM} {x0 : Nat} (hT : TY S0) (ir : IR S0) (k0 : sK S0 x0 = 8) (K : ∀ S', SH [2, 3, 4, 6, 7, 8, 19] S0 S' → IR S' → Q none S') : wX7_bringAll [.ref x0] S0 Q := by
  exact Exists.intro 1953 ((A_X7_bringAll hT K 1953 1953 (Nat.le_refl _)).1 _ S0 x0 rfl k0 SH.rf ir (by omega))
theorem u_X7_ageAll_0 {Q : Option Value → MM → Prop} {n : Nat} {lv : Lv} {st : List Value} {S : MM} {c z : Nat} (h : bX7_ageAll_0 Q (wpn (kX7_ageAll Q) n) lv st S c z) : wpn (kX7_ageAll Q) (n + 1) 0 lv st S c z := h
theorem u_X7_ageAll_2 {Q : Option Value → MM → Prop} {n : Nat} {lv : Lv} {st : List Value} {S : MM} {c z : Nat} (h : bX7_ageAll_2 Q (wpn (kX7_ageAll Q) n) lv st S c z) : wpn (kX7_ageAll Q) (n + 1) 2 lv st S c z := h
theorem u_X7_ageAll_9 {Q : Option Value → MM → Prop} {n : Nat} {lv : Lv} {st : List Value} {S : MM} {c z : Nat} (h : bX7_ageAll_9 Q (wpn (kX7_ageAll Q) n) lv st S c z) : wpn (kX7_ageAll Q) (n + 1) 9 lv st S c z := h
theorem u_X7_ageAll_35 {Q : Option Value → MM → Prop} {n : Nat} {lv : Lv} {st : List Value} {S : MM} {c z : Nat} (h : bX7_ageAll_35 Q (wpn (kX7_ageAll Q) n) lv st S c z) : wpn (kX7_ageAll Q) (n + 1) 35 lv st S c z := h
theorem u_X7_ageAll_41 {Q : Option Value → MM → Prop} {n : Nat} {lv : Lv} {st : List Value} {S : MM} {c z : Nat} (h : bX7_ageAll_41 Q (wpn (kX7_ageAll Q) n) lv st S c z) : wpn (kX7_ageAll Q) (n + 1) 41 lv st S c z := h
def P_X7_ageAll_0 (Q : Option Value → MM → Prop) (S0 : MM) (n : Nat) : Prop := ∀ (lv : Lv) (S : MM) (x0 : Nat), lvg lv 0 = some (.ref x0) → sK S0 x0 = 8 → SH [6, 7] S0 S → IR S → 1767 ≤ n → wpn (kX7_ageAll Q) n 0 lv [] S 0 0
def P_X7_ageAll_2 (Q : Option Value → MM → Prop) (S0 : MM) (n : Nat) : Prop := ∀ (lv : Lv) (S : MM) (x0 : Nat) (i1 : Nat), lvg lv 0 = some (.ref x0) → sK S0 x0 = 8 → lvg lv 1 = some (.int (nI i1)) → i1 < 3 → SH [6, 7] S0 S → IR S → 558 + 589 * (2 - i1) ≤ n → wpn (kX7_ageAll Q) n 2 lv [] S 0 0
def P_X7_ageAll_9 (Q : Option Value → MM → Prop) (S0 : MM) (n : Nat) : Prop := ∀ (lv : Lv) (S : MM) (x0 : Nat) (i1 : Nat) (i2 : Nat), lvg lv 0 = some (.ref x0) → sK S0 x0 = 8 → lvg lv 1 = some (.int (nI i1)) → i1 < 2 → lvg lv 2 = some (.int (nI i2)) → i2 < 9 → SH [6, 7] S0 S → IR S → 31 + 62 * (8 - i2) + 589 * (2 - i1) ≤ n → wpn (kX7_ageAll Q) n 9 lv [] S 0 0
theorem B_X7_ageAll_0 {Q : Option Value → MM → Prop} {S0 : MM} {n : Nat} (hT : TY S0) (K : ∀ S', SH [6, 7] S0 S' → IR S' → Q none S') (t_2 : ∀ k, k ≤ n → P_X7_ageAll_2 Q S0 k) : P_X7_ageAll_0 Q S0 (n + 1) := by
  intro lv S x0 g0 k0 sh ir hF
  refine u_X7_ageAll_0 ?_
  unfold bX7_ageAll_0
  refine e_cN 0 rfl ?_
  refine e_stI ?_
  exact t_2 n (by omega) _ _ x0 0 (lvg_ne g0 rfl (by decide)) k0 lvg_self (by omega) sh ir (by omega)
theorem B_X7_ageAll_2 {Q : Option Value → MM → Prop} {S0 : MM} {n : Nat} (hT : TY S0) (K : ∀ S', SH [6, 7] S0 S' → IR S' → Q none S') (t_9 : ∀ k, k ≤ n → P_X7_ageAll_9 Q S0 k) : P_X7_ageAll_2 Q S0 (n + 1) := by
  intro lv S x0 i1 g0 k0 g1 h1 sh ir hF
  refine u_X7_ageAll_2 ?_
  unfold bX7_ageAll_2
  refine e_ldI g1 ?_
  refine e_cN 2 rfl ?_
  refine e_ge (by omega) (by omega) (fun h1 => ?_) (fun h1 => ?_)
  · obtain ⟨q2, rfl⟩ : ∃ q, n = q + 1 := ⟨n - 1, by omega⟩
    refine u_X7_ageAll_41 ?_
    unfold bX7_ageAll_41
    exact e_rV (K _ sh ir)
  · refine e_cN 0 rfl ?_
    refine e_stI ?_
    exact t_9 n (by omega) _ _ x0 i1 0 (lvg_ne g0 rfl (by decide)) k0 (lvg_ne g1 rfl (by decide)) (by omega) lvg_self (by omega) sh ir (by omega)
theorem B_X7_ageAll_9 {Q : Option Value → MM → Prop} {S0 : MM} {n : Nat} (hT : TY S0) (K : ∀ S', SH [6, 7] S0 S' → IR S' → Q none S') (t_2 : ∀ k, k ≤ n → P_X7_ageAll_2 Q S0 k) (t_9 : ∀ k, k ≤ n → P_X7_ageAll_9 Q S0 k) : P_X7_ageAll_9 Q S0 (n + 1) := by
  intro lv S x0 i1 i2 g0 k0 g1 h1 g2 h2 sh ir hF
  refine u_X7_ageAll_9 ?_
  unfold bX7_ageAll_9
  refine e_ldI g2 ?_
  refine e_cN 8 rfl ?_
  refine e_ge (by omega) (by omega) (fun h1 => ?_) (fun h1 => ?_)
  · obtain ⟨q2, rfl⟩ : ∃ q, n = q + 1 := ⟨n - 1, by omega⟩
    refine u_X7_ageAll_35 ?_
    unfold bX7_ageAll_35
    refine e_inc g1 ?_
    exact t_2 q2 (by omega) _ _ x0 (i1 + 1) (lvg_ne g0 rfl (by decide)) k0 lvg_self (by omega) sh ir (by omega)
  · refine e_ldA g0 ?_
    obtain ⟨b3, rb4, kb5, nb6⟩ := hT.1 x0 8 0 13 2 k0 rfl
    refine e_gR (SH_k sh k0) (SH_r sh rb4) ?_
    refine e_ldI g1 ?_
    obtain ⟨b7, rb8, kb9, nb10⟩ := hT.2.1 b3 13 2 2 i1 kb5 nb6 rfl (by omega)
    refine e_aR (SH_k sh kb5) (SH_n sh nb6) (by omega) (by decide) (SH_r sh rb8) ?_
    obtain ⟨b11, rb12, kb13, nb14⟩ := hT.1 b7 2 0 17 8 kb9 rfl
    refine e_gR (SH_k sh kb9) (SH_r sh rb12) ?_
    refine e_ldI g2 ?_
    obtain ⟨b15, rb16, kb17, nb18⟩ := hT.2.1 b11 17 8 6 i2 kb13 nb14 rfl (by omega)
    refine e_aR (SH_k sh kb13) (SH_n sh nb14) (by omega) (by decide) (SH_r sh rb16) ?_
    refine And.intro (SH_k sh kb17) (And.intro ⟨by decide, by decide⟩ (z_X5_age (TY_SH hT sh) ir (SH_k sh kb17) (fun S19 s20 ir21 => ?_)))
    have sh22 := SH.tr sh s20 (by decide)
    refine e_inc g2 ?_
    exact t_9 n (by omega) _ _ x0 i1 (i2 + 1) (lvg_ne g0 rfl (by decide)) k0 (lvg_ne g1 rfl (by decide)) (by omega) lvg_self (by omega) sh22 ir21 (by omega)
theorem A_X7_ageAll {Q : Option Value → MM → Prop} {S0 : MM} (hT : TY S0) (K : ∀ S', SH [6, 7] S0 S' → IR S' → Q none S') : ∀ n k, k ≤ n → P_X7_ageAll_0 Q S0 k ∧ P_X7_ageAll_2 Q S0 k ∧ P_X7_ageAll_9 Q S0 k := by
  intro n
  induction n with
  | zero =>
    intro k hk
    have e : k = 0 := by omega
    subst e
    exact ⟨(fun lv S x0 _ _ _ _ hF => absurd hF (by omega)), (fun lv S x0 i1 _ _ _ _ _ _ hF => absurd hF (by omega)), (fun lv S x0 i1 i2 _ _ _ _ _ _ _ _ hF => absurd hF (by omega))⟩
  | succ n ih =>
    intro k hk
    by_cases hn : k ≤ n
    · exact ih k hn
    · have e : k = n + 1 := by omega
      subst e
      have T_0 : ∀ k, k ≤ n → P_X7_ageAll_0 Q S0 k := fun k hk => (ih k hk).1
      have T_2 : ∀ k, k ≤ n → P_X7_ageAll_2 Q S0 k := fun k hk => (ih k hk).2.1
      have T_9 : ∀ k, k ≤ n → P_X7_ageAll_9 Q S0 k := fun k hk => (ih k hk).2.2
      exact ⟨B_X7_ageAll_0 hT K T_2, B_X7_ageAll_2 hT K T_9, B_X7_ageAll_9 hT K T_2 T_9⟩
theorem z_X7_ageAll {Q : Option Value → MM → Prop} {S0 : MM} {x0 : Nat} (hT : TY S0) (ir : IR S0) (k0 : sK S0 x0 = 8) (K : ∀ S', SH [6, 7] S0 S' → IR S' → Q none S') : wX7_ageAll [.ref x0] S0 Q := by
  exact Exists.intro 1767 ((A_X7_ageAll hT K 1767 1767 (Nat.le_refl _)).1 _ S0 x0 rfl k0 SH.rf ir (by omega))
theorem u_X7_stepAll_0 {Q : Option Value → MM → Prop} {n : Nat} {lv : Lv} {st : List Value} {S : MM} {c z : Nat} (h : bX7_stepAll_0 Q (wpn (kX7_stepAll Q) n) lv st S c z) : wpn (kX7_stepAll Q) (n + 1) 0 lv st S c z := h
theorem u_X7_stepAll_2 {Q : Option Value → MM → Prop} {n : Nat} {lv : Lv} {st : List Value} {S : MM} {c z : Nat} (h : bX7_stepAll_2 Q (wpn (kX7_stepAll Q) n) lv st S c z) : wpn (kX7_stepAll Q) (n + 1) 2 lv st S c z := h
theorem u_X7_stepAll_9 {Q : Option Value → MM → Prop} {n : Nat} {lv : Lv} {st : List Value} {S : MM} {c z : Nat} (h : bX7_stepAll_9 Q (wpn (kX7_stepAll Q) n) lv st S c z) : wpn (kX7_stepAll Q) (n + 1) 9 lv st S c z := h
theorem u_X7_stepAll_48 {Q : Option Value → MM → Prop} {n : Nat} {lv : Lv} {st : List Value} {S : MM} {c z : Nat} (h : bX7_stepAll_48 Q (wpn (kX7_stepAll Q) n) lv st S c z) : wpn (kX7_stepAll Q) (n + 1) 48 lv st S c z := h
theorem u_X7_stepAll_54 {Q : Option Value → MM → Prop} {n : Nat} {lv : Lv} {st : List Value} {S : MM} {c z : Nat} (h : bX7_stepAll_54 Q (wpn (kX7_stepAll Q) n) lv st S c z) : wpn (kX7_stepAll Q) (n + 1) 54 lv st S c z := h
theorem u_X7_stepAll_60 {Q : Option Value → MM → Prop} {n : Nat} {lv : Lv} {st : List Value} {S : MM} {c z : Nat} (h : bX7_stepAll_60 Q (wpn (kX7_stepAll Q) n) lv st S c z) : wpn (kX7_stepAll Q) (n + 1) 60 lv st S c z := h
def P_X7_stepAll_0 (Q : Option Value → MM → Prop) (S0 : MM) (n : Nat) : Prop := ∀ (lv : Lv) (S : MM) (x0 : Nat), lvg lv 0 = some (.ref x0) → sK S0 x0 = 8 → SH [2, 6, 7] S0 S → IR S → 1767 ≤ n → wpn (kX7_stepAll Q) n 0 lv [] S 0 0
def P_X7_stepAll_2 (Q : Option Value → MM → Prop) (S0 : MM) (n : Nat) : Prop := ∀ (lv : Lv) (S : MM) (x0 : Nat) (i1 : Nat), lvg lv 0 = some (.ref x0) → sK S0 x0 = 8 → lvg lv 1 = some (.int (nI i1)) → i1 < 3 → SH [2, 6, 7] S0 S → IR S → 558 + 589 * (2 - i1) ≤ n → wpn (kX7_stepAll Q) n 2 lv [] S 0 0
def P_X7_stepAll_9 (Q : Option Value → MM → Prop) (S0 : MM) (n : Nat) : Prop := ∀ (lv : Lv) (S : MM) (x0 : Nat) (i1 : Nat) (i2 : Nat), lvg lv 0 = some (.ref x0) → sK S0 x0 = 8 → lvg lv 1 = some (.int (nI i1)) → i1 < 2 → lvg lv 2 = some (.int (nI i2)) → i2 < 9 → SH [2, 6, 7] S0 S → IR S → 31 + 62 * (8 - i2) + 589 * (2 - i1) ≤ n → wpn (kX7_stepAll Q) n 9 lv [] S 0 0
theorem B_X7_stepAll_0 {Q : Option Value → MM → Prop} {S0 : MM} {n : Nat} (hT : TY S0) (K : ∀ S', SH [2, 6, 7] S0 S' → IR S' → Q none S') (t_2 : ∀ k, k ≤ n → P_X7_stepAll_2 Q S0 k) : P_X7_stepAll_0 Q S0 (n + 1) := by
  intro lv S x0 g0 k0 sh ir hF
  refine u_X7_stepAll_0 ?_
  unfold bX7_stepAll_0
  refine e_cN 0 rfl ?_
  refine e_stI ?_
  exact t_2 n (by omega) _ _ x0 0 (lvg_ne g0 rfl (by decide)) k0 lvg_self (by omega) sh ir (by omega)
theorem B_X7_stepAll_2 {Q : Option Value → MM → Prop} {S0 : MM} {n : Nat} (hT : TY S0) (K : ∀ S', SH [2, 6, 7] S0 S' → IR S' → Q none S') (t_9 : ∀ k, k ≤ n → P_X7_stepAll_9 Q S0 k) : P_X7_stepAll_2 Q S0 (n + 1) := by
  intro lv S x0 i1 g0 k0 g1 h1 sh ir hF
  refine u_X7_stepAll_2 ?_
  unfold bX7_stepAll_2
  refine e_ldI g1 ?_
  refine e_cN 2 rfl ?_
  refine e_ge (by omega) (by omega) (fun h1 => ?_) (fun h1 => ?_)
  · obtain ⟨q2, rfl⟩ : ∃ q, n = q + 1 := ⟨n - 1, by omega⟩
    refine u_X7_stepAll_60 ?_
    unfold bX7_stepAll_60
    exact e_rV (K _ sh ir)
  · refine e_cN 0 rfl ?_
    refine e_stI ?_
    exact t_9 n (by omega) _ _ x0 i1 0 (lvg_ne g0 rfl (by decide)) k0 (lvg_ne g1 rfl (by decide)) (by omega) lvg_self (by omega) sh ir (by omega)
theorem B_X7_stepAll_9 {Q : Option Value → MM → Prop} {S0 : MM} {n : Nat} (hT : TY S0) (K : ∀ S', SH [2, 6, 7] S0 S' → IR S' → Q none S') (t_2 : ∀ k, k ≤ n → P_X7_stepAll_2 Q S0 k) (t_9 : ∀ k, k ≤ n → P_X7_stepAll_9 Q S0 k) : P_X7_stepAll_9 Q S0 (n + 1) := by
  intro lv S x0 i1 i2 g0 k0 g1 h1 g2 h2 sh ir hF
  refine u_X7_stepAll_9 ?_
  unfold bX7_stepAll_9
  refine e_ldI g2 ?_
  refine e_cN 8 rfl ?_
  refine e_ge (by omega) (by omega) (fun h1 => ?_) (fun h1 => ?_)
  · obtain ⟨q2, rfl⟩ : ∃ q, n = q + 1 := ⟨n - 1, by omega⟩
    refine u_X7_stepAll_54 ?_
    unfold bX7_stepAll_54
    refine e_inc g1 ?_
    exact t_2 q2 (by omega) _ _ x0 (i1 + 1) (lvg_ne g0 rfl (by decide)) k0 lvg_self (by omega) sh ir (by omega)
  · refine e_ldA g0 ?_
    obtain ⟨b3, rb4, kb5, nb6⟩ := hT.1 x0 8 0 13 2 k0 rfl
    refine e_gR (SH_k sh k0) (SH_r sh rb4) ?_
    refine e_ldI g1 ?_
    obtain ⟨b7, rb8, kb9, nb10⟩ := hT.2.1 b3 13 2 2 i1 kb5 nb6 rfl (by omega)
    refine e_aR (SH_k sh kb5) (SH_n sh nb6) (by omega) (by decide) (SH_r sh rb8) ?_
    obtain ⟨b11, rb12, kb13, nb14⟩ := hT.1 b7 2 0 17 8 kb9 rfl
    refine e_gR (SH_k sh kb9) (SH_r sh rb12) ?_
    refine e_ldI g2 ?_
    obtain ⟨b15, rb16, kb17, nb18⟩ := hT.2.1 b11 17 8 6 i2 kb13 nb14 rfl (by omega)
    refine e_aR (SH_k sh kb13) (SH_n sh nb14) (by omega) (by decide) (SH_r sh rb16) ?_
    refine e_stA ?_
    refine e_ldA lvg_self ?_
    refine And.intro (SH_k sh kb17) (And.intro ⟨by decide, by decide⟩ (z_X5_isLit (TY_SH hT sh) ir (SH_k sh kb17) (fun n23 S19 s20 ir21 hn24 => ?_)))
    have sh22 := SH.tr sh s20 (by decide)
    refine e_ifN (by omega) (fun h25 => ?_) (fun h25 => ?_)
    · obtain ⟨q26, rfl⟩ : ∃ q, n = q + 1 := ⟨n - 1, by omega⟩
      refine u_X7_stepAll_48 ?_
      unfold bX7_stepAll_48
      refine e_inc (lvg_ne g2 rfl (by decide)) ?_
      exact t_9 q26 (by omega) _ _ x0 i1 (i2 + 1) (lvg_ne (lvg_ne g0 rfl (by decide)) rfl (by decide)) k0 (lvg_ne (lvg_ne g1 rfl (by decide)) rfl (by decide)) (by omega) lvg_self (by omega) sh22 ir21 (by omega)
    · refine e_ldA (lvg_ne g0 rfl (by decide)) ?_
      refine e_gR (SH_k sh22 k0) (SH_r sh22 rb4) ?_
      refine e_ldI (lvg_ne g1 rfl (by decide)) ?_
      refine e_aR (SH_k sh22 kb5) (SH_n sh22 nb6) (by omega) (by decide) (SH_r sh22 rb8) ?_
      refine e_ldA lvg_self ?_
      refine e_ldA lvg_self ?_
      refine And.intro (SH_k sh22 kb17) (And.intro ⟨by decide, by decide⟩ (z_X5_step (TY_SH hT sh22) ir21 (SH_k sh22 kb17) (fun r31 S27 s28 ir29 => ?_)))
      have sh30 := SH.tr sh22 s28 (by decide)
      refine And.intro (SH_k sh30 kb9) (And.intro ⟨by decide, by decide⟩ (z_X1_moveTo (TY_SH hT sh30) ir29 (SH_k sh30 kb9) (SH_k sh30 kb17) (fun S32 s33 ir34 => ?_)))
      have sh35 := SH.tr sh30 s33 (by decide)
      obtain ⟨q36, rfl⟩ : ∃ q, n = q + 1 := ⟨n - 1, by omega⟩
      refine u_X7_stepAll_48 ?_
      unfold bX7_stepAll_48
      refine e_inc (lvg_ne g2 rfl (by decide)) ?_
      exact t_9 q36 (by omega) _ _ x0 i1 (i2 + 1) (lvg_ne (lvg_ne g0 rfl (by decide)) rfl (by decide)) k0 (lvg_ne (lvg_ne g1 rfl (by decide)) rfl (by decide)) (by omega) lvg_self (by omega) sh35 ir34 (by omega)
theorem A_X7_stepAll {Q : Option Value → MM → Prop} {S0 : MM} (hT : TY S0) (K : ∀ S', SH [2, 6, 7] S0 S' → IR S' → Q none S') : ∀ n k, k ≤ n → P_X7_stepAll_0 Q S0 k ∧ P_X7_stepAll_2 Q S0 k ∧ P_X7_stepAll_9 Q S0 k := by
  intro n
  induction n with
  | zero =>
    intro k hk
    have e : k = 0 := by omega
    subst e
    exact ⟨(fun lv S x0 _ _ _ _ hF => absurd hF (by omega)), (fun lv S x0 i1 _ _ _ _ _ _ hF => absurd hF (by omega)), (fun lv S x0 i1 i2 _ _ _ _ _ _ _ _ hF => absurd hF (by omega))⟩
  | succ n ih =>
    intro k hk
    by_cases hn : k ≤ n
    · exact ih k hn
    · have e : k = n + 1 := by omega
      subst e
      have T_0 : ∀ k, k ≤ n → P_X7_stepAll_0 Q S0 k := fun k hk => (ih k hk).1
      have T_2 : ∀ k, k ≤ n → P_X7_stepAll_2 Q S0 k := fun k hk => (ih k hk).2.1
      have T_9 : ∀ k, k ≤ n → P_X7_stepAll_9 Q S0 k := fun k hk => (ih k hk).2.2
      exact ⟨B_X7_stepAll_0 hT K T_2, B_X7_stepAll_2 hT K T_9, B_X7_stepAll_9 hT K T_2 T_9⟩
theorem z_X7_stepAll {Q : Option Value → MM → Prop} {S0 : MM} {x0 : Nat} (hT : TY S0) (ir : IR S0) (k0 : sK S0 x0 = 8) (K : ∀ S', SH [2, 6, 7] S0 S' → IR S' → Q none S') : wX7_stepAll [.ref x0] S0 Q := by
  exact Exists.intro 1767 ((A_X7_stepAll hT K 1767 1767 (Nat.le_refl _)).1 _ S0 x0 rfl k0 SH.rf ir (by omega))
theorem u_X7_tellFrom_0 {Q : Option Value → MM → Prop} {n : Nat} {lv : Lv} {st : List Value} {S : MM} {c z : Nat} (h : bX7_tellFrom_0 Q (wpn (kX7_tellFrom Q) n) lv st S c z) : wpn (kX7_tellFrom Q) (n + 1) 0 lv st S c z := h
theorem u_X7_tellFrom_12 {Q : Option Value → MM → Prop} {n : Nat} {lv : Lv} {st : List Value} {S : MM} {c z : Nat} (h : bX7_tellFrom_12 Q (wpn (kX7_tellFrom Q) n) lv st S c z) : wpn (kX7_tellFrom Q) (n + 1) 12 lv st S c z := h
theorem u_X7_tellFrom_59 {Q : Option Value → MM → Prop} {n : Nat} {lv : Lv} {st : List Value} {S : MM} {c z : Nat} (h : bX7_tellFrom_59 Q (wpn (kX7_tellFrom Q) n) lv st S c z) : wpn (kX7_tellFrom Q) (n + 1) 59 lv st S c z := h
theorem z_X7_tellFrom {Q : Option Value → MM → Prop} {S0 : MM} {x0 : Nat} {i1 : Nat} {x2 : Nat} (hT : TY S0) (ir : IR S0) (k0 : sK S0 x0 = 8) (h1 : i1 < 2) (k2 : sK S0 x2 = 6) (K : ∀ j S', SH [4, 5, 6, 7] S0 S' → IR S' → j < 2 → Q (some (.int (nI j))) S') : wX7_tellFrom [.ref x0, .int (nI i1), .ref x2] S0 Q := by
  have sh : SH [4, 5, 6, 7] S0 S0 := SH.rf
  refine Exists.intro 40 (u_X7_tellFrom_0 ?_)
  unfold bX7_tellFrom_0
  refine e_ldA rfl ?_
  refine e_gI (SH_k sh k2) (fun v1 hv2 => ?_)
  refine And.intro ⟨by decide, by decide⟩ (z_isCable ?_ (fun j3 hj4 e5 => ?_))
  · refine e_ifN (by omega) (fun h6 => ?_) (fun h6 => ?_)
    · refine e_cN 1 rfl ?_
      exact e_rZ (by omega) (K 1 _ sh ir (by omega))
    · exact absurd rfl h6
  · subst e5
    refine e_ifN (by omega) (fun h7 => ?_) (fun h7 => ?_)
    · exact absurd h7 (by decide)
    · refine u_X7_tellFrom_12 ?_
      unfold bX7_tellFrom_12
      refine e_ldA rfl ?_
      obtain ⟨b8, rb9, kb10, nb11⟩ := hT.1 x0 8 1 12 8 k0 rfl
      refine e_gR (SH_k sh k0) (SH_r sh rb9) ?_
      refine e_ldA rfl ?_
      refine e_gV (v := nI j3) (SH_k sh k2) hv2 ?_
      obtain ⟨b12, rb13, kb14, nb15⟩ := hT.2.1 b8 12 8 1 j3 kb10 nb11 rfl (by omega)
      refine e_aR (SH_k sh kb10) (SH_n sh nb11) (by omega) (by decide) (SH_r sh rb13) ?_
      refine e_stA ?_
      refine e_ldA lvg_self ?_
      obtain ⟨b16, rb17, kb18, nb19⟩ := hT.1 b12 1 1 15 2 kb14 rfl
      refine e_gR (SH_k sh kb14) (SH_r sh rb17) ?_
      refine e_ldI (lvg_ne rfl rfl (by decide)) ?_
      obtain ⟨b20, rb21, kb22, nb23⟩ := hT.2.1 b16 15 2 4 i1 kb18 nb19 rfl (by omega)
      refine e_aR (SH_k sh kb18) (SH_n sh nb19) (by omega) (by decide) (SH_r sh rb21) ?_
      refine e_stA ?_
      refine e_ldA (lvg_ne (lvg_ne rfl rfl (by decide)) rfl (by decide)) ?_
      refine e_ldA (lvg_ne (lvg_ne rfl rfl (by decide)) rfl (by decide)) ?_
      refine e_gI (SH_k sh k0) (fun v24 hv25 => ?_)
      refine And.intro (SH_k sh k2) (And.intro ⟨by decide, by decide⟩ (z_X5_rememberTelling (TY_SH hT sh) ir (SH_k sh k2) (fun S26 s27 ir28 => ?_)))
      have sh29 := SH.tr sh s27 (by decide)
      refine e_ldA lvg_self ?_
      refine e_gI (SH_k sh29 kb22) (fun v30 hv31 => ?_)
      refine e_ifz ?_ ?_
      · refine u_X7_tellFrom_59 ?_
        unfold bX7_tellFrom_59
        refine e_ldA lvg_self ?_
        refine e_ldA (lvg_ne (lvg_ne rfl rfl (by decide)) rfl (by decide)) ?_
        refine e_ldA (lvg_ne (lvg_ne rfl rfl (by decide)) rfl (by decide)) ?_
        refine e_gV (v := v24) (SH_k sh29 k0) (SH_i s27 (SH_k sh k0) (by decide) (by decide) hv25) ?_
        refine e_ldA (lvg_ne lvg_self rfl (by decide)) ?_
        refine e_gI (SH_k sh29 kb14) (fun v32 hv33 => ?_)
        refine e_bopU (fun r34 => ?_)
        refine And.intro (SH_k sh29 kb22) (And.intro ⟨by decide, by decide⟩ (z_X3_addNote (TY_SH hT sh29) ir28 (SH_k sh29 kb22) (SH_k sh29 k2) (fun S35 s36 ir37 => ?_)))
        have sh38 := SH.tr sh29 s36 (by decide)
        refine e_cN 1 rfl ?_
        exact e_rZ (by omega) (K 1 _ sh38 ir37 (by omega))
      · refine e_ldA lvg_self ?_
        refine e_duA ?_
        refine e_gV (v := v30) (SH_k sh29 kb22) hv31 ?_
        refine e_cN 1 rfl ?_
        refine e_bopU (fun r39 => ?_)
        refine y_tI (SH_k sh29 kb22) sh29 ir28 (by decide) (by decide) (fun N e => nomatch (show (none : Option Nat) = some N from e)) (fun S40 he41 sh42 ir43 => ?_)
        refine e_cN 0 rfl ?_
        exact e_rZ (by omega) (K 0 _ sh42 ir43 (by omega))
theorem u_X7_tellAll_0 {Q : Option Value → MM → Prop} {n : Nat} {lv : Lv} {st : List Value} {S : MM} {c z : Nat} (h : bX7_tellAll_0 Q (wpn (kX7_tellAll Q) n) lv st S c z) : wpn (kX7_tellAll Q) (n + 1) 0 lv st S c z := h
theorem u_X7_tellAll_4 {Q : Option Value → MM → Prop} {n : Nat} {lv : Lv} {st : List Value} {S : MM} {c z : Nat} (h : bX7_tellAll_4 Q (wpn (kX7_tellAll Q) n) lv st S c z) : wpn (kX7_tellAll Q) (n + 1) 4 lv st S c z := h
theorem u_X7_tellAll_11 {Q : Option Value → MM → Prop} {n : Nat} {lv : Lv} {st : List Value} {S : MM} {c z : Nat} (h : bX7_tellAll_11 Q (wpn (kX7_tellAll Q) n) lv st S c z) : wpn (kX7_tellAll Q) (n + 1) 11 lv st S c z := h
theorem u_X7_tellAll_54 {Q : Option Value → MM → Prop} {n : Nat} {lv : Lv} {st : List Value} {S : MM} {c z : Nat} (h : bX7_tellAll_54 Q (wpn (kX7_tellAll Q) n) lv st S c z) : wpn (kX7_tellAll Q) (n + 1) 54 lv st S c z := h
theorem u_X7_tellAll_60 {Q : Option Value → MM → Prop} {n : Nat} {lv : Lv} {st : List Value} {S : MM} {c z : Nat} (h : bX7_tellAll_60 Q (wpn (kX7_tellAll Q) n) lv st S c z) : wpn (kX7_tellAll Q) (n + 1) 60 lv st S c z := h
theorem u_X7_tellAll_66 {Q : Option Value → MM → Prop} {n : Nat} {lv : Lv} {st : List Value} {S : MM} {c z : Nat} (h : bX7_tellAll_66 Q (wpn (kX7_tellAll Q) n) lv st S c z) : wpn (kX7_tellAll Q) (n + 1) 66 lv st S c z := h
def P_X7_tellAll_0 (Q : Option Value → MM → Prop) (S0 : MM) (n : Nat) : Prop := ∀ (lv : Lv) (S : MM) (x0 : Nat), lvg lv 0 = some (.ref x0) → sK S0 x0 = 8 → SH [4, 5, 6, 7] S0 S → IR S → 1767 ≤ n → wpn (kX7_tellAll Q) n 0 lv [] S 0 0
def P_X7_tellAll_4 (Q : Option Value → MM → Prop) (S0 : MM) (n : Nat) : Prop := ∀ (lv : Lv) (S : MM) (x0 : Nat) (i1 : Nat) (i2 : Nat), lvg lv 0 = some (.ref x0) → sK S0 x0 = 8 → lvg lv 1 = some (.int (nI i1)) → i1 < 2 → lvg lv 2 = some (.int (nI i2)) → i2 < 3 → SH [4, 5, 6, 7] S0 S → IR S → 558 + 589 * (2 - i2) ≤ n → wpn (kX7_tellAll Q) n 4 lv [] S 0 0
def P_X7_tellAll_11 (Q : Option Value → MM → Prop) (S0 : MM) (n : Nat) : Prop := ∀ (lv : Lv) (S : MM) (x0 : Nat) (i1 : Nat) (i2 : Nat) (i3 : Nat), lvg lv 0 = some (.ref x0) → sK S0 x0 = 8 → lvg lv 1 = some (.int (nI i1)) → i1 < 2 → lvg lv 2 = some (.int (nI i2)) → i2 < 2 → lvg lv 3 = some (.int (nI i3)) → i3 < 9 → SH [4, 5, 6, 7] S0 S → IR S → 31 + 62 * (8 - i3) + 589 * (2 - i2) ≤ n → wpn (kX7_tellAll Q) n 11 lv [] S 0 0
theorem B_X7_tellAll_0 {Q : Option Value → MM → Prop} {S0 : MM} {n : Nat} (hT : TY S0) (K : ∀ j S', SH [4, 5, 6, 7] S0 S' → IR S' → j < 2 → Q (some (.int (nI j))) S') (t_4 : ∀ k, k ≤ n → P_X7_tellAll_4 Q S0 k) : P_X7_tellAll_0 Q S0 (n + 1) := by
  intro lv S x0 g0 k0 sh ir hF
  refine u_X7_tellAll_0 ?_
  unfold bX7_tellAll_0
  refine e_cN 0 rfl ?_
  refine e_stI ?_
  refine e_cN 0 rfl ?_
  refine e_stI ?_
  exact t_4 n (by omega) _ _ x0 0 0 (lvg_ne (lvg_ne g0 rfl (by decide)) rfl (by decide)) k0 (lvg_ne lvg_self rfl (by decide)) (by omega) lvg_self (by omega) sh ir (by omega)
theorem B_X7_tellAll_4 {Q : Option Value → MM → Prop} {S0 : MM} {n : Nat} (hT : TY S0) (K : ∀ j S', SH [4, 5, 6, 7] S0 S' → IR S' → j < 2 → Q (some (.int (nI j))) S') (t_11 : ∀ k, k ≤ n → P_X7_tellAll_11 Q S0 k) : P_X7_tellAll_4 Q S0 (n + 1) := by
  intro lv S x0 i1 i2 g0 k0 g1 h1 g2 h2 sh ir hF
  refine u_X7_tellAll_4 ?_
  unfold bX7_tellAll_4
  refine e_ldI g2 ?_
  refine e_cN 2 rfl ?_
  refine e_ge (by omega) (by omega) (fun h1 => ?_) (fun h1 => ?_)
  · obtain ⟨q2, rfl⟩ : ∃ q, n = q + 1 := ⟨n - 1, by omega⟩
    refine u_X7_tellAll_66 ?_
    unfold bX7_tellAll_66
    refine e_ldI g1 ?_
    exact e_rZ (by omega) (K i1 _ sh ir (by omega))
  · refine e_cN 0 rfl ?_
    refine e_stI ?_
    exact t_11 n (by omega) _ _ x0 i1 i2 0 (lvg_ne g0 rfl (by decide)) k0 (lvg_ne g1 rfl (by decide)) (by omega) (lvg_ne g2 rfl (by decide)) (by omega) lvg_self (by omega) sh ir (by omega)
theorem B_X7_tellAll_11 {Q : Option Value → MM → Prop} {S0 : MM} {n : Nat} (hT : TY S0) (K : ∀ j S', SH [4, 5, 6, 7] S0 S' → IR S' → j < 2 → Q (some (.int (nI j))) S') (t_4 : ∀ k, k ≤ n → P_X7_tellAll_4 Q S0 k) (t_11 : ∀ k, k ≤ n → P_X7_tellAll_11 Q S0 k) : P_X7_tellAll_11 Q S0 (n + 1) := by
  intro lv S x0 i1 i2 i3 g0 k0 g1 h1 g2 h2 g3 h3 sh ir hF
  refine u_X7_tellAll_11 ?_
  unfold bX7_tellAll_11
  refine e_ldI g3 ?_
  refine e_cN 8 rfl ?_
  refine e_ge (by omega) (by omega) (fun h1 => ?_) (fun h1 => ?_)
  · obtain ⟨q2, rfl⟩ : ∃ q, n = q + 1 := ⟨n - 1, by omega⟩
    refine u_X7_tellAll_60 ?_
    unfold bX7_tellAll_60
    refine e_inc g2 ?_
    exact t_4 q2 (by omega) _ _ x0 i1 (i2 + 1) (lvg_ne g0 rfl (by decide)) k0 (lvg_ne g1 rfl (by decide)) (by omega) lvg_self (by omega) sh ir (by omega)
  · refine e_ldA g0 ?_
    obtain ⟨b3, rb4, kb5, nb6⟩ := hT.1 x0 8 0 13 2 k0 rfl
    refine e_gR (SH_k sh k0) (SH_r sh rb4) ?_
    refine e_ldI g2 ?_
    obtain ⟨b7, rb8, kb9, nb10⟩ := hT.2.1 b3 13 2 2 i2 kb5 nb6 rfl (by omega)
    refine e_aR (SH_k sh kb5) (SH_n sh nb6) (by omega) (by decide) (SH_r sh rb8) ?_
    obtain ⟨b11, rb12, kb13, nb14⟩ := hT.1 b7 2 0 17 8 kb9 rfl
    refine e_gR (SH_k sh kb9) (SH_r sh rb12) ?_
    refine e_ldI g3 ?_
    obtain ⟨b15, rb16, kb17, nb18⟩ := hT.2.1 b11 17 8 6 i3 kb13 nb14 rfl (by omega)
    refine e_aR (SH_k sh kb13) (SH_n sh nb14) (by omega) (by decide) (SH_r sh rb16) ?_
    refine e_stA ?_
    refine e_ldA lvg_self ?_
    refine e_ldA (lvg_ne g0 rfl (by decide)) ?_
    refine e_gI (SH_k sh k0) (fun v19 hv20 => ?_)
    refine And.intro (SH_k sh kb17) (And.intro ⟨by decide, by decide⟩ (z_X5_mustTell (TY_SH hT sh) ir (SH_k sh kb17) (fun n25 S21 s22 ir23 hn26 => ?_)))
    have sh24 := SH.tr sh s22 (by decide)
    refine e_ifN (by omega) (fun h27 => ?_) (fun h27 => ?_)
    · obtain ⟨q28, rfl⟩ : ∃ q, n = q + 1 := ⟨n - 1, by omega⟩
      refine u_X7_tellAll_54 ?_
      unfold bX7_tellAll_54
      refine e_inc (lvg_ne g3 rfl (by decide)) ?_
      exact t_11 q28 (by omega) _ _ x0 i1 i2 (i3 + 1) (lvg_ne (lvg_ne g0 rfl (by decide)) rfl (by decide)) k0 (lvg_ne (lvg_ne g1 rfl (by decide)) rfl (by decide)) (by omega) (lvg_ne (lvg_ne g2 rfl (by decide)) rfl (by decide)) (by omega) lvg_self (by omega) sh24 ir23 (by omega)
    · refine e_ldA (lvg_ne g0 rfl (by decide)) ?_
      refine e_ldI (lvg_ne g2 rfl (by decide)) ?_
      refine e_ldA lvg_self ?_
      refine And.intro (SH_k sh24 k0) (And.intro ⟨by decide, by decide⟩ (z_X7_tellFrom (TY_SH hT sh24) ir23 (SH_k sh24 k0) (show i2 < 2 by omega) (SH_k sh24 kb17) (fun n33 S29 s30 ir31 hn34 => ?_)))
      have sh32 := SH.tr sh24 s30 (by decide)
      refine e_ifN (by omega) (fun h35 => ?_) (fun h35 => ?_)
      · refine e_cN 1 rfl ?_
        refine e_stI ?_
        obtain ⟨q36, rfl⟩ : ∃ q, n = q + 1 := ⟨n - 1, by omega⟩
        refine u_X7_tellAll_54 ?_
        unfold bX7_tellAll_54
        refine e_inc (lvg_ne (lvg_ne g3 rfl (by decide)) rfl (by decide)) ?_
        exact t_11 q36 (by omega) _ _ x0 1 i2 (i3 + 1) (lvg_ne (lvg_ne (lvg_ne g0 rfl (by decide)) rfl (by decide)) rfl (by decide)) k0 (lvg_ne lvg_self rfl (by decide)) (by omega) (lvg_ne (lvg_ne (lvg_ne g2 rfl (by decide)) rfl (by decide)) rfl (by decide)) (by omega) lvg_self (by omega) sh32 ir31 (by omega)
      · obtain ⟨q37, rfl⟩ : ∃ q, n = q + 1 := ⟨n - 1, by omega⟩
        refine u_X7_tellAll_54 ?_
        unfold bX7_tellAll_54
        refine e_inc (lvg_ne g3 rfl (by decide)) ?_
        exact t_11 q37 (by omega) _ _ x0 i1 i2 (i3 + 1) (lvg_ne (lvg_ne g0 rfl (by decide)) rfl (by decide)) k0 (lvg_ne (lvg_ne g1 rfl (by decide)) rfl (by decide)) (by omega) (lvg_ne (lvg_ne g2 rfl (by decide)) rfl (by decide)) (by omega) lvg_self (by omega) sh32 ir31 (by omega)
theorem A_X7_tellAll {Q : Option Value → MM → Prop} {S0 : MM} (hT : TY S0) (K : ∀ j S', SH [4, 5, 6, 7] S0 S' → IR S' → j < 2 → Q (some (.int (nI j))) S') : ∀ n k, k ≤ n → P_X7_tellAll_0 Q S0 k ∧ P_X7_tellAll_4 Q S0 k ∧ P_X7_tellAll_11 Q S0 k := by
  intro n
  induction n with
  | zero =>
    intro k hk
    have e : k = 0 := by omega
    subst e
    exact ⟨(fun lv S x0 _ _ _ _ hF => absurd hF (by omega)), (fun lv S x0 i1 i2 _ _ _ _ _ _ _ _ hF => absurd hF (by omega)), (fun lv S x0 i1 i2 i3 _ _ _ _ _ _ _ _ _ _ hF => absurd hF (by omega))⟩
  | succ n ih =>
    intro k hk
    by_cases hn : k ≤ n
    · exact ih k hn
    · have e : k = n + 1 := by omega
      subst e
      have T_0 : ∀ k, k ≤ n → P_X7_tellAll_0 Q S0 k := fun k hk => (ih k hk).1
      have T_4 : ∀ k, k ≤ n → P_X7_tellAll_4 Q S0 k := fun k hk => (ih k hk).2.1
      have T_11 : ∀ k, k ≤ n → P_X7_tellAll_11 Q S0 k := fun k hk => (ih k hk).2.2
      exact ⟨B_X7_tellAll_0 hT K T_4, B_X7_tellAll_4 hT K T_11, B_X7_tellAll_11 hT K T_4 T_11⟩
theorem z_X7_tellAll {Q : Option Value → MM → Prop} {S0 : MM} {x0 : Nat} (hT : TY S0) (ir : IR S0) (k0 : sK S0 x0 = 8) (K : ∀ j S', SH [4, 5, 6, 7] S0 S' → IR S' → j < 2 → Q (some (.int (nI j))) S') : wX7_tellAll [.ref x0] S0 Q := by
  exact Exists.intro 1767 ((A_X7_tellAll hT K 1767 1767 (Nat.le_refl _)).1 _ S0 x0 rfl k0 SH.rf ir (by omega))
theorem u_X7_isSettled_0 {Q : Option Value → MM → Prop} {n : Nat} {lv : Lv} {st : List Value} {S : MM} {c z : Nat} (h : bX7_isSettled_0 Q (wpn (kX7_isSettled Q) n) lv st S c z) : wpn (kX7_isSettled Q) (n + 1) 0 lv st S c z := h
theorem u_X7_isSettled_2 {Q : Option Value → MM → Prop} {n : Nat} {lv : Lv} {st : List Value} {S : MM} {c z : Nat} (h : bX7_isSettled_2 Q (wpn (kX7_isSettled Q) n) lv st S c z) : wpn (kX7_isSettled Q) (n + 1) 2 lv st S c z := h
theorem u_X7_isSettled_22 {Q : Option Value → MM → Prop} {n : Nat} {lv : Lv} {st : List Value} {S : MM} {c z : Nat} (h : bX7_isSettled_22 Q (wpn (kX7_isSettled Q) n) lv st S c z) : wpn (kX7_isSettled Q) (n + 1) 22 lv st S c z := h
theorem u_X7_isSettled_28 {Q : Option Value → MM → Prop} {n : Nat} {lv : Lv} {st : List Value} {S : MM} {c z : Nat} (h : bX7_isSettled_28 Q (wpn (kX7_isSettled Q) n) lv st S c z) : wpn (kX7_isSettled Q) (n + 1) 28 lv st S c z := h
def P_X7_isSettled_0 (Q : Option Value → MM → Prop) (S0 : MM) (n : Nat) : Prop := ∀ (lv : Lv) (S : MM) (x0 : Nat), lvg lv 0 = some (.ref x0) → sK S0 x0 = 8 → SH [] S0 S → IR S → 558 ≤ n → wpn (kX7_isSettled Q) n 0 lv [] S 0 0
def P_X7_isSettled_2 (Q : Option Value → MM → Prop) (S0 : MM) (n : Nat) : Prop := ∀ (lv : Lv) (S : MM) (x0 : Nat) (i1 : Nat), lvg lv 0 = some (.ref x0) → sK S0 x0 = 8 → lvg lv 1 = some (.int (nI i1)) → i1 < 9 → SH [] S0 S → IR S → 31 + 62 * (8 - i1) ≤ n → wpn (kX7_isSettled Q) n 2 lv [] S 0 0
theorem B_X7_isSettled_0 {Q : Option Value → MM → Prop} {S0 : MM} {n : Nat} (hT : TY S0) (K : ∀ j S', SH [] S0 S' → IR S' → j < 2 → Q (some (.int (nI j))) S') (t_2 : ∀ k, k ≤ n → P_X7_isSettled_2 Q S0 k) : P_X7_isSettled_0 Q S0 (n + 1) := by
  intro lv S x0 g0 k0 sh ir hF
  refine u_X7_isSettled_0 ?_
  unfold bX7_isSettled_0
  refine e_cN 0 rfl ?_
  refine e_stI ?_
  exact t_2 n (by omega) _ _ x0 0 (lvg_ne g0 rfl (by decide)) k0 lvg_self (by omega) sh ir (by omega)
theorem B_X7_isSettled_2 {Q : Option Value → MM → Prop} {S0 : MM} {n : Nat} (hT : TY S0) (K : ∀ j S', SH [] S0 S' → IR S' → j < 2 → Q (some (.int (nI j))) S') (t_2 : ∀ k, k ≤ n → P_X7_isSettled_2 Q S0 k) : P_X7_isSettled_2 Q S0 (n + 1) := by
  intro lv S x0 i1 g0 k0 g1 h1 sh ir hF
  refine u_X7_isSettled_2 ?_
  unfold bX7_isSettled_2
  refine e_ldI g1 ?_
  refine e_cN 8 rfl ?_
  refine e_ge (by omega) (by omega) (fun h1 => ?_) (fun h1 => ?_)
  · obtain ⟨q2, rfl⟩ : ∃ q, n = q + 1 := ⟨n - 1, by omega⟩
    refine u_X7_isSettled_28 ?_
    unfold bX7_isSettled_28
    refine e_cN 1 rfl ?_
    exact e_rZ (by omega) (K 1 _ sh ir (by omega))
  · refine e_ldA g0 ?_
    obtain ⟨b3, rb4, kb5, nb6⟩ := hT.1 x0 8 1 12 8 k0 rfl
    refine e_gR (SH_k sh k0) (SH_r sh rb4) ?_
    refine e_ldI g1 ?_
    obtain ⟨b7, rb8, kb9, nb10⟩ := hT.2.1 b3 12 8 1 i1 kb5 nb6 rfl (by omega)
    refine e_aR (SH_k sh kb5) (SH_n sh nb6) (by omega) (by decide) (SH_r sh rb8) ?_
    refine And.intro (SH_k sh kb9) (And.intro ⟨by decide, by decide⟩ (z_X0_isSettled (TY_SH hT sh) ir (SH_k sh kb9) (fun n15 S11 s12 ir13 hn16 => ?_)))
    have sh14 := SH.tr sh s12 (by decide)
    refine e_ifN (by omega) (fun h17 => ?_) (fun h17 => ?_)
    · refine e_cN 0 rfl ?_
      exact e_rZ (by omega) (K 0 _ sh14 ir13 (by omega))
    · obtain ⟨q18, rfl⟩ : ∃ q, n = q + 1 := ⟨n - 1, by omega⟩
      refine u_X7_isSettled_22 ?_
      unfold bX7_isSettled_22
      refine e_inc g1 ?_
      exact t_2 q18 (by omega) _ _ x0 (i1 + 1) (lvg_ne g0 rfl (by decide)) k0 lvg_self (by omega) sh14 ir13 (by omega)
theorem A_X7_isSettled {Q : Option Value → MM → Prop} {S0 : MM} (hT : TY S0) (K : ∀ j S', SH [] S0 S' → IR S' → j < 2 → Q (some (.int (nI j))) S') : ∀ n k, k ≤ n → P_X7_isSettled_0 Q S0 k ∧ P_X7_isSettled_2 Q S0 k := by
  intro n
  induction n with
  | zero =>
    intro k hk
    have e : k = 0 := by omega
    subst e
    exact ⟨(fun lv S x0 _ _ _ _ hF => absurd hF (by omega)), (fun lv S x0 i1 _ _ _ _ _ _ hF => absurd hF (by omega))⟩
  | succ n ih =>
    intro k hk
    by_cases hn : k ≤ n
    · exact ih k hn
    · have e : k = n + 1 := by omega
      subst e
      have T_0 : ∀ k, k ≤ n → P_X7_isSettled_0 Q S0 k := fun k hk => (ih k hk).1
      have T_2 : ∀ k, k ≤ n → P_X7_isSettled_2 Q S0 k := fun k hk => (ih k hk).2
      exact ⟨B_X7_isSettled_0 hT K T_2, B_X7_isSettled_2 hT K T_2⟩
theorem z_X7_isSettled {Q : Option Value → MM → Prop} {S0 : MM} {x0 : Nat} (hT : TY S0) (ir : IR S0) (k0 : sK S0 x0 = 8) (K : ∀ j S', SH [] S0 S' → IR S' → j < 2 → Q (some (.int (nI j))) S') : wX7_isSettled [.ref x0] S0 Q := by
  exact Exists.intro 558 ((A_X7_isSettled hT K 558 558 (Nat.le_refl _)).1 _ S0 x0 rfl k0 SH.rf ir (by omega))
theorem u_X7_runTick_0 {Q : Option Value → MM → Prop} {n : Nat} {lv : Lv} {st : List Value} {S : MM} {c z : Nat} (h : bX7_runTick_0 Q (wpn (kX7_runTick Q) n) lv st S c z) : wpn (kX7_runTick Q) (n + 1) 0 lv st S c z := h
theorem u_X7_runTick_15 {Q : Option Value → MM → Prop} {n : Nat} {lv : Lv} {st : List Value} {S : MM} {c z : Nat} (h : bX7_runTick_15 Q (wpn (kX7_runTick Q) n) lv st S c z) : wpn (kX7_runTick Q) (n + 1) 15 lv st S c z := h
theorem u_X7_runTick_35 {Q : Option Value → MM → Prop} {n : Nat} {lv : Lv} {st : List Value} {S : MM} {c z : Nat} (h : bX7_runTick_35 Q (wpn (kX7_runTick Q) n) lv st S c z) : wpn (kX7_runTick Q) (n + 1) 35 lv st S c z := h
theorem u_X7_runTick_36 {Q : Option Value → MM → Prop} {n : Nat} {lv : Lv} {st : List Value} {S : MM} {c z : Nat} (h : bX7_runTick_36 Q (wpn (kX7_runTick Q) n) lv st S c z) : wpn (kX7_runTick Q) (n + 1) 36 lv st S c z := h
theorem u_X7_runTick_45 {Q : Option Value → MM → Prop} {n : Nat} {lv : Lv} {st : List Value} {S : MM} {c z : Nat} (h : bX7_runTick_45 Q (wpn (kX7_runTick Q) n) lv st S c z) : wpn (kX7_runTick Q) (n + 1) 45 lv st S c z := h
theorem u_X7_runTick_73 {Q : Option Value → MM → Prop} {n : Nat} {lv : Lv} {st : List Value} {S : MM} {c z : Nat} (h : bX7_runTick_73 Q (wpn (kX7_runTick Q) n) lv st S c z) : wpn (kX7_runTick Q) (n + 1) 73 lv st S c z := h
theorem u_X7_runTick_79 {Q : Option Value → MM → Prop} {n : Nat} {lv : Lv} {st : List Value} {S : MM} {c z : Nat} (h : bX7_runTick_79 Q (wpn (kX7_runTick Q) n) lv st S c z) : wpn (kX7_runTick Q) (n + 1) 79 lv st S c z := h
theorem u_X7_runTick_109 {Q : Option Value → MM → Prop} {n : Nat} {lv : Lv} {st : List Value} {S : MM} {c z : Nat} (h : bX7_runTick_109 Q (wpn (kX7_runTick Q) n) lv st S c z) : wpn (kX7_runTick Q) (n + 1) 109 lv st S c z := h
def P_X7_runTick_0 (Q : Option Value → MM → Prop) (S0 : MM) (n : Nat) : Prop := ∀ (lv : Lv) (S : MM) (x0 : Nat), lvg lv 0 = some (.ref x0) → sK S0 x0 = 8 → SH [2, 3, 4, 5, 6, 7, 8, 19] S0 S → IR S → 279 ≤ n → wpn (kX7_runTick Q) n 0 lv [] S 0 0
def P_X7_runTick_15 (Q : Option Value → MM → Prop) (S0 : MM) (n : Nat) : Prop := ∀ (lv : Lv) (S : MM) (x0 : Nat) (i1 : Nat) (i2 : Nat), lvg lv 0 = some (.ref x0) → sK S0 x0 = 8 → lvg lv 1 = some (.int (nI i1)) → i1 < 2 → lvg lv 2 = some (.int (nI i2)) → i2 < 3 → SH [2, 3, 4, 5, 6, 7, 8, 19] S0 S → IR S → 62 + 93 * (2 - i2) ≤ n → wpn (kX7_runTick Q) n 15 lv [] S 0 0
def P_X7_runTick_79 (Q : Option Value → MM → Prop) (S0 : MM) (n : Nat) : Prop := ∀ (lv : Lv) (S : MM) (x0 : Nat) (i1 : Nat) (i2 : Nat) (ws0 : Int32) (xs1 : Nat), lvg lv 0 = some (.ref x0) → sK S0 x0 = 8 → lvg lv 1 = some (.int (nI i1)) → i1 < 2 → lvg lv 2 = some (.int (nI i2)) → i2 < 2 → sK S0 xs1 = 8 → SH [2, 3, 4, 5, 6, 7, 8, 19] S0 S → IR S → 31 ≤ n → wpn (kX7_runTick Q) n 79 lv [.int ws0, .ref xs1] S 0 0
theorem B_X7_runTick_0 {Q : Option Value → MM → Prop} {S0 : MM} {n : Nat} (hT : TY S0) (K : ∀ S', SH [2, 3, 4, 5, 6, 7, 8, 19] S0 S' → IR S' → Q none S') (t_15 : ∀ k, k ≤ n → P_X7_runTick_15 Q S0 k) : P_X7_runTick_0 Q S0 (n + 1) := by
  intro lv S x0 g0 k0 sh ir hF
  refine u_X7_runTick_0 ?_
  unfold bX7_runTick_0
  refine e_ldA g0 ?_
  refine And.intro (SH_k sh k0) (And.intro ⟨by decide, by decide⟩ (z_X7_bringAll (TY_SH hT sh) ir (SH_k sh k0) (fun S1 s2 ir3 => ?_)))
  have sh4 := SH.tr sh s2 (by decide)
  refine e_ldA g0 ?_
  refine And.intro (SH_k sh4 k0) (And.intro ⟨by decide, by decide⟩ (z_X7_ageAll (TY_SH hT sh4) ir3 (SH_k sh4 k0) (fun S5 s6 ir7 => ?_)))
  have sh8 := SH.tr sh4 s6 (by decide)
  refine e_ldA g0 ?_
  refine And.intro (SH_k sh8 k0) (And.intro ⟨by decide, by decide⟩ (z_X7_strongerEnd (TY_SH hT sh8) ir7 (SH_k sh8 k0) (fun n13 S9 s10 ir11 hn14 => ?_)))
  have sh12 := SH.tr sh8 s10 (by decide)
  refine e_stI ?_
  refine e_cN 0 rfl ?_
  refine e_stI ?_
  exact t_15 n (by omega) _ _ x0 n13 0 (lvg_ne (lvg_ne g0 rfl (by decide)) rfl (by decide)) k0 (lvg_ne lvg_self rfl (by decide)) (by omega) lvg_self (by omega) sh12 ir11 (by omega)
theorem B_X7_runTick_15 {Q : Option Value → MM → Prop} {S0 : MM} {n : Nat} (hT : TY S0) (K : ∀ S', SH [2, 3, 4, 5, 6, 7, 8, 19] S0 S' → IR S' → Q none S') (t_15 : ∀ k, k ≤ n → P_X7_runTick_15 Q S0 k) (t_79 : ∀ k, k ≤ n → P_X7_runTick_79 Q S0 k) : P_X7_runTick_15 Q S0 (n + 1) := by
  intro lv S x0 i1 i2 g0 k0 g1 h1 g2 h2 sh ir hF
  refine u_X7_runTick_15 ?_
  unfold bX7_runTick_15
  refine e_ldI g2 ?_
  refine e_cN 2 rfl ?_
  refine e_ge (by omega) (by omega) (fun h1 => ?_) (fun h1 => ?_)
  · obtain ⟨q2, rfl⟩ : ∃ q, n = q + 1 := ⟨n - 1, by omega⟩
    refine u_X7_runTick_45 ?_
    unfold bX7_runTick_45
    refine e_ldA g0 ?_
    refine And.intro (SH_k sh k0) (And.intro ⟨by decide, by decide⟩ (z_X7_stepAll (TY_SH hT sh) ir (SH_k sh k0) (fun S3 s4 ir5 => ?_)))
    have sh6 := SH.tr sh s4 (by decide)
    refine e_ldA g0 ?_
    refine And.intro (SH_k sh6 k0) (And.intro ⟨by decide, by decide⟩ (z_X7_tellAll (TY_SH hT sh6) ir5 (SH_k sh6 k0) (fun n11 S7 s8 ir9 hn12 => ?_)))
    have sh10 := SH.tr sh6 s8 (by decide)
    refine e_stI ?_
    refine e_ldA (lvg_ne g0 rfl (by decide)) ?_
    refine e_duA ?_
    refine e_gI (SH_k sh10 k0) (fun v13 hv14 => ?_)
    refine e_cN 1 rfl ?_
    refine e_bopU (fun r15 => ?_)
    refine y_tI (SH_k sh10 k0) sh10 ir9 (by decide) (by decide) (fun N e => nomatch (show (none : Option Nat) = some N from e)) (fun S16 he17 sh18 ir19 => ?_)
    refine e_ldA (lvg_ne g0 rfl (by decide)) ?_
    refine e_ldI lvg_self ?_
    refine e_ifN (by omega) (fun h20 => ?_) (fun h20 => ?_)
    · obtain ⟨q21, rfl⟩ : ∃ q, q2 = q + 1 := ⟨q2 - 1, by omega⟩
      refine u_X7_runTick_73 ?_
      unfold bX7_runTick_73
      refine e_ldA (lvg_ne g0 rfl (by decide)) ?_
      refine e_gI (SH_k sh18 k0) (fun v22 hv23 => ?_)
      refine e_cN 1 rfl ?_
      refine e_bopU (fun r24 => ?_)
      exact t_79 q21 (by omega) _ _ x0 i1 n11 _ x0 (lvg_ne g0 rfl (by decide)) k0 (lvg_ne g1 rfl (by decide)) (by omega) lvg_self (by omega) k0 sh18 ir19 (by omega)
    · refine e_cN 0 rfl ?_
      exact t_79 q2 (by omega) _ _ x0 i1 n11 _ x0 (lvg_ne g0 rfl (by decide)) k0 (lvg_ne g1 rfl (by decide)) (by omega) lvg_self (by omega) k0 sh18 ir19 (by omega)
  · refine e_ldA g0 ?_
    obtain ⟨b25, rb26, kb27, nb28⟩ := hT.1 x0 8 0 13 2 k0 rfl
    refine e_gR (SH_k sh k0) (SH_r sh rb26) ?_
    refine e_ldI g2 ?_
    obtain ⟨b29, rb30, kb31, nb32⟩ := hT.2.1 b25 13 2 2 i2 kb27 nb28 rfl (by omega)
    refine e_aR (SH_k sh kb27) (SH_n sh nb28) (by omega) (by decide) (SH_r sh rb30) ?_
    refine e_ldI g2 ?_
    refine e_ldI g1 ?_
    refine e_eq (by omega) (by omega) (fun h33 => ?_) (fun h33 => ?_)
    · refine e_cN 1 rfl ?_
      obtain ⟨q34, rfl⟩ : ∃ q, n = q + 1 := ⟨n - 1, by omega⟩
      refine u_X7_runTick_36 ?_
      unfold bX7_runTick_36
      refine And.intro (SH_k sh kb31) (And.intro ⟨by decide, by decide⟩ (z_X1_formBundles (TY_SH hT sh) ir (SH_k sh kb31) (show 1 < 2 by omega) (fun S35 s36 ir37 => ?_)))
      have sh38 := SH.tr sh s36 (by decide)
      refine e_inc g2 ?_
      exact t_15 q34 (by omega) _ _ x0 i1 (i2 + 1) (lvg_ne g0 rfl (by decide)) k0 (lvg_ne g1 rfl (by decide)) (by omega) lvg_self (by omega) sh38 ir37 (by omega)
    · obtain ⟨q39, rfl⟩ : ∃ q, n = q + 1 := ⟨n - 1, by omega⟩
      refine u_X7_runTick_35 ?_
      unfold bX7_runTick_35
      refine e_cN 0 rfl ?_
      obtain ⟨q40, rfl⟩ : ∃ q, q39 = q + 1 := ⟨q39 - 1, by omega⟩
      refine u_X7_runTick_36 ?_
      unfold bX7_runTick_36
      refine And.intro (SH_k sh kb31) (And.intro ⟨by decide, by decide⟩ (z_X1_formBundles (TY_SH hT sh) ir (SH_k sh kb31) (show 0 < 2 by omega) (fun S41 s42 ir43 => ?_)))
      have sh44 := SH.tr sh s42 (by decide)
      refine e_inc g2 ?_
      exact t_15 q40 (by omega) _ _ x0 i1 (i2 + 1) (lvg_ne g0 rfl (by decide)) k0 (lvg_ne g1 rfl (by decide)) (by omega) lvg_self (by omega) sh44 ir43 (by omega)
theorem B_X7_runTick_79 {Q : Option Value → MM → Prop} {S0 : MM} {n : Nat} (hT : TY S0) (K : ∀ S', SH [2, 3, 4, 5, 6, 7, 8, 19] S0 S' → IR S' → Q none S')  : P_X7_runTick_79 Q S0 (n + 1) := by
  intro lv S x0 i1 i2 ws0 xs1 g0 k0 g1 h1 g2 h2 ks1 sh ir hF
  refine u_X7_runTick_79 ?_
  unfold bX7_runTick_79
  refine y_tI (SH_k sh ks1) sh ir (by decide) (by decide) (fun N e => nomatch (show (none : Option Nat) = some N from e)) (fun S1 he2 sh3 ir4 => ?_)
  refine e_ldA g0 ?_
  refine e_gI (SH_k sh3 k0) (fun v5 hv6 => ?_)
  refine e_cN 300 rfl ?_
  refine e_ifc ?_ ?_
  · obtain ⟨q7, rfl⟩ : ∃ q, n = q + 1 := ⟨n - 1, by omega⟩
    refine u_X7_runTick_109 ?_
    unfold bX7_runTick_109
    exact e_rV (K _ sh3 ir4)
  · refine e_ldA g0 ?_
    refine And.intro (SH_k sh3 k0) (And.intro ⟨by decide, by decide⟩ (z_X7_isSettled (TY_SH hT sh3) ir4 (SH_k sh3 k0) (fun n12 S8 s9 ir10 hn13 => ?_)))
    have sh11 := SH.tr sh3 s9 (by decide)
    refine e_ifN (by omega) (fun h14 => ?_) (fun h14 => ?_)
    · refine e_ldA g0 ?_
      refine e_duA ?_
      refine e_gI (SH_k sh11 k0) (fun v15 hv16 => ?_)
      refine e_cN 1 rfl ?_
      refine e_bopU (fun r17 => ?_)
      refine y_tI (SH_k sh11 k0) sh11 ir10 (by decide) (by decide) (fun N e => nomatch (show (none : Option Nat) = some N from e)) (fun S18 he19 sh20 ir21 => ?_)
      obtain ⟨q22, rfl⟩ : ∃ q, n = q + 1 := ⟨n - 1, by omega⟩
      refine u_X7_runTick_109 ?_
      unfold bX7_runTick_109
      exact e_rV (K _ sh20 ir21)
    · obtain ⟨q23, rfl⟩ : ∃ q, n = q + 1 := ⟨n - 1, by omega⟩
      refine u_X7_runTick_109 ?_
      unfold bX7_runTick_109
      exact e_rV (K _ sh11 ir10)
theorem A_X7_runTick {Q : Option Value → MM → Prop} {S0 : MM} (hT : TY S0) (K : ∀ S', SH [2, 3, 4, 5, 6, 7, 8, 19] S0 S' → IR S' → Q none S') : ∀ n k, k ≤ n → P_X7_runTick_0 Q S0 k ∧ P_X7_runTick_15 Q S0 k ∧ P_X7_runTick_79 Q S0 k := by
  intro n
  induction n with
  | zero =>
    intro k hk
    have e : k = 0 := by omega
    subst e
    exact ⟨(fun lv S x0 _ _ _ _ hF => absurd hF (by omega)), (fun lv S x0 i1 i2 _ _ _ _ _ _ _ _ hF => absurd hF (by omega)), (fun lv S x0 i1 i2 ws0 xs1 _ _ _ _ _ _ _ _ _ hF => absurd hF (by omega))⟩
  | succ n ih =>
    intro k hk
    by_cases hn : k ≤ n
    · exact ih k hn
    · have e : k = n + 1 := by omega
      subst e
      have T_0 : ∀ k, k ≤ n → P_X7_runTick_0 Q S0 k := fun k hk => (ih k hk).1
      have T_15 : ∀ k, k ≤ n → P_X7_runTick_15 Q S0 k := fun k hk => (ih k hk).2.1
      have T_79 : ∀ k, k ≤ n → P_X7_runTick_79 Q S0 k := fun k hk => (ih k hk).2.2
      exact ⟨B_X7_runTick_0 hT K T_15, B_X7_runTick_15 hT K T_15 T_79, B_X7_runTick_79 hT K ⟩
theorem z_X7_runTick {Q : Option Value → MM → Prop} {S0 : MM} {x0 : Nat} (hT : TY S0) (ir : IR S0) (k0 : sK S0 x0 = 8) (K : ∀ S', SH [2, 3, 4, 5, 6, 7, 8, 19] S0 S' → IR S' → Q none S') : wX7_runTick [.ref x0] S0 Q := by
  exact Exists.intro 279 ((A_X7_runTick hT K 279 279 (Nat.le_refl _)).1 _ S0 x0 rfl k0 SH.rf ir (by omega))
theorem u_X7_note_0 {Q : Option Value → MM → Prop} {n : Nat} {lv : Lv} {st : List Value} {S : MM} {c z : Nat} (h : bX7_note_0 Q (wpn (kX7_note Q) n) lv st S c z) : wpn (kX7_note Q) (n + 1) 0 lv st S c z := h
theorem u_X7_note_24 {Q : Option Value → MM → Prop} {n : Nat} {lv : Lv} {st : List Value} {S : MM} {c z : Nat} (h : bX7_note_24 Q (wpn (kX7_note Q) n) lv st S c z) : wpn (kX7_note Q) (n + 1) 24 lv st S c z := h
theorem u_X7_note_26 {Q : Option Value → MM → Prop} {n : Nat} {lv : Lv} {st : List Value} {S : MM} {c z : Nat} (h : bX7_note_26 Q (wpn (kX7_note Q) n) lv st S c z) : wpn (kX7_note Q) (n + 1) 26 lv st S c z := h
theorem u_X7_note_57 {Q : Option Value → MM → Prop} {n : Nat} {lv : Lv} {st : List Value} {S : MM} {c z : Nat} (h : bX7_note_57 Q (wpn (kX7_note Q) n) lv st S c z) : wpn (kX7_note Q) (n + 1) 57 lv st S c z := h
theorem u_X7_note_69 {Q : Option Value → MM → Prop} {n : Nat} {lv : Lv} {st : List Value} {S : MM} {c z : Nat} (h : bX7_note_69 Q (wpn (kX7_note Q) n) lv st S c z) : wpn (kX7_note Q) (n + 1) 69 lv st S c z := h
theorem z_X7_note {Q : Option Value → MM → Prop} {S0 : MM} {x0 : Nat} {w1 : Int32} {w2 : Int32} {w3 : Int32} (hT : TY S0) (ir : IR S0) (k0 : sK S0 x0 = 8) (K : ∀ r S', SH [] S0 S' → IR S' → Q (some (.int r)) S') : wX7_note [.ref x0, .int w1, .int w2, .int w3] S0 Q := by
  have sh : SH [] S0 S0 := SH.rf
  refine Exists.intro 40 (u_X7_note_0 ?_)
  unfold bX7_note_0
  refine e_ldI rfl ?_
  refine And.intro ⟨by decide, by decide⟩ (z_isEnd ?_ (fun j1 hj2 e3 => ?_))
  · refine e_ifN (by omega) (fun h4 => ?_) (fun h4 => ?_)
    · refine u_X7_note_24 ?_
      unfold bX7_note_24
      refine e_cI ?_
      exact e_rI (K _ _ sh ir)
    · exact absurd rfl h4
  · subst e3
    refine e_ifN (by omega) (fun h5 => ?_) (fun h5 => ?_)
    · exact absurd h5 (by decide)
    · refine e_ldI rfl ?_
      refine And.intro ⟨by decide, by decide⟩ (z_isPort ?_ (fun j6 hj7 e8 => ?_))
      · refine e_ifN (by omega) (fun h9 => ?_) (fun h9 => ?_)
        · refine u_X7_note_24 ?_
          unfold bX7_note_24
          refine e_cI ?_
          exact e_rI (K _ _ sh ir)
        · exact absurd rfl h9
      · subst e8
        refine e_ifN (by omega) (fun h10 => ?_) (fun h10 => ?_)
        · exact absurd h10 (by decide)
        · refine e_ldI rfl ?_
          refine e_ifz ?_ ?_
          · refine u_X7_note_24 ?_
            unfold bX7_note_24
            refine e_cI ?_
            exact e_rI (K _ _ sh ir)
          · refine e_ldI rfl ?_
            refine e_cN 22 rfl ?_
            refine e_ifc ?_ ?_
            · refine u_X7_note_26 ?_
              unfold bX7_note_26
              refine e_ldA rfl ?_
              obtain ⟨b11, rb12, kb13, nb14⟩ := hT.1 x0 8 0 13 2 k0 rfl
              refine e_gR (SH_k sh k0) (SH_r sh rb12) ?_
              refine e_ldI rfl ?_
              obtain ⟨b15, rb16, kb17, nb18⟩ := hT.2.1 b11 13 2 2 j1 kb13 nb14 rfl (by omega)
              refine e_aR (SH_k sh kb13) (SH_n sh nb14) (by omega) (by decide) (SH_r sh rb16) ?_
              obtain ⟨b19, rb20, kb21, nb22⟩ := hT.1 b15 2 0 17 8 kb17 rfl
              refine e_gR (SH_k sh kb17) (SH_r sh rb20) ?_
              refine e_ldI rfl ?_
              obtain ⟨b23, rb24, kb25, nb26⟩ := hT.2.1 b19 17 8 6 j6 kb21 nb22 rfl (by omega)
              refine e_aR (SH_k sh kb21) (SH_n sh nb22) (by omega) (by decide) (SH_r sh rb24) ?_
              refine e_stA ?_
              refine e_ldI (lvg_ne rfl rfl (by decide)) ?_
              refine e_cN 11 rfl ?_
              refine e_ifc ?_ ?_
              · refine u_X7_note_57 ?_
                unfold bX7_note_57
                refine e_ldA lvg_self ?_
                obtain ⟨b27, rb28, kb29, nb30⟩ := hT.1 b23 6 1 7 0 kb25 rfl
                refine e_gR (SH_k sh kb25) (SH_r sh rb28) ?_
                refine e_ldI (lvg_ne rfl rfl (by decide)) ?_
                refine e_cN 11 rfl ?_
                refine e_bopU (fun r31 => ?_)
                refine And.intro (SH_k sh kb29) (And.intro ⟨by decide, by decide⟩ (z_X6_byteAt (TY_SH hT sh) ir (SH_k sh kb29) (fun r36 S32 s33 ir34 => ?_)))
                have sh35 := SH.tr sh s33 (by decide)
                refine u_X7_note_69 ?_
                unfold bX7_note_69
                exact e_rI (K _ _ sh35 ir34)
              · refine e_ldA lvg_self ?_
                obtain ⟨b37, rb38, kb39, nb40⟩ := hT.1 b23 6 0 7 0 kb25 rfl
                refine e_gR (SH_k sh kb25) (SH_r sh rb38) ?_
                refine e_ldI (lvg_ne rfl rfl (by decide)) ?_
                refine And.intro (SH_k sh kb39) (And.intro ⟨by decide, by decide⟩ (z_X6_byteAt (TY_SH hT sh) ir (SH_k sh kb39) (fun r45 S41 s42 ir43 => ?_)))
                have sh44 := SH.tr sh s42 (by decide)
                refine u_X7_note_69 ?_
                unfold bX7_note_69
                exact e_rI (K _ _ sh44 ir43)
            · refine u_X7_note_24 ?_
              unfold bX7_note_24
              refine e_cI ?_
              exact e_rI (K _ _ sh ir)
theorem u_X7_count_0 {Q : Option Value → MM → Prop} {n : Nat} {lv : Lv} {st : List Value} {S : MM} {c z : Nat} (h : bX7_count_0 Q (wpn (kX7_count Q) n) lv st S c z) : wpn (kX7_count Q) (n + 1) 0 lv st S c z := h
theorem u_X7_count_68 {Q : Option Value → MM → Prop} {n : Nat} {lv : Lv} {st : List Value} {S : MM} {c z : Nat} (h : bX7_count_68 Q (wpn (kX7_count Q) n) lv st S c z) : wpn (kX7_count Q) (n + 1) 68 lv st S c z := h
theorem u_X7_count_73 {Q : Option Value → MM → Prop} {n : Nat} {lv : Lv} {st : List Value} {S : MM} {c z : Nat} (h : bX7_count_73 Q (wpn (kX7_count Q) n) lv st S c z) : wpn (kX7_count Q) (n + 1) 73 lv st S c z := h
theorem u_X7_count_78 {Q : Option Value → MM → Prop} {n : Nat} {lv : Lv} {st : List Value} {S : MM} {c z : Nat} (h : bX7_count_78 Q (wpn (kX7_count Q) n) lv st S c z) : wpn (kX7_count Q) (n + 1) 78 lv st S c z := h
theorem u_X7_count_88 {Q : Option Value → MM → Prop} {n : Nat} {lv : Lv} {st : List Value} {S : MM} {c z : Nat} (h : bX7_count_88 Q (wpn (kX7_count Q) n) lv st S c z) : wpn (kX7_count Q) (n + 1) 88 lv st S c z := h
theorem u_X7_count_98 {Q : Option Value → MM → Prop} {n : Nat} {lv : Lv} {st : List Value} {S : MM} {c z : Nat} (h : bX7_count_98 Q (wpn (kX7_count Q) n) lv st S c z) : wpn (kX7_count Q) (n + 1) 98 lv st S c z := h
theorem u_X7_count_108 {Q : Option Value → MM → Prop} {n : Nat} {lv : Lv} {st : List Value} {S : MM} {c z : Nat} (h : bX7_count_108 Q (wpn (kX7_count Q) n) lv st S c z) : wpn (kX7_count Q) (n + 1) 108 lv st S c z := h
theorem u_X7_count_118 {Q : Option Value → MM → Prop} {n : Nat} {lv : Lv} {st : List Value} {S : MM} {c z : Nat} (h : bX7_count_118 Q (wpn (kX7_count Q) n) lv st S c z) : wpn (kX7_count Q) (n + 1) 118 lv st S c z := h
theorem u_X7_count_128 {Q : Option Value → MM → Prop} {n : Nat} {lv : Lv} {st : List Value} {S : MM} {c z : Nat} (h : bX7_count_128 Q (wpn (kX7_count Q) n) lv st S c z) : wpn (kX7_count Q) (n + 1) 128 lv st S c z := h
theorem u_X7_count_138 {Q : Option Value → MM → Prop} {n : Nat} {lv : Lv} {st : List Value} {S : MM} {c z : Nat} (h : bX7_count_138 Q (wpn (kX7_count Q) n) lv st S c z) : wpn (kX7_count Q) (n + 1) 138 lv st S c z := h
theorem u_X7_count_143 {Q : Option Value → MM → Prop} {n : Nat} {lv : Lv} {st : List Value} {S : MM} {c z : Nat} (h : bX7_count_143 Q (wpn (kX7_count Q) n) lv st S c z) : wpn (kX7_count Q) (n + 1) 143 lv st S c z := h
theorem u_X7_count_148 {Q : Option Value → MM → Prop} {n : Nat} {lv : Lv} {st : List Value} {S : MM} {c z : Nat} (h : bX7_count_148 Q (wpn (kX7_count Q) n) lv st S c z) : wpn (kX7_count Q) (n + 1) 148 lv st S c z := h
theorem u_X7_count_153 {Q : Option Value → MM → Prop} {n : Nat} {lv : Lv} {st : List Value} {S : MM} {c z : Nat} (h : bX7_count_153 Q (wpn (kX7_count Q) n) lv st S c z) : wpn (kX7_count Q) (n + 1) 153 lv st S c z := h
theorem u_X7_count_158 {Q : Option Value → MM → Prop} {n : Nat} {lv : Lv} {st : List Value} {S : MM} {c z : Nat} (h : bX7_count_158 Q (wpn (kX7_count Q) n) lv st S c z) : wpn (kX7_count Q) (n + 1) 158 lv st S c z := h
theorem u_X7_count_163 {Q : Option Value → MM → Prop} {n : Nat} {lv : Lv} {st : List Value} {S : MM} {c z : Nat} (h : bX7_count_163 Q (wpn (kX7_count Q) n) lv st S c z) : wpn (kX7_count Q) (n + 1) 163 lv st S c z := h
theorem z_X7_count {Q : Option Value → MM → Prop} {S0 : MM} {x0 : Nat} {w1 : Int32} (hT : TY S0) (ir : IR S0) (k0 : sK S0 x0 = 8) (K : ∀ r S', SH [] S0 S' → IR S' → Q (some (.int r)) S') : wX7_count [.ref x0, .int w1] S0 Q := by
  have sh : SH [] S0 S0 := SH.rf
  refine Exists.intro 40 (u_X7_count_0 ?_)
  unfold bX7_count_0
  refine e_ldI rfl ?_
  refine e_swt ?_ (fun j1 h2 => ?_)
  · refine u_X7_count_163 ?_
    unfold bX7_count_163
    refine e_cI ?_
    exact e_rI (K _ _ sh ir)
  · match j1, h2 with
    | 0, _ =>
      refine u_X7_count_68 ?_
      unfold bX7_count_68
      refine e_ldA rfl ?_
      refine e_gI (SH_k sh k0) (fun v3 hv4 => ?_)
      exact e_rI (K _ _ sh ir)
    | 1, _ =>
      refine u_X7_count_73 ?_
      unfold bX7_count_73
      refine e_ldA rfl ?_
      refine e_gI (SH_k sh k0) (fun v5 hv6 => ?_)
      exact e_rI (K _ _ sh ir)
    | 2, _ =>
      refine u_X7_count_78 ?_
      unfold bX7_count_78
      refine e_ldA rfl ?_
      obtain ⟨b7, rb8, kb9, nb10⟩ := hT.1 x0 8 0 13 2 k0 rfl
      refine e_gR (SH_k sh k0) (SH_r sh rb8) ?_
      refine e_cN 0 rfl ?_
      obtain ⟨b11, rb12, kb13, nb14⟩ := hT.2.1 b7 13 2 2 0 kb9 nb10 rfl (by omega)
      refine e_aR (SH_k sh kb9) (SH_n sh nb10) (by omega) (by decide) (SH_r sh rb12) ?_
      refine e_gI (SH_k sh kb13) (fun v15 hv16 => ?_)
      exact e_rI (K _ _ sh ir)
    | 3, _ =>
      refine u_X7_count_88 ?_
      unfold bX7_count_88
      refine e_ldA rfl ?_
      obtain ⟨b17, rb18, kb19, nb20⟩ := hT.1 x0 8 0 13 2 k0 rfl
      refine e_gR (SH_k sh k0) (SH_r sh rb18) ?_
      refine e_cN 1 rfl ?_
      obtain ⟨b21, rb22, kb23, nb24⟩ := hT.2.1 b17 13 2 2 1 kb19 nb20 rfl (by omega)
      refine e_aR (SH_k sh kb19) (SH_n sh nb20) (by omega) (by decide) (SH_r sh rb22) ?_
      refine e_gI (SH_k sh kb23) (fun v25 hv26 => ?_)
      exact e_rI (K _ _ sh ir)
    | 4, _ =>
      refine u_X7_count_98 ?_
      unfold bX7_count_98
      refine e_ldA rfl ?_
      obtain ⟨b27, rb28, kb29, nb30⟩ := hT.1 x0 8 0 13 2 k0 rfl
      refine e_gR (SH_k sh k0) (SH_r sh rb28) ?_
      refine e_cN 0 rfl ?_
      obtain ⟨b31, rb32, kb33, nb34⟩ := hT.2.1 b27 13 2 2 0 kb29 nb30 rfl (by omega)
      refine e_aR (SH_k sh kb29) (SH_n sh nb30) (by omega) (by decide) (SH_r sh rb32) ?_
      refine e_gI (SH_k sh kb33) (fun v35 hv36 => ?_)
      exact e_rI (K _ _ sh ir)
    | 5, _ =>
      refine u_X7_count_108 ?_
      unfold bX7_count_108
      refine e_ldA rfl ?_
      obtain ⟨b37, rb38, kb39, nb40⟩ := hT.1 x0 8 0 13 2 k0 rfl
      refine e_gR (SH_k sh k0) (SH_r sh rb38) ?_
      refine e_cN 1 rfl ?_
      obtain ⟨b41, rb42, kb43, nb44⟩ := hT.2.1 b37 13 2 2 1 kb39 nb40 rfl (by omega)
      refine e_aR (SH_k sh kb39) (SH_n sh nb40) (by omega) (by decide) (SH_r sh rb42) ?_
      refine e_gI (SH_k sh kb43) (fun v45 hv46 => ?_)
      exact e_rI (K _ _ sh ir)
    | 6, _ =>
      refine u_X7_count_118 ?_
      unfold bX7_count_118
      refine e_ldA rfl ?_
      obtain ⟨b47, rb48, kb49, nb50⟩ := hT.1 x0 8 0 13 2 k0 rfl
      refine e_gR (SH_k sh k0) (SH_r sh rb48) ?_
      refine e_cN 0 rfl ?_
      obtain ⟨b51, rb52, kb53, nb54⟩ := hT.2.1 b47 13 2 2 0 kb49 nb50 rfl (by omega)
      refine e_aR (SH_k sh kb49) (SH_n sh nb50) (by omega) (by decide) (SH_r sh rb52) ?_
      refine e_gI (SH_k sh kb53) (fun v55 hv56 => ?_)
      exact e_rI (K _ _ sh ir)
    | 7, _ =>
      refine u_X7_count_128 ?_
      unfold bX7_count_128
      refine e_ldA rfl ?_
      obtain ⟨b57, rb58, kb59, nb60⟩ := hT.1 x0 8 0 13 2 k0 rfl
      refine e_gR (SH_k sh k0) (SH_r sh rb58) ?_
      refine e_cN 1 rfl ?_
      obtain ⟨b61, rb62, kb63, nb64⟩ := hT.2.1 b57 13 2 2 1 kb59 nb60 rfl (by omega)
      refine e_aR (SH_k sh kb59) (SH_n sh nb60) (by omega) (by decide) (SH_r sh rb62) ?_
      refine e_gI (SH_k sh kb63) (fun v65 hv66 => ?_)
      exact e_rI (K _ _ sh ir)
    | 8, _ =>
      refine u_X7_count_138 ?_
      unfold bX7_count_138
      refine e_ldA rfl ?_
      refine e_gI (SH_k sh k0) (fun v67 hv68 => ?_)
      exact e_rI (K _ _ sh ir)
    | 9, _ =>
      refine u_X7_count_143 ?_
      unfold bX7_count_143
      refine e_ldA rfl ?_
      refine e_gI (SH_k sh k0) (fun v69 hv70 => ?_)
      exact e_rI (K _ _ sh ir)
    | 10, _ =>
      refine u_X7_count_148 ?_
      unfold bX7_count_148
      refine e_ldA rfl ?_
      refine e_gI (SH_k sh k0) (fun v71 hv72 => ?_)
      exact e_rI (K _ _ sh ir)
    | 11, _ =>
      refine u_X7_count_153 ?_
      unfold bX7_count_153
      refine e_ldA rfl ?_
      refine e_gI (SH_k sh k0) (fun v73 hv74 => ?_)
      exact e_rI (K _ _ sh ir)
    | 12, _ =>
      refine u_X7_count_158 ?_
      unfold bX7_count_158
      refine e_ldA rfl ?_
      refine e_gI (SH_k sh k0) (fun v75 hv76 => ?_)
      exact e_rI (K _ _ sh ir)
    | nn + 13, hh => exact absurd hh (by omega)
