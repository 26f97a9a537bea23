theorem u_X6_has_0 {Q : Option Value → MM → Prop} {n : Nat} {lv : Lv} {st : List Value} {S : MM} {c z : Nat} (h : bX6_has_0 Q (wpn (kX6_has Q) n) lv st S c z) : wpn (kX6_has Q) (n + 1) 0 lv st S c z := h
theorem u_X6_has_13 {Q : Option Value → MM → Prop} {n : Nat} {lv : Lv} {st : List Value} {S : MM} {c z : Nat} (h : bX6_has_13 Q (wpn (kX6_has Q) n) lv st S c z) : wpn (kX6_has Q) (n + 1) 13 lv st S c z := h
theorem u_X6_has_14 {Q : Option Value → MM → Prop} {n : Nat} {lv : Lv} {st : List Value} {S : MM} {c z : Nat} (h : bX6_has_14 Q (wpn (kX6_has Q) n) lv st S c z) : wpn (kX6_has Q) (n + 1) 14 lv st S c z := h
theorem z_X6_has {Q : Option Value → MM → Prop} {S0 : MM} {x0 : Nat} {w1 : Int32} (hT : TY S0) (ir : IR S0) (k0 : sK S0 x0 = 7) (K : ∀ j S', SH [] S0 S' → IR S' → j < 2 → Q (some (.int (nI j))) S') : wX6_has [.ref x0, .int w1] S0 Q := by
  have sh : SH [] S0 S0 := SH.rf
  refine Exists.intro 40 (u_X6_has_0 ?_)
  unfold bX6_has_0
  refine e_ldA rfl ?_
  refine e_gI (SH_k sh k0) (fun v1 hv2 => ?_)
  refine e_ldI rfl ?_
  refine e_bopU (fun r3 => ?_)
  refine e_if0 (fun h4 => ?_) (fun h4 => ?_)
  · refine u_X6_has_13 ?_
    unfold bX6_has_13
    refine e_cN 0 rfl ?_
    refine u_X6_has_14 ?_
    unfold bX6_has_14
    exact e_rZ (by omega) (K 0 _ sh ir (by omega))
  · refine e_cN 1 rfl ?_
    refine u_X6_has_14 ?_
    unfold bX6_has_14
    exact e_rZ (by omega) (K 1 _ sh ir (by omega))
theorem u_X6_clear_0 {Q : Option Value → MM → Prop} {n : Nat} {lv : Lv} {st : List Value} {S : MM} {c z : Nat} (h : bX6_clear_0 Q (wpn (kX6_clear Q) n) lv st S c z) : wpn (kX6_clear Q) (n + 1) 0 lv st S c z := h
theorem z_X6_clear {Q : Option Value → MM → Prop} {S0 : MM} {x0 : Nat} (hT : TY S0) (ir : IR S0) (k0 : sK S0 x0 = 7) (K : ∀ S', SH [7] S0 S' → IR S' → Q none S') : wX6_clear [.ref x0] S0 Q := by
  have sh : SH [7] S0 S0 := SH.rf
  refine Exists.intro 40 (u_X6_clear_0 ?_)
  unfold bX6_clear_0
  refine e_ldA rfl ?_
  refine e_cN 0 rfl ?_
  refine y_tI (SH_k sh k0) sh ir (by decide) (by decide) (fun N e => nomatch (show (none : Option Nat) = some N from e)) (fun S1 he2 sh3 ir4 => ?_)
  refine e_ldA rfl ?_
  refine e_cN 0 rfl ?_
  refine y_tI (SH_k sh3 k0) sh3 ir4 (by decide) (by decide) (fun N e => nomatch (show (none : Option Nat) = some N from e)) (fun S5 he6 sh7 ir8 => ?_)
  refine e_ldA rfl ?_
  refine e_cN 0 rfl ?_
  refine y_tI (SH_k sh7 k0) sh7 ir8 (by decide) (by decide) (fun N e => nomatch (show (none : Option Nat) = some N from e)) (fun S9 he10 sh11 ir12 => ?_)
  refine e_ldA rfl ?_
  refine e_cN 0 rfl ?_
  refine y_tI (SH_k sh11 k0) sh11 ir12 (by decide) (by decide) (fun N e => nomatch (show (none : Option Nat) = some N from e)) (fun S13 he14 sh15 ir16 => ?_)
  refine e_ldA rfl ?_
  refine e_cN 0 rfl ?_
  refine y_tI (SH_k sh15 k0) sh15 ir16 (by decide) (by decide) (fun N e => nomatch (show (none : Option Nat) = some N from e)) (fun S17 he18 sh19 ir20 => ?_)
  exact e_rV (K _ sh19 ir20)
theorem u_X6_copyFrom_0 {Q : Option Value → MM → Prop} {n : Nat} {lv : Lv} {st : List Value} {S : MM} {c z : Nat} (h : bX6_copyFrom_0 Q (wpn (kX6_copyFrom Q) n) lv st S c z) : wpn (kX6_copyFrom Q) (n + 1) 0 lv st S c z := h
theorem z_X6_copyFrom {Q : Option Value → MM → Prop} {S0 : MM} {x0 : Nat} {x1 : Nat} (hT : TY S0) (ir : IR S0) (k0 : sK S0 x0 = 7) (k1 : sK S0 x1 = 7) (K : ∀ S', SH [7] S0 S' → IR S' → Q none S') : wX6_copyFrom [.ref x0, .ref x1] S0 Q := by
  have sh : SH [7] S0 S0 := SH.rf
  refine Exists.intro 40 (u_X6_copyFrom_0 ?_)
  unfold bX6_copyFrom_0
  refine e_ldA rfl ?_
  refine e_ldA rfl ?_
  refine e_gI (SH_k sh k1) (fun v1 hv2 => ?_)
  refine y_tI (SH_k sh k0) sh ir (by decide) (by decide) (fun N e => nomatch (show (none : Option Nat) = some N from e)) (fun S3 he4 sh5 ir6 => ?_)
  refine e_ldA rfl ?_
  refine e_ldA rfl ?_
  refine e_gI (SH_k sh5 k1) (fun v7 hv8 => ?_)
  refine y_tI (SH_k sh5 k0) sh5 ir6 (by decide) (by decide) (fun N e => nomatch (show (none : Option Nat) = some N from e)) (fun S9 he10 sh11 ir12 => ?_)
  refine e_ldA rfl ?_
  refine e_ldA rfl ?_
  refine e_gI (SH_k sh11 k1) (fun v13 hv14 => ?_)
  refine y_tI (SH_k sh11 k0) sh11 ir12 (by decide) (by decide) (fun N e => nomatch (show (none : Option Nat) = some N from e)) (fun S15 he16 sh17 ir18 => ?_)
  refine e_ldA rfl ?_
  refine e_ldA rfl ?_
  refine e_gI (SH_k sh17 k1) (fun v19 hv20 => ?_)
  refine y_tI (SH_k sh17 k0) sh17 ir18 (by decide) (by decide) (fun N e => nomatch (show (none : Option Nat) = some N from e)) (fun S21 he22 sh23 ir24 => ?_)
  refine e_ldA rfl ?_
  refine e_ldA rfl ?_
  refine e_gI (SH_k sh23 k1) (fun v25 hv26 => ?_)
  refine y_tI (SH_k sh23 k0) sh23 ir24 (by decide) (by decide) (fun N e => nomatch (show (none : Option Nat) = some N from e)) (fun S27 he28 sh29 ir30 => ?_)
  exact e_rV (K _ sh29 ir30)
theorem u_X6_setBits_0 {Q : Option Value → MM → Prop} {n : Nat} {lv : Lv} {st : List Value} {S : MM} {c z : Nat} (h : bX6_setBits_0 Q (wpn (kX6_setBits Q) n) lv st S c z) : wpn (kX6_setBits Q) (n + 1) 0 lv st S c z := h
theorem u_X6_setBits_14 {Q : Option Value → MM → Prop} {n : Nat} {lv : Lv} {st : List Value} {S : MM} {c z : Nat} (h : bX6_setBits_14 Q (wpn (kX6_setBits Q) n) lv st S c z) : wpn (kX6_setBits Q) (n + 1) 14 lv st S c z := h
theorem u_X6_setBits_22 {Q : Option Value → MM → Prop} {n : Nat} {lv : Lv} {st : List Value} {S : MM} {c z : Nat} (h : bX6_setBits_22 Q (wpn (kX6_setBits Q) n) lv st S c z) : wpn (kX6_setBits Q) (n + 1) 22 lv st S c z := h
theorem z_X6_setBits {Q : Option Value → MM → Prop} {S0 : MM} {x0 : Nat} {w1 : Int32} {i2 : Nat} (hT : TY S0) (ir : IR S0) (k0 : sK S0 x0 = 7) (h2 : i2 < 2) (K : ∀ S', SH [7] S0 S' → IR S' → Q none S') : wX6_setBits [.ref x0, .int w1, .int (nI i2)] S0 Q := by
  have sh : SH [7] S0 S0 := SH.rf
  refine Exists.intro 40 (u_X6_setBits_0 ?_)
  unfold bX6_setBits_0
  refine e_ldA rfl ?_
  refine e_ldI rfl ?_
  refine e_ifN (by omega) (fun h1 => ?_) (fun h1 => ?_)
  · refine u_X6_setBits_14 ?_
    unfold bX6_setBits_14
    refine e_ldA rfl ?_
    refine e_gI (SH_k sh k0) (fun v2 hv3 => ?_)
    refine e_ldI rfl ?_
    refine e_cI ?_
    refine e_bopU (fun r4 => ?_)
    refine e_bopU (fun r5 => ?_)
    refine u_X6_setBits_22 ?_
    unfold bX6_setBits_22
    refine y_tI (SH_k sh k0) sh ir (by decide) (by decide) (fun N e => nomatch (show (none : Option Nat) = some N from e)) (fun S6 he7 sh8 ir9 => ?_)
    exact e_rV (K _ sh8 ir9)
  · refine e_ldA rfl ?_
    refine e_gI (SH_k sh k0) (fun v10 hv11 => ?_)
    refine e_ldI rfl ?_
    refine e_bopU (fun r12 => ?_)
    refine u_X6_setBits_22 ?_
    unfold bX6_setBits_22
    refine y_tI (SH_k sh k0) sh ir (by decide) (by decide) (fun N e => nomatch (show (none : Option Nat) = some N from e)) (fun S13 he14 sh15 ir16 => ?_)
    exact e_rV (K _ sh15 ir16)
theorem u_X6_namesSame_0 {Q : Option Value → MM → Prop} {n : Nat} {lv : Lv} {st : List Value} {S : MM} {c z : Nat} (h : bX6_namesSame_0 Q (wpn (kX6_namesSame Q) n) lv st S c z) : wpn (kX6_namesSame Q) (n + 1) 0 lv st S c z := h
theorem u_X6_namesSame_48 {Q : Option Value → MM → Prop} {n : Nat} {lv : Lv} {st : List Value} {S : MM} {c z : Nat} (h : bX6_namesSame_48 Q (wpn (kX6_namesSame Q) n) lv st S c z) : wpn (kX6_namesSame Q) (n + 1) 48 lv st S c z := h
theorem u_X6_namesSame_49 {Q : Option Value → MM → Prop} {n : Nat} {lv : Lv} {st : List Value} {S : MM} {c z : Nat} (h : bX6_namesSame_49 Q (wpn (kX6_namesSame Q) n) lv st S c z) : wpn (kX6_namesSame Q) (n + 1) 49 lv st S c z := h
theorem z_X6_namesSame {Q : Option Value → MM → Prop} {S0 : MM} {x0 : Nat} {x1 : Nat} (hT : TY S0) (ir : IR S0) (k0 : sK S0 x0 = 7) (k1 : sK S0 x1 = 7) (K : ∀ j S', SH [] S0 S' → IR S' → j < 2 → Q (some (.int (nI j))) S') : wX6_namesSame [.ref x0, .ref x1] S0 Q := by
  have sh : SH [] S0 S0 := SH.rf
  refine Exists.intro 40 (u_X6_namesSame_0 ?_)
  unfold bX6_namesSame_0
  refine e_ldA rfl ?_
  refine e_gI (SH_k sh k0) (fun v1 hv2 => ?_)
  refine e_ldA rfl ?_
  refine e_gI (SH_k sh k1) (fun v3 hv4 => ?_)
  refine e_ifc ?_ ?_
  · refine e_ldA rfl ?_
    refine e_gI (SH_k sh k0) (fun v5 hv6 => ?_)
    refine e_ldA rfl ?_
    refine e_gI (SH_k sh k1) (fun v7 hv8 => ?_)
    refine e_ifc ?_ ?_
    · refine e_ldA rfl ?_
      refine e_gI (SH_k sh k0) (fun v9 hv10 => ?_)
      refine e_ldA rfl ?_
      refine e_gI (SH_k sh k1) (fun v11 hv12 => ?_)
      refine e_ifc ?_ ?_
      · refine e_ldA rfl ?_
        refine e_gI (SH_k sh k0) (fun v13 hv14 => ?_)
        refine e_ldA rfl ?_
        refine e_gI (SH_k sh k1) (fun v15 hv16 => ?_)
        refine e_ifc ?_ ?_
        · refine e_cN 1 rfl ?_
          refine u_X6_namesSame_49 ?_
          unfold bX6_namesSame_49
          exact e_rZ (by omega) (K 1 _ sh ir (by omega))
        · refine u_X6_namesSame_48 ?_
          unfold bX6_namesSame_48
          refine e_cN 0 rfl ?_
          refine u_X6_namesSame_49 ?_
          unfold bX6_namesSame_49
          exact e_rZ (by omega) (K 0 _ sh ir (by omega))
      · refine u_X6_namesSame_48 ?_
        unfold bX6_namesSame_48
        refine e_cN 0 rfl ?_
        refine u_X6_namesSame_49 ?_
        unfold bX6_namesSame_49
        exact e_rZ (by omega) (K 0 _ sh ir (by omega))
    · refine u_X6_namesSame_48 ?_
      unfold bX6_namesSame_48
      refine e_cN 0 rfl ?_
      refine u_X6_namesSame_49 ?_
      unfold bX6_namesSame_49
      exact e_rZ (by omega) (K 0 _ sh ir (by omega))
  · refine u_X6_namesSame_48 ?_
    unfold bX6_namesSame_48
    refine e_cN 0 rfl ?_
    refine u_X6_namesSame_49 ?_
    unfold bX6_namesSame_49
    exact e_rZ (by omega) (K 0 _ sh ir (by omega))
theorem u_X6_isSame_0 {Q : Option Value → MM → Prop} {n : Nat} {lv : Lv} {st : List Value} {S : MM} {c z : Nat} (h : bX6_isSame_0 Q (wpn (kX6_isSame Q) n) lv st S c z) : wpn (kX6_isSame Q) (n + 1) 0 lv st S c z := h
theorem u_X6_isSame_23 {Q : Option Value → MM → Prop} {n : Nat} {lv : Lv} {st : List Value} {S : MM} {c z : Nat} (h : bX6_isSame_23 Q (wpn (kX6_isSame Q) n) lv st S c z) : wpn (kX6_isSame Q) (n + 1) 23 lv st S c z := h
theorem u_X6_isSame_24 {Q : Option Value → MM → Prop} {n : Nat} {lv : Lv} {st : List Value} {S : MM} {c z : Nat} (h : bX6_isSame_24 Q (wpn (kX6_isSame Q) n) lv st S c z) : wpn (kX6_isSame Q) (n + 1) 24 lv st S c z := h
theorem z_X6_isSame {Q : Option Value → MM → Prop} {S0 : MM} {x0 : Nat} {x1 : Nat} (hT : TY S0) (ir : IR S0) (k0 : sK S0 x0 = 7) (k1 : sK S0 x1 = 7) (K : ∀ j S', SH [] S0 S' → IR S' → j < 2 → Q (some (.int (nI j))) S') : wX6_isSame [.ref x0, .ref x1] S0 Q := by
  have sh : SH [] S0 S0 := SH.rf
  refine Exists.intro 40 (u_X6_isSame_0 ?_)
  unfold bX6_isSame_0
  refine e_ldA rfl ?_
  refine e_ldA rfl ?_
  refine And.intro (SH_k sh k0) (And.intro ⟨by decide, by decide⟩ (z_X6_namesSame (TY_SH hT sh) ir (SH_k sh k0) (SH_k sh k1) (fun n5 S1 s2 ir3 hn6 => ?_)))
  have sh4 := SH.tr sh s2 (by decide)
  refine e_ifN (by omega) (fun h7 => ?_) (fun h7 => ?_)
  · refine u_X6_isSame_23 ?_
    unfold bX6_isSame_23
    refine e_cN 0 rfl ?_
    refine u_X6_isSame_24 ?_
    unfold bX6_isSame_24
    exact e_rZ (by omega) (K 0 _ sh4 ir3 (by omega))
  · refine e_ldA rfl ?_
    refine e_gI (SH_k sh4 k0) (fun v8 hv9 => ?_)
    refine e_ldA rfl ?_
    refine e_gI (SH_k sh4 k1) (fun v10 hv11 => ?_)
    refine e_ifc ?_ ?_
    · refine e_cN 1 rfl ?_
      refine u_X6_isSame_24 ?_
      unfold bX6_isSame_24
      exact e_rZ (by omega) (K 1 _ sh4 ir3 (by omega))
    · refine u_X6_isSame_23 ?_
      unfold bX6_isSame_23
      refine e_cN 0 rfl ?_
      refine u_X6_isSame_24 ?_
      unfold bX6_isSame_24
      exact e_rZ (by omega) (K 0 _ sh4 ir3 (by omega))
theorem u_X6_byteAt_0 {Q : Option Value → MM → Prop} {n : Nat} {lv : Lv} {st : List Value} {S : MM} {c z : Nat} (h : bX6_byteAt_0 Q (wpn (kX6_byteAt Q) n) lv st S c z) : wpn (kX6_byteAt Q) (n + 1) 0 lv st S c z := h
theorem u_X6_byteAt_22 {Q : Option Value → MM → Prop} {n : Nat} {lv : Lv} {st : List Value} {S : MM} {c z : Nat} (h : bX6_byteAt_22 Q (wpn (kX6_byteAt Q) n) lv st S c z) : wpn (kX6_byteAt Q) (n + 1) 22 lv st S c z := h
theorem u_X6_byteAt_33 {Q : Option Value → MM → Prop} {n : Nat} {lv : Lv} {st : List Value} {S : MM} {c z : Nat} (h : bX6_byteAt_33 Q (wpn (kX6_byteAt Q) n) lv st S c z) : wpn (kX6_byteAt Q) (n + 1) 33 lv st S c z := h
theorem u_X6_byteAt_46 {Q : Option Value → MM → Prop} {n : Nat} {lv : Lv} {st : List Value} {S : MM} {c z : Nat} (h : bX6_byteAt_46 Q (wpn (kX6_byteAt Q) n) lv st S c z) : wpn (kX6_byteAt Q) (n + 1) 46 lv st S c z := h
theorem u_X6_byteAt_59 {Q : Option Value → MM → Prop} {n : Nat} {lv : Lv} {st : List Value} {S : MM} {c z : Nat} (h : bX6_byteAt_59 Q (wpn (kX6_byteAt Q) n) lv st S c z) : wpn (kX6_byteAt Q) (n + 1) 59 lv st S c z := h
theorem u_X6_byteAt_63 {Q : Option Value → MM → Prop} {n : Nat} {lv : Lv} {st : List Value} {S : MM} {c z : Nat} (h : bX6_byteAt_63 Q (wpn (kX6_byteAt Q) n) lv st S c z) : wpn (kX6_byteAt Q) (n + 1) 63 lv st S c z := h
theorem u_X6_byteAt_77 {Q : Option Value → MM → Prop} {n : Nat} {lv : Lv} {st : List Value} {S : MM} {c z : Nat} (h : bX6_byteAt_77 Q (wpn (kX6_byteAt Q) n) lv st S c z) : wpn (kX6_byteAt Q) (n + 1) 77 lv st S c z := h
theorem u_X6_byteAt_78 {Q : Option Value → MM → Prop} {n : Nat} {lv : Lv} {st : List Value} {S : MM} {c z : Nat} (h : bX6_byteAt_78 Q (wpn (kX6_byteAt Q) n) lv st S c z) : wpn (kX6_byteAt Q) (n + 1) 78 lv st S c z := h
def P_X6_byteAt_0 (Q : Option Value → MM → Prop) (S0 : MM) (n : Nat) : Prop := ∀ (lv : Lv) (S : MM) (x0 : Nat) (w1 : Int32), lvg lv 0 = some (.ref x0) → sK S0 x0 = 7 → lvg lv 1 = some (.int w1) → SH [] S0 S → IR S → 62 ≤ n → wpn (kX6_byteAt Q) n 0 lv [] S 0 0
def P_X6_byteAt_63 (Q : Option Value → MM → Prop) (S0 : MM) (n : Nat) : Prop := ∀ (lv : Lv) (S : MM) (x0 : Nat) (w1 : Int32) (ws0 : Int32), lvg lv 0 = some (.ref x0) → sK S0 x0 = 7 → lvg lv 1 = some (.int w1) → SH [] S0 S → IR S → 31 ≤ n → wpn (kX6_byteAt Q) n 63 lv [.int ws0] S 0 0
theorem B_X6_byteAt_0 {Q : Option Value → MM → Prop} {S0 : MM} {n : Nat} (hT : TY S0) (K : ∀ r S', SH [] S0 S' → IR S' → Q (some (.int r)) S') (t_63 : ∀ k, k ≤ n → P_X6_byteAt_63 Q S0 k) : P_X6_byteAt_0 Q S0 (n + 1) := by
  intro lv S x0 w1 g0 k0 g1 sh ir hF
  refine u_X6_byteAt_0 ?_
  unfold bX6_byteAt_0
  refine e_ldI g1 ?_
  refine e_cN 4 rfl ?_
  refine e_ifc ?_ ?_
  · obtain ⟨q1, rfl⟩ : ∃ q, n = q + 1 := ⟨n - 1, by omega⟩
    refine u_X6_byteAt_22 ?_
    unfold bX6_byteAt_22
    refine e_ldI g1 ?_
    refine e_cN 10 rfl ?_
    refine e_ifc ?_ ?_
    · refine e_ldA g0 ?_
      refine e_gI (SH_k sh k0) (fun v2 hv3 => ?_)
      exact e_rI (K _ _ sh ir)
    · obtain ⟨q4, rfl⟩ : ∃ q, q1 = q + 1 := ⟨q1 - 1, by omega⟩
      refine u_X6_byteAt_33 ?_
      unfold bX6_byteAt_33
      refine e_ldI g1 ?_
      refine e_cN 6 rfl ?_
      refine e_ifc ?_ ?_
      · obtain ⟨q5, rfl⟩ : ∃ q, q4 = q + 1 := ⟨q4 - 1, by omega⟩
        refine u_X6_byteAt_46 ?_
        unfold bX6_byteAt_46
        refine e_ldI g1 ?_
        refine e_cN 8 rfl ?_
        refine e_ifc ?_ ?_
        · obtain ⟨q6, rfl⟩ : ∃ q, q5 = q + 1 := ⟨q5 - 1, by omega⟩
          refine u_X6_byteAt_59 ?_
          unfold bX6_byteAt_59
          refine e_ldA g0 ?_
          refine e_gI (SH_k sh k0) (fun v7 hv8 => ?_)
          exact t_63 q6 (by omega) _ _ x0 _ _ g0 k0 g1 sh ir (by omega)
        · refine e_ldA g0 ?_
          refine e_gI (SH_k sh k0) (fun v9 hv10 => ?_)
          exact t_63 q5 (by omega) _ _ x0 _ _ g0 k0 g1 sh ir (by omega)
      · refine e_ldA g0 ?_
        refine e_gI (SH_k sh k0) (fun v11 hv12 => ?_)
        exact t_63 q4 (by omega) _ _ x0 _ _ g0 k0 g1 sh ir (by omega)
  · refine e_ldA g0 ?_
    refine e_gI (SH_k sh k0) (fun v13 hv14 => ?_)
    refine e_cN 24 rfl ?_
    refine e_cN 8 rfl ?_
    refine e_ldI g1 ?_
    refine e_bopU (fun r15 => ?_)
    refine e_bopU (fun r16 => ?_)
    refine e_bopU (fun r17 => ?_)
    refine e_cN 255 rfl ?_
    refine e_bopU (fun r18 => ?_)
    exact e_rI (K _ _ sh ir)
theorem B_X6_byteAt_63 {Q : Option Value → MM → Prop} {S0 : MM} {n : Nat} (hT : TY S0) (K : ∀ r S', SH [] S0 S' → IR S' → Q (some (.int r)) S')  : P_X6_byteAt_63 Q S0 (n + 1) := by
  intro lv S x0 w1 ws0 g0 k0 g1 sh ir hF
  refine u_X6_byteAt_63 ?_
  unfold bX6_byteAt_63
  refine e_stI ?_
  refine e_ldI (lvg_ne g1 rfl (by decide)) ?_
  refine e_cN 2 rfl ?_
  refine e_bodU (by first | assumption | exact nI_n0 (by omega) (by omega)) (fun r1 => ?_)
  refine e_if0 (fun h2 => ?_) (fun h2 => ?_)
  · refine e_ldI lvg_self ?_
    refine e_cN 8 rfl ?_
    refine e_bopU (fun r3 => ?_)
    obtain ⟨q4, rfl⟩ : ∃ q, n = q + 1 := ⟨n - 1, by omega⟩
    refine u_X6_byteAt_78 ?_
    unfold bX6_byteAt_78
    refine e_cN 255 rfl ?_
    refine e_bopU (fun r5 => ?_)
    exact e_rI (K _ _ sh ir)
  · obtain ⟨q6, rfl⟩ : ∃ q, n = q + 1 := ⟨n - 1, by omega⟩
    refine u_X6_byteAt_77 ?_
    unfold bX6_byteAt_77
    refine e_ldI lvg_self ?_
    obtain ⟨q7, rfl⟩ : ∃ q, q6 = q + 1 := ⟨q6 - 1, by omega⟩
    refine u_X6_byteAt_78 ?_
    unfold bX6_byteAt_78
    refine e_cN 255 rfl ?_
    refine e_bopU (fun r8 => ?_)
    exact e_rI (K _ _ sh ir)
theorem A_X6_byteAt {Q : Option Value → MM → Prop} {S0 : MM} (hT : TY S0) (K : ∀ r S', SH [] S0 S' → IR S' → Q (some (.int r)) S') : ∀ n k, k ≤ n → P_X6_byteAt_0 Q S0 k ∧ P_X6_byteAt_63 Q S0 k := by
  intro n
  induction n with
  | zero =>
    intro k hk
    have e : k = 0 := by omega
    subst e
    exact ⟨(fun lv S x0 w1 _ _ _ _ _ hF => absurd hF (by omega)), (fun lv S x0 w1 ws0 _ _ _ _ _ hF => absurd hF (by omega))⟩
  | succ n ih =>
    intro k hk
    by_cases hn : k ≤ n
    · exact ih k hn
    · have e : k = n + 1 := by omega
      subst e
      have T_0 : ∀ k, k ≤ n → P_X6_byteAt_0 Q S0 k := fun k hk => (ih k hk).1
      have T_63 : ∀ k, k ≤ n → P_X6_byteAt_63 Q S0 k := fun k hk => (ih k hk).2
      exact ⟨B_X6_byteAt_0 hT K T_63, B_X6_byteAt_63 hT K ⟩
theorem z_X6_byteAt {Q : Option Value → MM → Prop} {S0 : MM} {x0 : Nat} {w1 : Int32} (hT : TY S0) (ir : IR S0) (k0 : sK S0 x0 = 7) (K : ∀ r S', SH [] S0 S' → IR S' → Q (some (.int r)) S') : wX6_byteAt [.ref x0, .int w1] S0 Q := by
  exact Exists.intro 62 ((A_X6_byteAt hT K 62 62 (Nat.le_refl _)).1 _ S0 x0 w1 rfl k0 rfl SH.rf ir (by omega))
theorem u_X2_mustComeAhead_0 {Q : Option Value → MM → Prop} {n : Nat} {lv : Lv} {st : List Value} {S : MM} {c z : Nat} (h : bX2_mustComeAhead_0 Q (wpn (kX2_mustComeAhead Q) n) lv st S c z) : wpn (kX2_mustComeAhead Q) (n + 1) 0 lv st S c z := h
theorem u_X2_mustComeAhead_48 {Q : Option Value → MM → Prop} {n : Nat} {lv : Lv} {st : List Value} {S : MM} {c z : Nat} (h : bX2_mustComeAhead_48 Q (wpn (kX2_mustComeAhead Q) n) lv st S c z) : wpn (kX2_mustComeAhead Q) (n + 1) 48 lv st S c z := h
theorem u_X2_mustComeAhead_49 {Q : Option Value → MM → Prop} {n : Nat} {lv : Lv} {st : List Value} {S : MM} {c z : Nat} (h : bX2_mustComeAhead_49 Q (wpn (kX2_mustComeAhead Q) n) lv st S c z) : wpn (kX2_mustComeAhead Q) (n + 1) 49 lv st S c z := h
theorem z_X2_mustComeAhead {Q : Option Value → MM → Prop} {S0 : MM} {x0 : Nat} {x1 : Nat} (hT : TY S0) (ir : IR S0) (k0 : sK S0 x0 = 3) (k1 : sK S0 x1 = 3) (K : ∀ j S', SH [] S0 S' → IR S' → j < 2 → Q (some (.int (nI j))) S') : wX2_mustComeAhead [.ref x0, .ref x1] S0 Q := by
  have sh : SH [] S0 S0 := SH.rf
  refine Exists.intro 40 (u_X2_mustComeAhead_0 ?_)
  unfold bX2_mustComeAhead_0
  refine e_ldA rfl ?_
  refine e_gI (SH_k sh k0) (fun v1 hv2 => ?_)
  refine e_ldA rfl ?_
  refine e_gI (SH_k sh k1) (fun v3 hv4 => ?_)
  refine e_ifc ?_ ?_
  · refine e_ldA rfl ?_
    refine e_gI (SH_k sh k0) (fun v5 hv6 => ?_)
    refine e_ldA rfl ?_
    refine e_gI (SH_k sh k1) (fun v7 hv8 => ?_)
    refine e_ifc ?_ ?_
    · refine e_ldA rfl ?_
      refine e_gI (SH_k sh k0) (fun v9 hv10 => ?_)
      refine e_ldA rfl ?_
      refine e_gI (SH_k sh k1) (fun v11 hv12 => ?_)
      refine e_ifc ?_ ?_
      · refine e_ldA rfl ?_
        refine e_gI (SH_k sh k0) (fun v13 hv14 => ?_)
        refine e_ldA rfl ?_
        refine e_gI (SH_k sh k1) (fun v15 hv16 => ?_)
        refine e_ifc ?_ ?_
        · refine u_X2_mustComeAhead_48 ?_
          unfold bX2_mustComeAhead_48
          refine e_cN 0 rfl ?_
          refine u_X2_mustComeAhead_49 ?_
          unfold bX2_mustComeAhead_49
          exact e_rZ (by omega) (K 0 _ sh ir (by omega))
        · refine e_cN 1 rfl ?_
          refine u_X2_mustComeAhead_49 ?_
          unfold bX2_mustComeAhead_49
          exact e_rZ (by omega) (K 1 _ sh ir (by omega))
      · refine u_X2_mustComeAhead_48 ?_
        unfold bX2_mustComeAhead_48
        refine e_cN 0 rfl ?_
        refine u_X2_mustComeAhead_49 ?_
        unfold bX2_mustComeAhead_49
        exact e_rZ (by omega) (K 0 _ sh ir (by omega))
    · refine u_X2_mustComeAhead_48 ?_
      unfold bX2_mustComeAhead_48
      refine e_cN 0 rfl ?_
      refine u_X2_mustComeAhead_49 ?_
      unfold bX2_mustComeAhead_49
      exact e_rZ (by omega) (K 0 _ sh ir (by omega))
  · refine u_X2_mustComeAhead_48 ?_
    unfold bX2_mustComeAhead_48
    refine e_cN 0 rfl ?_
    refine u_X2_mustComeAhead_49 ?_
    unfold bX2_mustComeAhead_49
    exact e_rZ (by omega) (K 0 _ sh ir (by omega))
theorem u_X5_isLit_0 {Q : Option Value → MM → Prop} {n : Nat} {lv : Lv} {st : List Value} {S : MM} {c z : Nat} (h : bX5_isLit_0 Q (wpn (kX5_isLit Q) n) lv st S c z) : wpn (kX5_isLit Q) (n + 1) 0 lv st S c z := h
theorem u_X5_isLit_11 {Q : Option Value → MM → Prop} {n : Nat} {lv : Lv} {st : List Value} {S : MM} {c z : Nat} (h : bX5_isLit_11 Q (wpn (kX5_isLit Q) n) lv st S c z) : wpn (kX5_isLit Q) (n + 1) 11 lv st S c z := h
theorem u_X5_isLit_12 {Q : Option Value → MM → Prop} {n : Nat} {lv : Lv} {st : List Value} {S : MM} {c z : Nat} (h : bX5_isLit_12 Q (wpn (kX5_isLit Q) n) lv st S c z) : wpn (kX5_isLit Q) (n + 1) 12 lv st S c z := h
theorem z_X5_isLit {Q : Option Value → MM → Prop} {S0 : MM} {x0 : Nat} (hT : TY S0) (ir : IR S0) (k0 : sK S0 x0 = 6) (K : ∀ j S', SH [] S0 S' → IR S' → j < 2 → Q (some (.int (nI j))) S') : wX5_isLit [.ref x0] S0 Q := by
  have sh : SH [] S0 S0 := SH.rf
  refine Exists.intro 40 (u_X5_isLit_0 ?_)
  unfold bX5_isLit_0
  refine e_ldA rfl ?_
  refine e_gI (SH_k sh k0) (fun v1 hv2 => ?_)
  refine e_if0 (fun h3 => ?_) (fun h3 => ?_)
  · refine u_X5_isLit_11 ?_
    unfold bX5_isLit_11
    refine e_cN 0 rfl ?_
    refine u_X5_isLit_12 ?_
    unfold bX5_isLit_12
    exact e_rZ (by omega) (K 0 _ sh ir (by omega))
  · refine e_cN 1 rfl ?_
    refine u_X5_isLit_12 ?_
    unfold bX5_isLit_12
    exact e_rZ (by omega) (K 1 _ sh ir (by omega))
theorem u_X5_setStage_0 {Q : Option Value → MM → Prop} {n : Nat} {lv : Lv} {st : List Value} {S : MM} {c z : Nat} (h : bX5_setStage_0 Q (wpn (kX5_setStage Q) n) lv st S c z) : wpn (kX5_setStage Q) (n + 1) 0 lv st S c z := h
theorem u_X5_setStage_20 {Q : Option Value → MM → Prop} {n : Nat} {lv : Lv} {st : List Value} {S : MM} {c z : Nat} (h : bX5_setStage_20 Q (wpn (kX5_setStage Q) n) lv st S c z) : wpn (kX5_setStage Q) (n + 1) 20 lv st S c z := h
theorem u_X5_setStage_21 {Q : Option Value → MM → Prop} {n : Nat} {lv : Lv} {st : List Value} {S : MM} {c z : Nat} (h : bX5_setStage_21 Q (wpn (kX5_setStage Q) n) lv st S c z) : wpn (kX5_setStage Q) (n + 1) 21 lv st S c z := h
theorem u_X5_setStage_39 {Q : Option Value → MM → Prop} {n : Nat} {lv : Lv} {st : List Value} {S : MM} {c z : Nat} (h : bX5_setStage_39 Q (wpn (kX5_setStage Q) n) lv st S c z) : wpn (kX5_setStage Q) (n + 1) 39 lv st S c z := h
theorem u_X5_setStage_40 {Q : Option Value → MM → Prop} {n : Nat} {lv : Lv} {st : List Value} {S : MM} {c z : Nat} (h : bX5_setStage_40 Q (wpn (kX5_setStage Q) n) lv st S c z) : wpn (kX5_setStage Q) (n + 1) 40 lv st S c z := h
theorem u_X5_setStage_58 {Q : Option Value → MM → Prop} {n : Nat} {lv : Lv} {st : List Value} {S : MM} {c z : Nat} (h : bX5_setStage_58 Q (wpn (kX5_setStage Q) n) lv st S c z) : wpn (kX5_setStage Q) (n + 1) 58 lv st S c z := h
theorem u_X5_setStage_59 {Q : Option Value → MM → Prop} {n : Nat} {lv : Lv} {st : List Value} {S : MM} {c z : Nat} (h : bX5_setStage_59 Q (wpn (kX5_setStage Q) n) lv st S c z) : wpn (kX5_setStage Q) (n + 1) 59 lv st S c z := h
def P_X5_setStage_0 (Q : Option Value → MM → Prop) (S0 : MM) (n : Nat) : Prop := ∀ (lv : Lv) (S : MM) (x0 : Nat) (w1 : Int32), lvg lv 0 = some (.ref x0) → sK S0 x0 = 6 → lvg lv 1 = some (.int w1) → SH [6, 7] S0 S → IR S → 93 ≤ n → wpn (kX5_setStage Q) n 0 lv [] S 0 0
def P_X5_setStage_21 (Q : Option Value → MM → Prop) (S0 : MM) (n : Nat) : Prop := ∀ (lv : Lv) (S : MM) (x0 : Nat) (w1 : Int32) (is0 : Nat) (is1 : Nat) (xs2 : Nat), lvg lv 0 = some (.ref x0) → sK S0 x0 = 6 → lvg lv 1 = some (.int w1) → is0 < 2 → is1 < 9 → sK S0 xs2 = 7 → SH [6, 7] S0 S → IR S → 62 ≤ n → wpn (kX5_setStage Q) n 21 lv [.int (nI is0), .int (nI is1), .ref xs2] S 0 0
def P_X5_setStage_40 (Q : Option Value → MM → Prop) (S0 : MM) (n : Nat) : Prop := ∀ (lv : Lv) (S : MM) (x0 : Nat) (w1 : Int32) (is0 : Nat) (is1 : Nat) (xs2 : Nat), lvg lv 0 = some (.ref x0) → sK S0 x0 = 6 → lvg lv 1 = some (.int w1) → is0 < 2 → is1 < 17 → sK S0 xs2 = 7 → SH [6, 7] S0 S → IR S → 31 ≤ n → wpn (kX5_setStage Q) n 40 lv [.int (nI is0), .int (nI is1), .ref xs2] S 0 0
theorem B_X5_setStage_0 {Q : Option Value → MM → Prop} {S0 : MM} {n : Nat} (hT : TY S0) (K : ∀ S', SH [6, 7] S0 S' → IR S' → Q none S') (t_21 : ∀ k, k ≤ n → P_X5_setStage_21 Q S0 k) : P_X5_setStage_0 Q S0 (n + 1) := by
  intro lv S x0 w1 g0 k0 g1 sh ir hF
  refine u_X5_setStage_0 ?_
  unfold bX5_setStage_0
  refine e_ldA g0 ?_
  refine e_ldI g1 ?_
  refine y_tI (SH_k sh k0) sh ir (by decide) (by decide) (fun N e => nomatch (show (none : Option Nat) = some N from e)) (fun S1 he2 sh3 ir4 => ?_)
  refine e_ldA g0 ?_
  obtain ⟨b5, rb6, kb7, nb8⟩ := hT.1 x0 6 0 7 0 k0 rfl
  refine e_gR (SH_k sh3 k0) (SH_r sh3 rb6) ?_
  refine e_cN 8 rfl ?_
  refine e_ldI g1 ?_
  refine e_cN 2 rfl ?_
  refine e_ifc ?_ ?_
  · obtain ⟨q9, rfl⟩ : ∃ q, n = q + 1 := ⟨n - 1, by omega⟩
    refine u_X5_setStage_20 ?_
    unfold bX5_setStage_20
    refine e_cN 0 rfl ?_
    exact t_21 q9 (by omega) _ _ x0 _ 0 8 b5 g0 k0 g1 (by omega) (by omega) kb7 sh3 ir4 (by omega)
  · refine e_cN 1 rfl ?_
    exact t_21 n (by omega) _ _ x0 _ 1 8 b5 g0 k0 g1 (by omega) (by omega) kb7 sh3 ir4 (by omega)
theorem B_X5_setStage_21 {Q : Option Value → MM → Prop} {S0 : MM} {n : Nat} (hT : TY S0) (K : ∀ S', SH [6, 7] S0 S' → IR S' → Q none S') (t_40 : ∀ k, k ≤ n → P_X5_setStage_40 Q S0 k) : P_X5_setStage_21 Q S0 (n + 1) := by
  intro lv S x0 w1 is0 is1 xs2 g0 k0 g1 hs0 hs1 ks2 sh ir hF
  refine u_X5_setStage_21 ?_
  unfold bX5_setStage_21
  refine And.intro (SH_k sh ks2) (And.intro ⟨by decide, by decide⟩ (z_X6_setBits (TY_SH hT sh) ir (SH_k sh ks2) (show is0 < 2 by omega) (fun S1 s2 ir3 => ?_)))
  have sh4 := SH.tr sh s2 (by decide)
  refine e_ldA g0 ?_
  obtain ⟨b5, rb6, kb7, nb8⟩ := hT.1 x0 6 0 7 0 k0 rfl
  refine e_gR (SH_k sh4 k0) (SH_r sh4 rb6) ?_
  refine e_cN 16 rfl ?_
  refine e_ldI g1 ?_
  refine e_cN 3 rfl ?_
  refine e_ifc ?_ ?_
  · obtain ⟨q9, rfl⟩ : ∃ q, n = q + 1 := ⟨n - 1, by omega⟩
    refine u_X5_setStage_39 ?_
    unfold bX5_setStage_39
    refine e_cN 0 rfl ?_
    exact t_40 q9 (by omega) _ _ x0 _ 0 16 b5 g0 k0 g1 (by omega) (by omega) kb7 sh4 ir3 (by omega)
  · refine e_cN 1 rfl ?_
    exact t_40 n (by omega) _ _ x0 _ 1 16 b5 g0 k0 g1 (by omega) (by omega) kb7 sh4 ir3 (by omega)
theorem B_X5_setStage_40 {Q : Option Value → MM → Prop} {S0 : MM} {n : Nat} (hT : TY S0) (K : ∀ S', SH [6, 7] S0 S' → IR S' → Q none S')  : P_X5_setStage_40 Q S0 (n + 1) := by
  intro lv S x0 w1 is0 is1 xs2 g0 k0 g1 hs0 hs1 ks2 sh ir hF
  refine u_X5_setStage_40 ?_
  unfold bX5_setStage_40
  refine And.intro (SH_k sh ks2) (And.intro ⟨by decide, by decide⟩ (z_X6_setBits (TY_SH hT sh) ir (SH_k sh ks2) (show is0 < 2 by omega) (fun S1 s2 ir3 => ?_)))
  have sh4 := SH.tr sh s2 (by decide)
  refine e_ldA g0 ?_
  obtain ⟨b5, rb6, kb7, nb8⟩ := hT.1 x0 6 0 7 0 k0 rfl
  refine e_gR (SH_k sh4 k0) (SH_r sh4 rb6) ?_
  refine e_cN 32 rfl ?_
  refine e_ldI g1 ?_
  refine e_cN 4 rfl ?_
  refine e_ifc ?_ ?_
  · obtain ⟨q9, rfl⟩ : ∃ q, n = q + 1 := ⟨n - 1, by omega⟩
    refine u_X5_setStage_58 ?_
    unfold bX5_setStage_58
    refine e_cN 0 rfl ?_
    obtain ⟨q10, rfl⟩ : ∃ q, q9 = q + 1 := ⟨q9 - 1, by omega⟩
    refine u_X5_setStage_59 ?_
    unfold bX5_setStage_59
    refine And.intro (SH_k sh4 kb7) (And.intro ⟨by decide, by decide⟩ (z_X6_setBits (TY_SH hT sh4) ir3 (SH_k sh4 kb7) (show 0 < 2 by omega) (fun S11 s12 ir13 => ?_)))
    have sh14 := SH.tr sh4 s12 (by decide)
    exact e_rV (K _ sh14 ir13)
  · refine e_cN 1 rfl ?_
    obtain ⟨q15, rfl⟩ : ∃ q, n = q + 1 := ⟨n - 1, by omega⟩
    refine u_X5_setStage_59 ?_
    unfold bX5_setStage_59
    refine And.intro (SH_k sh4 kb7) (And.intro ⟨by decide, by decide⟩ (z_X6_setBits (TY_SH hT sh4) ir3 (SH_k sh4 kb7) (show 1 < 2 by omega) (fun S16 s17 ir18 => ?_)))
    have sh19 := SH.tr sh4 s17 (by decide)
    exact e_rV (K _ sh19 ir18)
theorem A_X5_setStage {Q : Option Value → MM → Prop} {S0 : MM} (hT : TY S0) (K : ∀ S', SH [6, 7] S0 S' → IR S' → Q none S') : ∀ n k, k ≤ n → P_X5_setStage_0 Q S0 k ∧ P_X5_setStage_21 Q S0 k ∧ P_X5_setStage_40 Q S0 k := by
  intro n
  induction n with
  | zero =>
    intro k hk
    have e : k = 0 := by omega
    subst e
    exact ⟨(fun lv S x0 w1 _ _ _ _ _ hF => absurd hF (by omega)), (fun lv S x0 w1 is0 is1 xs2 _ _ _ _ _ _ _ _ hF => absurd hF (by omega)), (fun lv S x0 w1 is0 is1 xs2 _ _ _ _ _ _ _ _ hF => absurd hF (by omega))⟩
  | succ n ih =>
    intro k hk
    by_cases hn : k ≤ n
    · exact ih k hn
    · have e : k = n + 1 := by omega
      subst e
      have T_0 : ∀ k, k ≤ n → P_X5_setStage_0 Q S0 k := fun k hk => (ih k hk).1
      have T_21 : ∀ k, k ≤ n → P_X5_setStage_21 Q S0 k := fun k hk => (ih k hk).2.1
      have T_40 : ∀ k, k ≤ n → P_X5_setStage_40 Q S0 k := fun k hk => (ih k hk).2.2
      exact ⟨B_X5_setStage_0 hT K T_21, B_X5_setStage_21 hT K T_40, B_X5_setStage_40 hT K ⟩
theorem z_X5_setStage {Q : Option Value → MM → Prop} {S0 : MM} {x0 : Nat} {w1 : Int32} (hT : TY S0) (ir : IR S0) (k0 : sK S0 x0 = 6) (K : ∀ S', SH [6, 7] S0 S' → IR S' → Q none S') : wX5_setStage [.ref x0, .int w1] S0 Q := by
  exact Exists.intro 93 ((A_X5_setStage hT K 93 93 (Nat.le_refl _)).1 _ S0 x0 w1 rfl k0 rfl SH.rf ir (by omega))
theorem u_X5_becomeLit_0 {Q : Option Value → MM → Prop} {n : Nat} {lv : Lv} {st : List Value} {S : MM} {c z : Nat} (h : bX5_becomeLit_0 Q (wpn (kX5_becomeLit Q) n) lv st S c z) : wpn (kX5_becomeLit Q) (n + 1) 0 lv st S c z := h
theorem z_X5_becomeLit {Q : Option Value → MM → Prop} {S0 : MM} {x0 : Nat} (hT : TY S0) (ir : IR S0) (k0 : sK S0 x0 = 6) (K : ∀ S', SH [6, 7] S0 S' → IR S' → Q none S') : wX5_becomeLit [.ref x0] S0 Q := by
  have sh : SH [6, 7] S0 S0 := SH.rf
  refine Exists.intro 40 (u_X5_becomeLit_0 ?_)
  unfold bX5_becomeLit_0
  refine e_ldA rfl ?_
  refine e_cN 1 rfl ?_
  refine y_tI (SH_k sh k0) sh ir (by decide) (by decide) (fun N e => nomatch (show (none : Option Nat) = some N from e)) (fun S1 he2 sh3 ir4 => ?_)
  refine e_ldA rfl ?_
  refine e_cN 3 rfl ?_
  refine y_tI (SH_k sh3 k0) sh3 ir4 (by decide) (by decide) (fun N e => nomatch (show (none : Option Nat) = some N from e)) (fun S5 he6 sh7 ir8 => ?_)
  refine e_ldA rfl ?_
  obtain ⟨b9, rb10, kb11, nb12⟩ := hT.1 x0 6 1 7 0 k0 rfl
  refine e_gR (SH_k sh7 k0) (SH_r sh7 rb10) ?_
  refine e_cN 56 rfl ?_
  refine e_cN 0 rfl ?_
  refine And.intro (SH_k sh7 kb11) (And.intro ⟨by decide, by decide⟩ (z_X6_setBits (TY_SH hT sh7) ir8 (SH_k sh7 kb11) (show 0 < 2 by omega) (fun S13 s14 ir15 => ?_)))
  have sh16 := SH.tr sh7 s14 (by decide)
  refine e_ldA rfl ?_
  refine e_cI ?_
  refine y_tI (SH_k sh16 k0) sh16 ir15 (by decide) (by decide) (fun N e => nomatch (show (none : Option Nat) = some N from e)) (fun S17 he18 sh19 ir20 => ?_)
  exact e_rV (K _ sh19 ir20)
theorem u_X5_becomeDark_0 {Q : Option Value → MM → Prop} {n : Nat} {lv : Lv} {st : List Value} {S : MM} {c z : Nat} (h : bX5_becomeDark_0 Q (wpn (kX5_becomeDark Q) n) lv st S c z) : wpn (kX5_becomeDark Q) (n + 1) 0 lv st S c z := h
theorem z_X5_becomeDark {Q : Option Value → MM → Prop} {S0 : MM} {x0 : Nat} (hT : TY S0) (ir : IR S0) (k0 : sK S0 x0 = 6) (K : ∀ S', SH [6, 7] S0 S' → IR S' → Q none S') : wX5_becomeDark [.ref x0] S0 Q := by
  have sh : SH [6, 7] S0 S0 := SH.rf
  refine Exists.intro 40 (u_X5_becomeDark_0 ?_)
  unfold bX5_becomeDark_0
  refine e_ldA rfl ?_
  refine e_cN 0 rfl ?_
  refine y_tI (SH_k sh k0) sh ir (by decide) (by decide) (fun N e => nomatch (show (none : Option Nat) = some N from e)) (fun S1 he2 sh3 ir4 => ?_)
  refine e_ldA rfl ?_
  refine e_cN 0 rfl ?_
  refine y_tI (SH_k sh3 k0) sh3 ir4 (by decide) (by decide) (fun N e => nomatch (show (none : Option Nat) = some N from e)) (fun S5 he6 sh7 ir8 => ?_)
  refine e_ldA rfl ?_
  obtain ⟨b9, rb10, kb11, nb12⟩ := hT.1 x0 6 1 7 0 k0 rfl
  refine e_gR (SH_k sh7 k0) (SH_r sh7 rb10) ?_
  refine And.intro (SH_k sh7 kb11) (And.intro ⟨by decide, by decide⟩ (z_X6_clear (TY_SH hT sh7) ir8 (SH_k sh7 kb11) (fun S13 s14 ir15 => ?_)))
  have sh16 := SH.tr sh7 s14 (by decide)
  exact e_rV (K _ sh16 ir15)
theorem u_X5_hear_0 {Q : Option Value → MM → Prop} {n : Nat} {lv : Lv} {st : List Value} {S : MM} {c z : Nat} (h : bX5_hear_0 Q (wpn (kX5_hear Q) n) lv st S c z) : wpn (kX5_hear Q) (n + 1) 0 lv st S c z := h
theorem u_X5_hear_48 {Q : Option Value → MM → Prop} {n : Nat} {lv : Lv} {st : List Value} {S : MM} {c z : Nat} (h : bX5_hear_48 Q (wpn (kX5_hear Q) n) lv st S c z) : wpn (kX5_hear Q) (n + 1) 48 lv st S c z := h
theorem u_X5_hear_49 {Q : Option Value → MM → Prop} {n : Nat} {lv : Lv} {st : List Value} {S : MM} {c z : Nat} (h : bX5_hear_49 Q (wpn (kX5_hear Q) n) lv st S c z) : wpn (kX5_hear Q) (n + 1) 49 lv st S c z := h
theorem u_X5_hear_64 {Q : Option Value → MM → Prop} {n : Nat} {lv : Lv} {st : List Value} {S : MM} {c z : Nat} (h : bX5_hear_64 Q (wpn (kX5_hear Q) n) lv st S c z) : wpn (kX5_hear Q) (n + 1) 64 lv st S c z := h
theorem u_X5_hear_85 {Q : Option Value → MM → Prop} {n : Nat} {lv : Lv} {st : List Value} {S : MM} {c z : Nat} (h : bX5_hear_85 Q (wpn (kX5_hear Q) n) lv st S c z) : wpn (kX5_hear Q) (n + 1) 85 lv st S c z := h
theorem u_X5_hear_87 {Q : Option Value → MM → Prop} {n : Nat} {lv : Lv} {st : List Value} {S : MM} {c z : Nat} (h : bX5_hear_87 Q (wpn (kX5_hear Q) n) lv st S c z) : wpn (kX5_hear Q) (n + 1) 87 lv st S c z := h
theorem u_X5_hear_109 {Q : Option Value → MM → Prop} {n : Nat} {lv : Lv} {st : List Value} {S : MM} {c z : Nat} (h : bX5_hear_109 Q (wpn (kX5_hear Q) n) lv st S c z) : wpn (kX5_hear Q) (n + 1) 109 lv st S c z := h
def P_X5_hear_0 (Q : Option Value → MM → Prop) (S0 : MM) (n : Nat) : Prop := ∀ (lv : Lv) (S : MM) (x0 : Nat) (x1 : Nat), lvg lv 0 = some (.ref x0) → sK S0 x0 = 6 → lvg lv 1 = some (.ref x1) → sK S0 x1 = 5 → SH [6, 7] S0 S → IR S → 155 ≤ n → wpn (kX5_hear Q) n 0 lv [] S 0 0
def P_X5_hear_49 (Q : Option Value → MM → Prop) (S0 : MM) (n : Nat) : Prop := ∀ (lv : Lv) (S : MM) (x0 : Nat) (x1 : Nat) (is0 : Nat), lvg lv 0 = some (.ref x0) → sK S0 x0 = 6 → lvg lv 1 = some (.ref x1) → sK S0 x1 = 5 → is0 < 2 → SH [6, 7] S0 S → IR S → 124 ≤ n → wpn (kX5_hear Q) n 49 lv [.int (nI is0)] S 0 0
def P_X5_hear_64 (Q : Option Value → MM → Prop) (S0 : MM) (n : Nat) : Prop := ∀ (lv : Lv) (S : MM) (x0 : Nat) (x1 : Nat) (i2 : Nat), lvg lv 0 = some (.ref x0) → sK S0 x0 = 6 → lvg lv 1 = some (.ref x1) → sK S0 x1 = 5 → lvg lv 2 = some (.int (nI i2)) → i2 < 2 → SH [6, 7] S0 S → IR S → 93 ≤ n → wpn (kX5_hear Q) n 64 lv [] S 0 0
def P_X5_hear_87 (Q : Option Value → MM → Prop) (S0 : MM) (n : Nat) : Prop := ∀ (lv : Lv) (S : MM) (x0 : Nat) (x1 : Nat) (i2 : Nat) (is0 : Nat) (xs1 : Nat), lvg lv 0 = some (.ref x0) → sK S0 x0 = 6 → lvg lv 1 = some (.ref x1) → sK S0 x1 = 5 → lvg lv 2 = some (.int (nI i2)) → i2 < 2 → is0 < 91 → sK S0 xs1 = 6 → SH [6, 7] S0 S → IR S → 62 ≤ n → wpn (kX5_hear Q) n 87 lv [.int (nI is0), .ref xs1] S 0 0
def P_X5_hear_109 (Q : Option Value → MM → Prop) (S0 : MM) (n : Nat) : Prop := ∀ (lv : Lv) (S : MM) (x0 : Nat) (x1 : Nat) (i2 : Nat), lvg lv 0 = some (.ref x0) → sK S0 x0 = 6 → lvg lv 1 = some (.ref x1) → sK S0 x1 = 5 → lvg lv 2 = some (.int (nI i2)) → i2 < 2 → SH [6, 7] S0 S → IR S → 31 ≤ n → wpn (kX5_hear Q) n 109 lv [] S 0 0
theorem B_X5_hear_0 {Q : Option Value → MM → Prop} {S0 : MM} {n : Nat} (hT : TY S0) (K : ∀ S', SH [6, 7] S0 S' → IR S' → Q none S') (t_49 : ∀ k, k ≤ n → P_X5_hear_49 Q S0 k) : P_X5_hear_0 Q S0 (n + 1) := by
  intro lv S x0 x1 g0 k0 g1 k1 sh ir hF
  refine u_X5_hear_0 ?_
  unfold bX5_hear_0
  refine e_ldA g0 ?_
  obtain ⟨b1, rb2, kb3, nb4⟩ := hT.1 x0 6 1 7 0 k0 rfl
  refine e_gR (SH_k sh k0) (SH_r sh rb2) ?_
  refine e_ldA g1 ?_
  obtain ⟨b5, rb6, kb7, nb8⟩ := hT.1 x1 5 0 7 0 k1 rfl
  refine e_gR (SH_k sh k1) (SH_r sh rb6) ?_
  refine And.intro (SH_k sh kb3) (And.intro ⟨by decide, by decide⟩ (z_X6_copyFrom (TY_SH hT sh) ir (SH_k sh kb3) (SH_k sh kb7) (fun S9 s10 ir11 => ?_)))
  have sh12 := SH.tr sh s10 (by decide)
  refine e_ldA g1 ?_
  obtain ⟨b13, rb14, kb15, nb16⟩ := hT.1 x1 5 1 7 0 k1 rfl
  refine e_gR (SH_k sh12 k1) (SH_r sh12 rb14) ?_
  refine e_ldA g0 ?_
  obtain ⟨b17, rb18, kb19, nb20⟩ := hT.1 x0 6 0 7 0 k0 rfl
  refine e_gR (SH_k sh12 k0) (SH_r sh12 rb18) ?_
  refine And.intro (SH_k sh12 kb15) (And.intro ⟨by decide, by decide⟩ (z_X6_namesSame (TY_SH hT sh12) ir11 (SH_k sh12 kb15) (SH_k sh12 kb19) (fun n25 S21 s22 ir23 hn26 => ?_)))
  have sh24 := SH.tr sh12 s22 (by decide)
  refine e_ifN (by omega) (fun h27 => ?_) (fun h27 => ?_)
  · obtain ⟨q28, rfl⟩ : ∃ q, n = q + 1 := ⟨n - 1, by omega⟩
    refine u_X5_hear_48 ?_
    unfold bX5_hear_48
    refine e_cN 0 rfl ?_
    exact t_49 q28 (by omega) _ _ x0 x1 0 g0 k0 g1 k1 (by omega) sh24 ir23 (by omega)
  · refine e_ldA g1 ?_
    refine e_gR (SH_k sh24 k1) (SH_r sh24 rb14) ?_
    refine e_cN 4 rfl ?_
    refine And.intro (SH_k sh24 kb15) (And.intro ⟨by decide, by decide⟩ (z_X6_has (TY_SH hT sh24) ir23 (SH_k sh24 kb15) (fun n33 S29 s30 ir31 hn34 => ?_)))
    have sh32 := SH.tr sh24 s30 (by decide)
    refine e_ldA g0 ?_
    refine e_gR (SH_k sh32 k0) (SH_r sh32 rb18) ?_
    refine e_cN 4 rfl ?_
    refine And.intro (SH_k sh32 kb19) (And.intro ⟨by decide, by decide⟩ (z_X6_has (TY_SH hT sh32) ir31 (SH_k sh32 kb19) (fun n39 S35 s36 ir37 hn40 => ?_)))
    have sh38 := SH.tr sh32 s36 (by decide)
    refine e_eq (by omega) (by omega) (fun h41 => ?_) (fun h41 => ?_)
    · refine e_cN 1 rfl ?_
      exact t_49 n (by omega) _ _ x0 x1 1 g0 k0 g1 k1 (by omega) sh38 ir37 (by omega)
    · obtain ⟨q42, rfl⟩ : ∃ q, n = q + 1 := ⟨n - 1, by omega⟩
      refine u_X5_hear_48 ?_
      unfold bX5_hear_48
      refine e_cN 0 rfl ?_
      exact t_49 q42 (by omega) _ _ x0 x1 0 g0 k0 g1 k1 (by omega) sh38 ir37 (by omega)
theorem B_X5_hear_49 {Q : Option Value → MM → Prop} {S0 : MM} {n : Nat} (hT : TY S0) (K : ∀ S', SH [6, 7] S0 S' → IR S' → Q none S') (t_64 : ∀ k, k ≤ n → P_X5_hear_64 Q S0 k) : P_X5_hear_49 Q S0 (n + 1) := by
  intro lv S x0 x1 is0 g0 k0 g1 k1 hs0 sh ir hF
  refine u_X5_hear_49 ?_
  unfold bX5_hear_49
  refine e_stI ?_
  refine e_ldI lvg_self ?_
  refine e_ifN (by omega) (fun h1 => ?_) (fun h1 => ?_)
  · refine e_ldA (lvg_ne g0 rfl (by decide)) ?_
    obtain ⟨b2, rb3, kb4, nb5⟩ := hT.1 x0 6 1 7 0 k0 rfl
    refine e_gR (SH_k sh k0) (SH_r sh rb3) ?_
    refine e_cN 8 rfl ?_
    refine e_cN 0 rfl ?_
    refine And.intro (SH_k sh kb4) (And.intro ⟨by decide, by decide⟩ (z_X6_setBits (TY_SH hT sh) ir (SH_k sh kb4) (show 0 < 2 by omega) (fun S6 s7 ir8 => ?_)))
    have sh9 := SH.tr sh s7 (by decide)
    exact t_64 n (by omega) _ _ x0 x1 is0 (lvg_ne g0 rfl (by decide)) k0 (lvg_ne g1 rfl (by decide)) k1 lvg_self (by omega) sh9 ir8 (by omega)
  · exact t_64 n (by omega) _ _ x0 x1 is0 (lvg_ne g0 rfl (by decide)) k0 (lvg_ne g1 rfl (by decide)) k1 lvg_self (by omega) sh ir (by omega)
theorem B_X5_hear_64 {Q : Option Value → MM → Prop} {S0 : MM} {n : Nat} (hT : TY S0) (K : ∀ S', SH [6, 7] S0 S' → IR S' → Q none S') (t_87 : ∀ k, k ≤ n → P_X5_hear_87 Q S0 k) : P_X5_hear_64 Q S0 (n + 1) := by
  intro lv S x0 x1 i2 g0 k0 g1 k1 g2 h2 sh ir hF
  refine u_X5_hear_64 ?_
  unfold bX5_hear_64
  refine e_ldA g0 ?_
  refine e_cN 2 rfl ?_
  refine y_tI (SH_k sh k0) sh ir (by decide) (by decide) (fun N e => nomatch (show (none : Option Nat) = some N from e)) (fun S1 he2 sh3 ir4 => ?_)
  refine e_ldA g0 ?_
  refine e_ldA g0 ?_
  obtain ⟨b5, rb6, kb7, nb8⟩ := hT.1 x0 6 0 7 0 k0 rfl
  refine e_gR (SH_k sh3 k0) (SH_r sh3 rb6) ?_
  refine e_cN 2 rfl ?_
  refine And.intro (SH_k sh3 kb7) (And.intro ⟨by decide, by decide⟩ (z_X6_has (TY_SH hT sh3) ir4 (SH_k sh3 kb7) (fun n13 S9 s10 ir11 hn14 => ?_)))
  have sh12 := SH.tr sh3 s10 (by decide)
  refine e_ifN (by omega) (fun h15 => ?_) (fun h15 => ?_)
  · obtain ⟨q16, rfl⟩ : ∃ q, n = q + 1 := ⟨n - 1, by omega⟩
    refine u_X5_hear_85 ?_
    unfold bX5_hear_85
    refine e_cN 90 rfl ?_
    exact t_87 q16 (by omega) _ _ x0 x1 i2 90 x0 g0 k0 g1 k1 g2 (by omega) (by omega) k0 sh12 ir11 (by omega)
  · refine e_cN 3 rfl ?_
    exact t_87 n (by omega) _ _ x0 x1 i2 3 x0 g0 k0 g1 k1 g2 (by omega) (by omega) k0 sh12 ir11 (by omega)
theorem B_X5_hear_87 {Q : Option Value → MM → Prop} {S0 : MM} {n : Nat} (hT : TY S0) (K : ∀ S', SH [6, 7] S0 S' → IR S' → Q none S') (t_109 : ∀ k, k ≤ n → P_X5_hear_109 Q S0 k) : P_X5_hear_87 Q S0 (n + 1) := by
  intro lv S x0 x1 i2 is0 xs1 g0 k0 g1 k1 g2 h2 hs0 ks1 sh ir hF
  refine u_X5_hear_87 ?_
  unfold bX5_hear_87
  refine y_tI (SH_k sh ks1) sh ir (by decide) (by decide) (fun N e => nomatch (show (none : Option Nat) = some N from e)) (fun S1 he2 sh3 ir4 => ?_)
  refine e_ldA g1 ?_
  obtain ⟨b5, rb6, kb7, nb8⟩ := hT.1 x1 5 1 7 0 k1 rfl
  refine e_gR (SH_k sh3 k1) (SH_r sh3 rb6) ?_
  refine e_ldA g0 ?_
  obtain ⟨b9, rb10, kb11, nb12⟩ := hT.1 x0 6 0 7 0 k0 rfl
  refine e_gR (SH_k sh3 k0) (SH_r sh3 rb10) ?_
  refine And.intro (SH_k sh3 kb7) (And.intro ⟨by decide, by decide⟩ (z_X6_isSame (TY_SH hT sh3) ir4 (SH_k sh3 kb7) (SH_k sh3 kb11) (fun n17 S13 s14 ir15 hn18 => ?_)))
  have sh16 := SH.tr sh3 s14 (by decide)
  refine e_ifN (by omega) (fun h19 => ?_) (fun h19 => ?_)
  · refine e_ldA g0 ?_
    refine e_cN 1 rfl ?_
    refine y_tZ (SH_k sh16 k0) (by omega) sh16 ir15 (by decide) (by decide) (fun N e => nomatch (show (none : Option Nat) = some N from e)) (fun S20 he21 sh22 ir23 => ?_)
    exact t_109 n (by omega) _ _ x0 x1 i2 g0 k0 g1 k1 g2 (by omega) sh22 ir23 (by omega)
  · exact t_109 n (by omega) _ _ x0 x1 i2 g0 k0 g1 k1 g2 (by omega) sh16 ir15 (by omega)
theorem B_X5_hear_109 {Q : Option Value → MM → Prop} {S0 : MM} {n : Nat} (hT : TY S0) (K : ∀ S', SH [6, 7] S0 S' → IR S' → Q none S')  : P_X5_hear_109 Q S0 (n + 1) := by
  intro lv S x0 x1 i2 g0 k0 g1 k1 g2 h2 sh ir hF
  refine u_X5_hear_109 ?_
  unfold bX5_hear_109
  refine e_ldA g0 ?_
  refine e_cN 1 rfl ?_
  refine y_tZ (SH_k sh k0) (by omega) sh ir (by decide) (by decide) (fun N e => nomatch (show (none : Option Nat) = some N from e)) (fun S1 he2 sh3 ir4 => ?_)
  refine e_ldA g0 ?_
  refine e_duA ?_
  refine e_gI (SH_k sh3 k0) (fun v5 hv6 => ?_)
  refine e_cN 1 rfl ?_
  refine e_bopU (fun r7 => ?_)
  refine y_tI (SH_k sh3 k0) sh3 ir4 (by decide) (by decide) (fun N e => nomatch (show (none : Option Nat) = some N from e)) (fun S8 he9 sh10 ir11 => ?_)
  exact e_rV (K _ sh10 ir11)
theorem A_X5_hear {Q : Option Value → MM → Prop} {S0 : MM} (hT : TY S0) (K : ∀ S', SH [6, 7] S0 S' → IR S' → Q none S') : ∀ n k, k ≤ n → P_X5_hear_0 Q S0 k ∧ P_X5_hear_49 Q S0 k ∧ P_X5_hear_64 Q S0 k ∧ P_X5_hear_87 Q S0 k ∧ P_X5_hear_109 Q S0 k := by
  intro n
  induction n with
  | zero =>
    intro k hk
    have e : k = 0 := by omega
    subst e
    exact ⟨(fun lv S x0 x1 _ _ _ _ _ _ hF => absurd hF (by omega)), (fun lv S x0 x1 is0 _ _ _ _ _ _ _ hF => absurd hF (by omega)), (fun lv S x0 x1 i2 _ _ _ _ _ _ _ _ hF => absurd hF (by omega)), (fun lv S x0 x1 i2 is0 xs1 _ _ _ _ _ _ _ _ _ _ hF => absurd hF (by omega)), (fun lv S x0 x1 i2 _ _ _ _ _ _ _ _ hF => absurd hF (by omega))⟩
  | succ n ih =>
    intro k hk
    by_cases hn : k ≤ n
    · exact ih k hn
    · have e : k = n + 1 := by omega
      subst e
      have T_0 : ∀ k, k ≤ n → P_X5_hear_0 Q S0 k := fun k hk => (ih k hk).1
      have T_49 : ∀ k, k ≤ n → P_X5_hear_49 Q S0 k := fun k hk => (ih k hk).2.1
      have T_64 : ∀ k, k ≤ n → P_X5_hear_64 Q S0 k := fun k hk => (ih k hk).2.2.1
      have T_87 : ∀ k, k ≤ n → P_X5_hear_87 Q S0 k := fun k hk => (ih k hk).2.2.2.1
      have T_109 : ∀ k, k ≤ n → P_X5_hear_109 Q S0 k := fun k hk => (ih k hk).2.2.2.2
      exact ⟨B_X5_hear_0 hT K T_49, B_X5_hear_49 hT K T_64, B_X5_hear_64 hT K T_87, B_X5_hear_87 hT K T_109, B_X5_hear_109 hT K ⟩
theorem z_X5_hear {Q : Option Value → MM → Prop} {S0 : MM} {x0 : Nat} {x1 : Nat} (hT : TY S0) (ir : IR S0) (k0 : sK S0 x0 = 6) (k1 : sK S0 x1 = 5) (K : ∀ S', SH [6, 7] S0 S' → IR S' → Q none S') : wX5_hear [.ref x0, .ref x1] S0 Q := by
  exact Exists.intro 155 ((A_X5_hear hT K 155 155 (Nat.le_refl _)).1 _ S0 x0 x1 rfl k0 rfl k1 SH.rf ir (by omega))
theorem u_X5_age_0 {Q : Option Value → MM → Prop} {n : Nat} {lv : Lv} {st : List Value} {S : MM} {c z : Nat} (h : bX5_age_0 Q (wpn (kX5_age Q) n) lv st S c z) : wpn (kX5_age Q) (n + 1) 0 lv st S c z := h
theorem u_X5_age_30 {Q : Option Value → MM → Prop} {n : Nat} {lv : Lv} {st : List Value} {S : MM} {c z : Nat} (h : bX5_age_30 Q (wpn (kX5_age Q) n) lv st S c z) : wpn (kX5_age Q) (n + 1) 30 lv st S c z := h
theorem u_X5_age_31 {Q : Option Value → MM → Prop} {n : Nat} {lv : Lv} {st : List Value} {S : MM} {c z : Nat} (h : bX5_age_31 Q (wpn (kX5_age Q) n) lv st S c z) : wpn (kX5_age Q) (n + 1) 31 lv st S c z := h
theorem u_X5_age_49 {Q : Option Value → MM → Prop} {n : Nat} {lv : Lv} {st : List Value} {S : MM} {c z : Nat} (h : bX5_age_49 Q (wpn (kX5_age Q) n) lv st S c z) : wpn (kX5_age Q) (n + 1) 49 lv st S c z := h
theorem u_X5_age_80 {Q : Option Value → MM → Prop} {n : Nat} {lv : Lv} {st : List Value} {S : MM} {c z : Nat} (h : bX5_age_80 Q (wpn (kX5_age Q) n) lv st S c z) : wpn (kX5_age Q) (n + 1) 80 lv st S c z := h
theorem u_X5_age_92 {Q : Option Value → MM → Prop} {n : Nat} {lv : Lv} {st : List Value} {S : MM} {c z : Nat} (h : bX5_age_92 Q (wpn (kX5_age Q) n) lv st S c z) : wpn (kX5_age Q) (n + 1) 92 lv st S c z := h
def P_X5_age_0 (Q : Option Value → MM → Prop) (S0 : MM) (n : Nat) : Prop := ∀ (lv : Lv) (S : MM) (x0 : Nat), lvg lv 0 = some (.ref x0) → sK S0 x0 = 6 → SH [6, 7] S0 S → IR S → 62 ≤ n → wpn (kX5_age Q) n 0 lv [] S 0 0
def P_X5_age_31 (Q : Option Value → MM → Prop) (S0 : MM) (n : Nat) : Prop := ∀ (lv : Lv) (S : MM) (x0 : Nat) (w1 : Int32), lvg lv 0 = some (.ref x0) → sK S0 x0 = 6 → lvg lv 1 = some (.int w1) → SH [6, 7] S0 S → IR S → 31 ≤ n → wpn (kX5_age Q) n 31 lv [] S 0 0
theorem B_X5_age_0 {Q : Option Value → MM → Prop} {S0 : MM} {n : Nat} (hT : TY S0) (K : ∀ S', SH [6, 7] S0 S' → IR S' → Q none S') (t_31 : ∀ k, k ≤ n → P_X5_age_31 Q S0 k) : P_X5_age_0 Q S0 (n + 1) := by
  intro lv S x0 g0 k0 sh ir hF
  refine u_X5_age_0 ?_
  unfold bX5_age_0
  refine e_ldA g0 ?_
  refine e_gI (SH_k sh k0) (fun v1 hv2 => ?_)
  refine e_stI ?_
  refine e_ldA (lvg_ne g0 rfl (by decide)) ?_
  refine e_cN 0 rfl ?_
  refine y_tZ (SH_k sh k0) (by omega) sh ir (by decide) (by decide) (fun N e => nomatch (show (none : Option Nat) = some N from e)) (fun S3 he4 sh5 ir6 => ?_)
  refine e_ldI lvg_self ?_
  refine e_if0 (fun h7 => ?_) (fun h7 => ?_)
  · refine e_ldA (lvg_ne g0 rfl (by decide)) ?_
    refine e_gI (SH_k sh5 k0) (fun v8 hv9 => ?_)
    refine e_cN 1 rfl ?_
    refine e_ifc ?_ ?_
    · exact t_31 n (by omega) _ _ x0 _ (lvg_ne g0 rfl (by decide)) k0 lvg_self sh5 ir6 (by omega)
    · refine e_ldA (lvg_ne g0 rfl (by decide)) ?_
      refine e_gV (v := v8) (SH_k sh5 k0) hv9 ?_
      refine e_cN 2 rfl ?_
      refine e_ifc ?_ ?_
      · exact t_31 n (by omega) _ _ x0 _ (lvg_ne g0 rfl (by decide)) k0 lvg_self sh5 ir6 (by omega)
      · obtain ⟨q10, rfl⟩ : ∃ q, n = q + 1 := ⟨n - 1, by omega⟩
        refine u_X5_age_30 ?_
        unfold bX5_age_30
        exact e_rV (K _ sh5 ir6)
  · obtain ⟨q11, rfl⟩ : ∃ q, n = q + 1 := ⟨n - 1, by omega⟩
    refine u_X5_age_30 ?_
    unfold bX5_age_30
    exact e_rV (K _ sh5 ir6)
theorem B_X5_age_31 {Q : Option Value → MM → Prop} {S0 : MM} {n : Nat} (hT : TY S0) (K : ∀ S', SH [6, 7] S0 S' → IR S' → Q none S')  : P_X5_age_31 Q S0 (n + 1) := by
  intro lv S x0 w1 g0 k0 g1 sh ir hF
  refine u_X5_age_31 ?_
  unfold bX5_age_31
  refine e_ldA g0 ?_
  refine e_duA ?_
  refine e_gI (SH_k sh k0) (fun v1 hv2 => ?_)
  refine e_cN 1 rfl ?_
  refine e_bopU (fun r3 => ?_)
  refine y_tI (SH_k sh k0) sh ir (by decide) (by decide) (fun N e => nomatch (show (none : Option Nat) = some N from e)) (fun S4 he5 sh6 ir7 => ?_)
  refine e_ldA g0 ?_
  refine e_gI (SH_k sh6 k0) (fun v8 hv9 => ?_)
  refine e_ifz ?_ ?_
  · obtain ⟨q10, rfl⟩ : ∃ q, n = q + 1 := ⟨n - 1, by omega⟩
    refine u_X5_age_49 ?_
    unfold bX5_age_49
    refine e_ldA g0 ?_
    refine e_gI (SH_k sh6 k0) (fun v11 hv12 => ?_)
    refine e_cN 2 rfl ?_
    refine e_ifc ?_ ?_
    · refine e_ldA g0 ?_
      refine e_cN 1 rfl ?_
      refine y_tI (SH_k sh6 k0) sh6 ir7 (by decide) (by decide) (fun N e => nomatch (show (none : Option Nat) = some N from e)) (fun S13 he14 sh15 ir16 => ?_)
      refine e_ldA g0 ?_
      refine e_cN 3 rfl ?_
      refine y_tI (SH_k sh15 k0) sh15 ir16 (by decide) (by decide) (fun N e => nomatch (show (none : Option Nat) = some N from e)) (fun S17 he18 sh19 ir20 => ?_)
      refine e_ldA g0 ?_
      obtain ⟨b21, rb22, kb23, nb24⟩ := hT.1 x0 6 1 7 0 k0 rfl
      refine e_gR (SH_k sh19 k0) (SH_r sh19 rb22) ?_
      refine e_cN 56 rfl ?_
      refine e_cN 0 rfl ?_
      refine And.intro (SH_k sh19 kb23) (And.intro ⟨by decide, by decide⟩ (z_X6_setBits (TY_SH hT sh19) ir20 (SH_k sh19 kb23) (show 0 < 2 by omega) (fun S25 s26 ir27 => ?_)))
      have sh28 := SH.tr sh19 s26 (by decide)
      obtain ⟨q29, rfl⟩ : ∃ q, q10 = q + 1 := ⟨q10 - 1, by omega⟩
      refine u_X5_age_92 ?_
      unfold bX5_age_92
      exact e_rV (K _ sh28 ir27)
    · obtain ⟨q30, rfl⟩ : ∃ q, q10 = q + 1 := ⟨q10 - 1, by omega⟩
      refine u_X5_age_80 ?_
      unfold bX5_age_80
      refine e_ldA g0 ?_
      refine e_cN 3 rfl ?_
      refine y_tI (SH_k sh6 k0) sh6 ir7 (by decide) (by decide) (fun N e => nomatch (show (none : Option Nat) = some N from e)) (fun S31 he32 sh33 ir34 => ?_)
      refine e_ldA g0 ?_
      obtain ⟨b35, rb36, kb37, nb38⟩ := hT.1 x0 6 1 7 0 k0 rfl
      refine e_gR (SH_k sh33 k0) (SH_r sh33 rb36) ?_
      refine And.intro (SH_k sh33 kb37) (And.intro ⟨by decide, by decide⟩ (z_X6_clear (TY_SH hT sh33) ir34 (SH_k sh33 kb37) (fun S39 s40 ir41 => ?_)))
      have sh42 := SH.tr sh33 s40 (by decide)
      obtain ⟨q43, rfl⟩ : ∃ q, q30 = q + 1 := ⟨q30 - 1, by omega⟩
      refine u_X5_age_92 ?_
      unfold bX5_age_92
      exact e_rV (K _ sh42 ir41)
  · exact e_rV (K _ sh6 ir7)
theorem A_X5_age {Q : Option Value → MM → Prop} {S0 : MM} (hT : TY S0) (K : ∀ S', SH [6, 7] S0 S' → IR S' → Q none S') : ∀ n k, k ≤ n → P_X5_age_0 Q S0 k ∧ P_X5_age_31 Q S0 k := by
  intro n
  induction n with
  | zero =>
    intro k hk
    have e : k = 0 := by omega
    subst e
    exact ⟨(fun lv S x0 _ _ _ _ hF => absurd hF (by omega)), (fun lv S x0 w1 _ _ _ _ _ hF => absurd hF (by omega))⟩
  | succ n ih =>
    intro k hk
    by_cases hn : k ≤ n
    · exact ih k hn
    · have e : k = n + 1 := by omega
      subst e
      have T_0 : ∀ k, k ≤ n → P_X5_age_0 Q S0 k := fun k hk => (ih k hk).1
      have T_31 : ∀ k, k ≤ n → P_X5_age_31 Q S0 k := fun k hk => (ih k hk).2
      exact ⟨B_X5_age_0 hT K T_31, B_X5_age_31 hT K ⟩
theorem z_X5_age {Q : Option Value → MM → Prop} {S0 : MM} {x0 : Nat} (hT : TY S0) (ir : IR S0) (k0 : sK S0 x0 = 6) (K : ∀ S', SH [6, 7] S0 S' → IR S' → Q none S') : wX5_age [.ref x0] S0 Q := by
  exact Exists.intro 62 ((A_X5_age hT K 62 62 (Nat.le_refl _)).1 _ S0 x0 rfl k0 SH.rf ir (by omega))
theorem u_X5_fits_0 {Q : Option Value → MM → Prop} {n : Nat} {lv : Lv} {st : List Value} {S : MM} {c z : Nat} (h : bX5_fits_0 Q (wpn (kX5_fits Q) n) lv st S c z) : wpn (kX5_fits Q) (n + 1) 0 lv st S c z := h
theorem u_X5_fits_16 {Q : Option Value → MM → Prop} {n : Nat} {lv : Lv} {st : List Value} {S : MM} {c z : Nat} (h : bX5_fits_16 Q (wpn (kX5_fits Q) n) lv st S c z) : wpn (kX5_fits Q) (n + 1) 16 lv st S c z := h
theorem u_X5_fits_61 {Q : Option Value → MM → Prop} {n : Nat} {lv : Lv} {st : List Value} {S : MM} {c z : Nat} (h : bX5_fits_61 Q (wpn (kX5_fits Q) n) lv st S c z) : wpn (kX5_fits Q) (n + 1) 61 lv st S c z := h
theorem u_X5_fits_62 {Q : Option Value → MM → Prop} {n : Nat} {lv : Lv} {st : List Value} {S : MM} {c z : Nat} (h : bX5_fits_62 Q (wpn (kX5_fits Q) n) lv st S c z) : wpn (kX5_fits Q) (n + 1) 62 lv st S c z := h
def P_X5_fits_0 (Q : Option Value → MM → Prop) (S0 : MM) (n : Nat) : Prop := ∀ (lv : Lv) (S : MM) (x0 : Nat), lvg lv 0 = some (.ref x0) → sK S0 x0 = 6 → SH [] S0 S → IR S → 62 ≤ n → wpn (kX5_fits Q) n 0 lv [] S 0 0
def P_X5_fits_16 (Q : Option Value → MM → Prop) (S0 : MM) (n : Nat) : Prop := ∀ (lv : Lv) (S : MM) (x0 : Nat), lvg lv 0 = some (.ref x0) → sK S0 x0 = 6 → SH [] S0 S → IR S → 31 ≤ n → wpn (kX5_fits Q) n 16 lv [] S 0 0
theorem B_X5_fits_0 {Q : Option Value → MM → Prop} {S0 : MM} {n : Nat} (hT : TY S0) (K : ∀ j S', SH [] S0 S' → IR S' → j < 2 → Q (some (.int (nI j))) S') (t_16 : ∀ k, k ≤ n → P_X5_fits_16 Q S0 k) : P_X5_fits_0 Q S0 (n + 1) := by
  intro lv S x0 g0 k0 sh ir hF
  refine u_X5_fits_0 ?_
  unfold bX5_fits_0
  refine e_ldA g0 ?_
  refine e_gI (SH_k sh k0) (fun v1 hv2 => ?_)
  refine e_cN 1 rfl ?_
  refine e_ifc ?_ ?_
  · exact t_16 n (by omega) _ _ x0 g0 k0 sh ir (by omega)
  · refine e_ldA g0 ?_
    refine e_gV (v := v1) (SH_k sh k0) hv2 ?_
    refine e_cN 2 rfl ?_
    refine e_ifc ?_ ?_
    · exact t_16 n (by omega) _ _ x0 g0 k0 sh ir (by omega)
    · obtain ⟨q3, rfl⟩ : ∃ q, n = q + 1 := ⟨n - 1, by omega⟩
      refine u_X5_fits_61 ?_
      unfold bX5_fits_61
      refine e_cN 0 rfl ?_
      obtain ⟨q4, rfl⟩ : ∃ q, q3 = q + 1 := ⟨q3 - 1, by omega⟩
      refine u_X5_fits_62 ?_
      unfold bX5_fits_62
      exact e_rZ (by omega) (K 0 _ sh ir (by omega))
theorem B_X5_fits_16 {Q : Option Value → MM → Prop} {S0 : MM} {n : Nat} (hT : TY S0) (K : ∀ j S', SH [] S0 S' → IR S' → j < 2 → Q (some (.int (nI j))) S')  : P_X5_fits_16 Q S0 (n + 1) := by
  intro lv S x0 g0 k0 sh ir hF
  refine u_X5_fits_16 ?_
  unfold bX5_fits_16
  refine e_ldA g0 ?_
  obtain ⟨b1, rb2, kb3, nb4⟩ := hT.1 x0 6 0 7 0 k0 rfl
  refine e_gR (SH_k sh k0) (SH_r sh rb2) ?_
  refine e_gI (SH_k sh kb3) (fun v5 hv6 => ?_)
  refine e_ifz ?_ ?_
  · obtain ⟨q7, rfl⟩ : ∃ q, n = q + 1 := ⟨n - 1, by omega⟩
    refine u_X5_fits_61 ?_
    unfold bX5_fits_61
    refine e_cN 0 rfl ?_
    obtain ⟨q8, rfl⟩ : ∃ q, q7 = q + 1 := ⟨q7 - 1, by omega⟩
    refine u_X5_fits_62 ?_
    unfold bX5_fits_62
    exact e_rZ (by omega) (K 0 _ sh ir (by omega))
  · refine e_ldA g0 ?_
    obtain ⟨b9, rb10, kb11, nb12⟩ := hT.1 x0 6 1 7 0 k0 rfl
    refine e_gR (SH_k sh k0) (SH_r sh rb10) ?_
    refine e_gI (SH_k sh kb11) (fun v13 hv14 => ?_)
    refine e_ifz ?_ ?_
    · obtain ⟨q15, rfl⟩ : ∃ q, n = q + 1 := ⟨n - 1, by omega⟩
      refine u_X5_fits_61 ?_
      unfold bX5_fits_61
      refine e_cN 0 rfl ?_
      obtain ⟨q16, rfl⟩ : ∃ q, q15 = q + 1 := ⟨q15 - 1, by omega⟩
      refine u_X5_fits_62 ?_
      unfold bX5_fits_62
      exact e_rZ (by omega) (K 0 _ sh ir (by omega))
    · refine e_ldA g0 ?_
      refine e_gR (SH_k sh k0) (SH_r sh rb10) ?_
      refine e_gI (SH_k sh kb11) (fun v17 hv18 => ?_)
      refine e_ifz ?_ ?_
      · obtain ⟨q19, rfl⟩ : ∃ q, n = q + 1 := ⟨n - 1, by omega⟩
        refine u_X5_fits_61 ?_
        unfold bX5_fits_61
        refine e_cN 0 rfl ?_
        obtain ⟨q20, rfl⟩ : ∃ q, q19 = q + 1 := ⟨q19 - 1, by omega⟩
        refine u_X5_fits_62 ?_
        unfold bX5_fits_62
        exact e_rZ (by omega) (K 0 _ sh ir (by omega))
      · refine e_ldA g0 ?_
        refine e_gR (SH_k sh k0) (SH_r sh rb10) ?_
        refine e_cN 4 rfl ?_
        refine And.intro (SH_k sh kb11) (And.intro ⟨by decide, by decide⟩ (z_X6_has (TY_SH hT sh) ir (SH_k sh kb11) (fun n25 S21 s22 ir23 hn26 => ?_)))
        have sh24 := SH.tr sh s22 (by decide)
        refine e_ifN (by omega) (fun h27 => ?_) (fun h27 => ?_)
        · obtain ⟨q28, rfl⟩ : ∃ q, n = q + 1 := ⟨n - 1, by omega⟩
          refine u_X5_fits_61 ?_
          unfold bX5_fits_61
          refine e_cN 0 rfl ?_
          obtain ⟨q29, rfl⟩ : ∃ q, q28 = q + 1 := ⟨q28 - 1, by omega⟩
          refine u_X5_fits_62 ?_
          unfold bX5_fits_62
          exact e_rZ (by omega) (K 0 _ sh24 ir23 (by omega))
        · refine e_cN 1 rfl ?_
          obtain ⟨q30, rfl⟩ : ∃ q, n = q + 1 := ⟨n - 1, by omega⟩
          refine u_X5_fits_62 ?_
          unfold bX5_fits_62
          exact e_rZ (by omega) (K 1 _ sh24 ir23 (by omega))
theorem A_X5_fits {Q : Option Value → MM → Prop} {S0 : MM} (hT : TY S0) (K : ∀ j S', SH [] S0 S' → IR S' → j < 2 → Q (some (.int (nI j))) S') : ∀ n k, k ≤ n → P_X5_fits_0 Q S0 k ∧ P_X5_fits_16 Q S0 k := by
  intro n
  induction n with
  | zero =>
    intro k hk
    have e : k = 0 := by omega
    subst e
    exact ⟨(fun lv S x0 _ _ _ _ hF => absurd hF (by omega)), (fun lv S x0 _ _ _ _ hF => absurd hF (by omega))⟩
  | succ n ih =>
    intro k hk
    by_cases hn : k ≤ n
    · exact ih k hn
    · have e : k = n + 1 := by omega
      subst e
      have T_0 : ∀ k, k ≤ n → P_X5_fits_0 Q S0 k := fun k hk => (ih k hk).1
      have T_16 : ∀ k, k ≤ n → P_X5_fits_16 Q S0 k := fun k hk => (ih k hk).2
      exact ⟨B_X5_fits_0 hT K T_16, B_X5_fits_16 hT K ⟩
theorem z_X5_fits {Q : Option Value → MM → Prop} {S0 : MM} {x0 : Nat} (hT : TY S0) (ir : IR S0) (k0 : sK S0 x0 = 6) (K : ∀ j S', SH [] S0 S' → IR S' → j < 2 → Q (some (.int (nI j))) S') : wX5_fits [.ref x0] S0 Q := by
  exact Exists.intro 62 ((A_X5_fits hT K 62 62 (Nat.le_refl _)).1 _ S0 x0 rfl k0 SH.rf ir (by omega))
theorem u_X5_isLike_0 {Q : Option Value → MM → Prop} {n : Nat} {lv : Lv} {st : List Value} {S : MM} {c z : Nat} (h : bX5_isLike_0 Q (wpn (kX5_isLike Q) n) lv st S c z) : wpn (kX5_isLike Q) (n + 1) 0 lv st S c z := h
theorem u_X5_isLike_55 {Q : Option Value → MM → Prop} {n : Nat} {lv : Lv} {st : List Value} {S : MM} {c z : Nat} (h : bX5_isLike_55 Q (wpn (kX5_isLike Q) n) lv st S c z) : wpn (kX5_isLike Q) (n + 1) 55 lv st S c z := h
theorem u_X5_isLike_56 {Q : Option Value → MM → Prop} {n : Nat} {lv : Lv} {st : List Value} {S : MM} {c z : Nat} (h : bX5_isLike_56 Q (wpn (kX5_isLike Q) n) lv st S c z) : wpn (kX5_isLike Q) (n + 1) 56 lv st S c z := h
theorem z_X5_isLike {Q : Option Value → MM → Prop} {S0 : MM} {x0 : Nat} {x1 : Nat} (hT : TY S0) (ir : IR S0) (k0 : sK S0 x0 = 6) (k1 : sK S0 x1 = 6) (K : ∀ j S', SH [] S0 S' → IR S' → j < 2 → Q (some (.int (nI j))) S') : wX5_isLike [.ref x0, .ref x1] S0 Q := by
  have sh : SH [] S0 S0 := SH.rf
  refine Exists.intro 40 (u_X5_isLike_0 ?_)
  unfold bX5_isLike_0
  refine e_ldA rfl ?_
  obtain ⟨b1, rb2, kb3, nb4⟩ := hT.1 x0 6 0 7 0 k0 rfl
  refine e_gR (SH_k sh k0) (SH_r sh rb2) ?_
  refine e_gI (SH_k sh kb3) (fun v5 hv6 => ?_)
  refine e_ldA rfl ?_
  obtain ⟨b7, rb8, kb9, nb10⟩ := hT.1 x1 6 0 7 0 k1 rfl
  refine e_gR (SH_k sh k1) (SH_r sh rb8) ?_
  refine e_gI (SH_k sh kb9) (fun v11 hv12 => ?_)
  refine e_ifc ?_ ?_
  · refine e_ldA rfl ?_
    obtain ⟨b13, rb14, kb15, nb16⟩ := hT.1 x0 6 1 7 0 k0 rfl
    refine e_gR (SH_k sh k0) (SH_r sh rb14) ?_
    refine e_gI (SH_k sh kb15) (fun v17 hv18 => ?_)
    refine e_ldA rfl ?_
    obtain ⟨b19, rb20, kb21, nb22⟩ := hT.1 x1 6 1 7 0 k1 rfl
    refine e_gR (SH_k sh k1) (SH_r sh rb20) ?_
    refine e_gI (SH_k sh kb21) (fun v23 hv24 => ?_)
    refine e_ifc ?_ ?_
    · refine e_ldA rfl ?_
      refine e_gR (SH_k sh k0) (SH_r sh rb14) ?_
      refine e_gI (SH_k sh kb15) (fun v25 hv26 => ?_)
      refine e_ldA rfl ?_
      refine e_gR (SH_k sh k1) (SH_r sh rb20) ?_
      refine e_gI (SH_k sh kb21) (fun v27 hv28 => ?_)
      refine e_ifc ?_ ?_
      · refine e_cN 1 rfl ?_
        refine u_X5_isLike_56 ?_
        unfold bX5_isLike_56
        exact e_rZ (by omega) (K 1 _ sh ir (by omega))
      · refine u_X5_isLike_55 ?_
        unfold bX5_isLike_55
        refine e_cN 0 rfl ?_
        refine u_X5_isLike_56 ?_
        unfold bX5_isLike_56
        exact e_rZ (by omega) (K 0 _ sh ir (by omega))
    · refine u_X5_isLike_55 ?_
      unfold bX5_isLike_55
      refine e_cN 0 rfl ?_
      refine u_X5_isLike_56 ?_
      unfold bX5_isLike_56
      exact e_rZ (by omega) (K 0 _ sh ir (by omega))
  · refine u_X5_isLike_55 ?_
    unfold bX5_isLike_55
    refine e_cN 0 rfl ?_
    refine u_X5_isLike_56 ?_
    unfold bX5_isLike_56
    exact e_rZ (by omega) (K 0 _ sh ir (by omega))
theorem u_X5_isStillBound_0 {Q : Option Value → MM → Prop} {n : Nat} {lv : Lv} {st : List Value} {S : MM} {c z : Nat} (h : bX5_isStillBound_0 Q (wpn (kX5_isStillBound Q) n) lv st S c z) : wpn (kX5_isStillBound Q) (n + 1) 0 lv st S c z := h
theorem u_X5_isStillBound_46 {Q : Option Value → MM → Prop} {n : Nat} {lv : Lv} {st : List Value} {S : MM} {c z : Nat} (h : bX5_isStillBound_46 Q (wpn (kX5_isStillBound Q) n) lv st S c z) : wpn (kX5_isStillBound Q) (n + 1) 46 lv st S c z := h
theorem u_X5_isStillBound_47 {Q : Option Value → MM → Prop} {n : Nat} {lv : Lv} {st : List Value} {S : MM} {c z : Nat} (h : bX5_isStillBound_47 Q (wpn (kX5_isStillBound Q) n) lv st S c z) : wpn (kX5_isStillBound Q) (n + 1) 47 lv st S c z := h
theorem z_X5_isStillBound {Q : Option Value → MM → Prop} {S0 : MM} {x0 : Nat} (hT : TY S0) (ir : IR S0) (k0 : sK S0 x0 = 6) (K : ∀ j S', SH [] S0 S' → IR S' → j < 2 → Q (some (.int (nI j))) S') : wX5_isStillBound [.ref x0] S0 Q := by
  have sh : SH [] S0 S0 := SH.rf
  refine Exists.intro 40 (u_X5_isStillBound_0 ?_)
  unfold bX5_isStillBound_0
  refine e_ldA rfl ?_
  obtain ⟨b1, rb2, kb3, nb4⟩ := hT.1 x0 6 0 7 0 k0 rfl
  refine e_gR (SH_k sh k0) (SH_r sh rb2) ?_
  refine e_gI (SH_k sh kb3) (fun v5 hv6 => ?_)
  refine e_ldA rfl ?_
  refine e_gI (SH_k sh k0) (fun v7 hv8 => ?_)
  refine e_ifc ?_ ?_
  · refine e_ldA rfl ?_
    obtain ⟨b9, rb10, kb11, nb12⟩ := hT.1 x0 6 1 7 0 k0 rfl
    refine e_gR (SH_k sh k0) (SH_r sh rb10) ?_
    refine e_gI (SH_k sh kb11) (fun v13 hv14 => ?_)
    refine e_ldA rfl ?_
    refine e_gI (SH_k sh k0) (fun v15 hv16 => ?_)
    refine e_ifc ?_ ?_
    · refine e_ldA rfl ?_
      refine e_gR (SH_k sh k0) (SH_r sh rb10) ?_
      refine e_gI (SH_k sh kb11) (fun v17 hv18 => ?_)
      refine e_ldA rfl ?_
      refine e_gI (SH_k sh k0) (fun v19 hv20 => ?_)
      refine e_ifc ?_ ?_
      · refine e_cN 1 rfl ?_
        refine u_X5_isStillBound_47 ?_
        unfold bX5_isStillBound_47
        exact e_rZ (by omega) (K 1 _ sh ir (by omega))
      · refine u_X5_isStillBound_46 ?_
        unfold bX5_isStillBound_46
        refine e_cN 0 rfl ?_
        refine u_X5_isStillBound_47 ?_
        unfold bX5_isStillBound_47
        exact e_rZ (by omega) (K 0 _ sh ir (by omega))
    · refine u_X5_isStillBound_46 ?_
      unfold bX5_isStillBound_46
      refine e_cN 0 rfl ?_
      refine u_X5_isStillBound_47 ?_
      unfold bX5_isStillBound_47
      exact e_rZ (by omega) (K 0 _ sh ir (by omega))
  · refine u_X5_isStillBound_46 ?_
    unfold bX5_isStillBound_46
    refine e_cN 0 rfl ?_
    refine u_X5_isStillBound_47 ?_
    unfold bX5_isStillBound_47
    exact e_rZ (by omega) (K 0 _ sh ir (by omega))
theorem u_X5_bind_0 {Q : Option Value → MM → Prop} {n : Nat} {lv : Lv} {st : List Value} {S : MM} {c z : Nat} (h : bX5_bind_0 Q (wpn (kX5_bind Q) n) lv st S c z) : wpn (kX5_bind Q) (n + 1) 0 lv st S c z := h
theorem z_X5_bind {Q : Option Value → MM → Prop} {S0 : MM} {x0 : Nat} (hT : TY S0) (ir : IR S0) (k0 : sK S0 x0 = 6) (K : ∀ S', SH [6] S0 S' → IR S' → Q none S') : wX5_bind [.ref x0] S0 Q := by
  have sh : SH [6] S0 S0 := SH.rf
  refine Exists.intro 40 (u_X5_bind_0 ?_)
  unfold bX5_bind_0
  refine e_ldA rfl ?_
  refine e_ldA rfl ?_
  obtain ⟨b1, rb2, kb3, nb4⟩ := hT.1 x0 6 0 7 0 k0 rfl
  refine e_gR (SH_k sh k0) (SH_r sh rb2) ?_
  refine e_gI (SH_k sh kb3) (fun v5 hv6 => ?_)
  refine y_tI (SH_k sh k0) sh ir (by decide) (by decide) (fun N e => nomatch (show (none : Option Nat) = some N from e)) (fun S7 he8 sh9 ir10 => ?_)
  refine e_ldA rfl ?_
  refine e_ldA rfl ?_
  obtain ⟨b11, rb12, kb13, nb14⟩ := hT.1 x0 6 1 7 0 k0 rfl
  refine e_gR (SH_k sh9 k0) (SH_r sh9 rb12) ?_
  refine e_gI (SH_k sh9 kb13) (fun v15 hv16 => ?_)
  refine y_tI (SH_k sh9 k0) sh9 ir10 (by decide) (by decide) (fun N e => nomatch (show (none : Option Nat) = some N from e)) (fun S17 he18 sh19 ir20 => ?_)
  refine e_ldA rfl ?_
  refine e_ldA rfl ?_
  refine e_gR (SH_k sh19 k0) (SH_r sh19 rb12) ?_
  refine e_gI (SH_k sh19 kb13) (fun v21 hv22 => ?_)
  refine y_tI (SH_k sh19 k0) sh19 ir20 (by decide) (by decide) (fun N e => nomatch (show (none : Option Nat) = some N from e)) (fun S23 he24 sh25 ir26 => ?_)
  refine e_ldA rfl ?_
  refine e_cN 2 rfl ?_
  refine y_tI (SH_k sh25 k0) sh25 ir26 (by decide) (by decide) (fun N e => nomatch (show (none : Option Nat) = some N from e)) (fun S27 he28 sh29 ir30 => ?_)
  exact e_rV (K _ sh29 ir30)
theorem u_X5_step_0 {Q : Option Value → MM → Prop} {n : Nat} {lv : Lv} {st : List Value} {S : MM} {c z : Nat} (h : bX5_step_0 Q (wpn (kX5_step Q) n) lv st S c z) : wpn (kX5_step Q) (n + 1) 0 lv st S c z := h
theorem u_X5_step_21 {Q : Option Value → MM → Prop} {n : Nat} {lv : Lv} {st : List Value} {S : MM} {c z : Nat} (h : bX5_step_21 Q (wpn (kX5_step Q) n) lv st S c z) : wpn (kX5_step Q) (n + 1) 21 lv st S c z := h
theorem u_X5_step_23 {Q : Option Value → MM → Prop} {n : Nat} {lv : Lv} {st : List Value} {S : MM} {c z : Nat} (h : bX5_step_23 Q (wpn (kX5_step Q) n) lv st S c z) : wpn (kX5_step Q) (n + 1) 23 lv st S c z := h
theorem u_X5_step_36 {Q : Option Value → MM → Prop} {n : Nat} {lv : Lv} {st : List Value} {S : MM} {c z : Nat} (h : bX5_step_36 Q (wpn (kX5_step Q) n) lv st S c z) : wpn (kX5_step Q) (n + 1) 36 lv st S c z := h
theorem u_X5_step_65 {Q : Option Value → MM → Prop} {n : Nat} {lv : Lv} {st : List Value} {S : MM} {c z : Nat} (h : bX5_step_65 Q (wpn (kX5_step Q) n) lv st S c z) : wpn (kX5_step Q) (n + 1) 65 lv st S c z := h
theorem u_X5_step_66 {Q : Option Value → MM → Prop} {n : Nat} {lv : Lv} {st : List Value} {S : MM} {c z : Nat} (h : bX5_step_66 Q (wpn (kX5_step Q) n) lv st S c z) : wpn (kX5_step Q) (n + 1) 66 lv st S c z := h
theorem u_X5_step_67 {Q : Option Value → MM → Prop} {n : Nat} {lv : Lv} {st : List Value} {S : MM} {c z : Nat} (h : bX5_step_67 Q (wpn (kX5_step Q) n) lv st S c z) : wpn (kX5_step Q) (n + 1) 67 lv st S c z := h
theorem u_X5_step_81 {Q : Option Value → MM → Prop} {n : Nat} {lv : Lv} {st : List Value} {S : MM} {c z : Nat} (h : bX5_step_81 Q (wpn (kX5_step Q) n) lv st S c z) : wpn (kX5_step Q) (n + 1) 81 lv st S c z := h
theorem u_X5_step_91 {Q : Option Value → MM → Prop} {n : Nat} {lv : Lv} {st : List Value} {S : MM} {c z : Nat} (h : bX5_step_91 Q (wpn (kX5_step Q) n) lv st S c z) : wpn (kX5_step Q) (n + 1) 91 lv st S c z := h
theorem u_X5_step_107 {Q : Option Value → MM → Prop} {n : Nat} {lv : Lv} {st : List Value} {S : MM} {c z : Nat} (h : bX5_step_107 Q (wpn (kX5_step Q) n) lv st S c z) : wpn (kX5_step Q) (n + 1) 107 lv st S c z := h
theorem u_X5_step_108 {Q : Option Value → MM → Prop} {n : Nat} {lv : Lv} {st : List Value} {S : MM} {c z : Nat} (h : bX5_step_108 Q (wpn (kX5_step Q) n) lv st S c z) : wpn (kX5_step Q) (n + 1) 108 lv st S c z := h
def P_X5_step_0 (Q : Option Value → MM → Prop) (S0 : MM) (n : Nat) : Prop := ∀ (lv : Lv) (S : MM) (x0 : Nat), lvg lv 0 = some (.ref x0) → sK S0 x0 = 6 → SH [6] S0 S → IR S → 62 ≤ n → wpn (kX5_step Q) n 0 lv [] S 0 0
def P_X5_step_23 (Q : Option Value → MM → Prop) (S0 : MM) (n : Nat) : Prop := ∀ (lv : Lv) (S : MM) (x0 : Nat), lvg lv 0 = some (.ref x0) → sK S0 x0 = 6 → SH [6] S0 S → IR S → 31 ≤ n → wpn (kX5_step Q) n 23 lv [] S 0 0
theorem B_X5_step_0 {Q : Option Value → MM → Prop} {S0 : MM} {n : Nat} (hT : TY S0) (K : ∀ r S', SH [6] S0 S' → IR S' → Q (some (.int r)) S') (t_23 : ∀ k, k ≤ n → P_X5_step_23 Q S0 k) : P_X5_step_0 Q S0 (n + 1) := by
  intro lv S x0 g0 k0 sh ir hF
  refine u_X5_step_0 ?_
  unfold bX5_step_0
  refine e_ldA g0 ?_
  refine e_gI (SH_k sh k0) (fun v1 hv2 => ?_)
  refine e_if0 (fun h3 => ?_) (fun h3 => ?_)
  · obtain ⟨q4, rfl⟩ : ∃ q, n = q + 1 := ⟨n - 1, by omega⟩
    refine u_X5_step_21 ?_
    unfold bX5_step_21
    refine e_cN 0 rfl ?_
    exact e_rI (K _ _ sh ir)
  · refine e_ldA g0 ?_
    refine e_gI (SH_k sh k0) (fun v5 hv6 => ?_)
    refine e_if0 (fun h7 => ?_) (fun h7 => ?_)
    · exact t_23 n (by omega) _ _ x0 g0 k0 sh ir (by omega)
    · refine e_ldA g0 ?_
      refine And.intro (SH_k sh k0) (And.intro ⟨by decide, by decide⟩ (z_X5_isStillBound (TY_SH hT sh) ir (SH_k sh k0) (fun n12 S8 s9 ir10 hn13 => ?_)))
      have sh11 := SH.tr sh s9 (by decide)
      refine e_ifN (by omega) (fun h14 => ?_) (fun h14 => ?_)
      · obtain ⟨q15, rfl⟩ : ∃ q, n = q + 1 := ⟨n - 1, by omega⟩
        refine u_X5_step_21 ?_
        unfold bX5_step_21
        refine e_cN 0 rfl ?_
        exact e_rI (K _ _ sh11 ir10)
      · exact t_23 n (by omega) _ _ x0 g0 k0 sh11 ir10 (by omega)
theorem B_X5_step_23 {Q : Option Value → MM → Prop} {S0 : MM} {n : Nat} (hT : TY S0) (K : ∀ r S', SH [6] S0 S' → IR S' → Q (some (.int r)) S')  : P_X5_step_23 Q S0 (n + 1) := by
  intro lv S x0 g0 k0 sh ir hF
  refine u_X5_step_23 ?_
  unfold bX5_step_23
  refine e_ldA g0 ?_
  refine e_gI (SH_k sh k0) (fun v1 hv2 => ?_)
  refine e_if0 (fun h3 => ?_) (fun h3 => ?_)
  · refine e_ldA g0 ?_
    refine And.intro (SH_k sh k0) (And.intro ⟨by decide, by decide⟩ (z_X5_bind (TY_SH hT sh) ir (SH_k sh k0) (fun S4 s5 ir6 => ?_)))
    have sh7 := SH.tr sh s5 (by decide)
    refine e_cN 1 rfl ?_
    exact e_rI (K _ _ sh7 ir6)
  · obtain ⟨q8, rfl⟩ : ∃ q, n = q + 1 := ⟨n - 1, by omega⟩
    refine u_X5_step_36 ?_
    unfold bX5_step_36
    refine e_ldA g0 ?_
    refine e_gV (v := v1) (SH_k sh k0) hv2 ?_
    refine e_cN 1 rfl ?_
    refine e_ifc ?_ ?_
    · refine e_ldA g0 ?_
      refine e_duA ?_
      refine e_gI (SH_k sh k0) (fun v9 hv10 => ?_)
      refine e_cN 1 rfl ?_
      refine e_bopU (fun r11 => ?_)
      refine y_tI (SH_k sh k0) sh ir (by decide) (by decide) (fun N e => nomatch (show (none : Option Nat) = some N from e)) (fun S12 he13 sh14 ir15 => ?_)
      refine e_ldA g0 ?_
      refine e_gI (SH_k sh14 k0) (fun v16 hv17 => ?_)
      refine e_ifz ?_ ?_
      · obtain ⟨q18, rfl⟩ : ∃ q, q8 = q + 1 := ⟨q8 - 1, by omega⟩
        refine u_X5_step_65 ?_
        unfold bX5_step_65
        refine e_cN 2 rfl ?_
        obtain ⟨q19, rfl⟩ : ∃ q, q18 = q + 1 := ⟨q18 - 1, by omega⟩
        refine u_X5_step_66 ?_
        unfold bX5_step_66
        exact e_rI (K _ _ sh14 ir15)
      · refine e_cN 1 rfl ?_
        obtain ⟨q20, rfl⟩ : ∃ q, q8 = q + 1 := ⟨q8 - 1, by omega⟩
        refine u_X5_step_66 ?_
        unfold bX5_step_66
        exact e_rI (K _ _ sh14 ir15)
    · obtain ⟨q21, rfl⟩ : ∃ q, q8 = q + 1 := ⟨q8 - 1, by omega⟩
      refine u_X5_step_67 ?_
      unfold bX5_step_67
      refine e_ldA g0 ?_
      obtain ⟨b22, rb23, kb24, nb25⟩ := hT.1 x0 6 1 7 0 k0 rfl
      refine e_gR (SH_k sh k0) (SH_r sh rb23) ?_
      refine e_cN 8 rfl ?_
      refine And.intro (SH_k sh kb24) (And.intro ⟨by decide, by decide⟩ (z_X6_has (TY_SH hT sh) ir (SH_k sh kb24) (fun n30 S26 s27 ir28 hn31 => ?_)))
      have sh29 := SH.tr sh s27 (by decide)
      refine e_ifN (by omega) (fun h32 => ?_) (fun h32 => ?_)
      · refine e_cN 2 rfl ?_
        exact e_rI (K _ _ sh29 ir28)
      · obtain ⟨q33, rfl⟩ : ∃ q, q21 = q + 1 := ⟨q21 - 1, by omega⟩
        refine u_X5_step_81 ?_
        unfold bX5_step_81
        refine e_ldA g0 ?_
        refine e_gV (v := v1) (SH_k sh29 k0) (SH_i s27 (SH_k sh k0) (by decide) (by decide) hv2) ?_
        refine e_cN 2 rfl ?_
        refine e_ifc ?_ ?_
        · refine e_cN 3 rfl ?_
          exact e_rI (K _ _ sh29 ir28)
        · obtain ⟨q34, rfl⟩ : ∃ q, q33 = q + 1 := ⟨q33 - 1, by omega⟩
          refine u_X5_step_91 ?_
          unfold bX5_step_91
          refine e_ldA g0 ?_
          refine e_gR (SH_k sh29 k0) (SH_r sh29 rb23) ?_
          refine e_cN 16 rfl ?_
          refine And.intro (SH_k sh29 kb24) (And.intro ⟨by decide, by decide⟩ (z_X6_has (TY_SH hT sh29) ir28 (SH_k sh29 kb24) (fun n39 S35 s36 ir37 hn40 => ?_)))
          have sh38 := SH.tr sh29 s36 (by decide)
          refine e_ifN (by omega) (fun h41 => ?_) (fun h41 => ?_)
          · obtain ⟨q42, rfl⟩ : ∃ q, q34 = q + 1 := ⟨q34 - 1, by omega⟩
            refine u_X5_step_107 ?_
            unfold bX5_step_107
            refine e_cN 3 rfl ?_
            obtain ⟨q43, rfl⟩ : ∃ q, q42 = q + 1 := ⟨q42 - 1, by omega⟩
            refine u_X5_step_108 ?_
            unfold bX5_step_108
            exact e_rI (K _ _ sh38 ir37)
          · refine e_cN 4 rfl ?_
            obtain ⟨q44, rfl⟩ : ∃ q, q34 = q + 1 := ⟨q34 - 1, by omega⟩
            refine u_X5_step_108 ?_
            unfold bX5_step_108
            exact e_rI (K _ _ sh38 ir37)
theorem A_X5_step {Q : Option Value → MM → Prop} {S0 : MM} (hT : TY S0) (K : ∀ r S', SH [6] S0 S' → IR S' → Q (some (.int r)) S') : ∀ n k, k ≤ n → P_X5_step_0 Q S0 k ∧ P_X5_step_23 Q S0 k := by
  intro n
  induction n with
  | zero =>
    intro k hk
    have e : k = 0 := by omega
    subst e
    exact ⟨(fun lv S x0 _ _ _ _ hF => absurd hF (by omega)), (fun lv S x0 _ _ _ _ hF => absurd hF (by omega))⟩
  | succ n ih =>
    intro k hk
    by_cases hn : k ≤ n
    · exact ih k hn
    · have e : k = n + 1 := by omega
      subst e
      have T_0 : ∀ k, k ≤ n → P_X5_step_0 Q S0 k := fun k hk => (ih k hk).1
      have T_23 : ∀ k, k ≤ n → P_X5_step_23 Q S0 k := fun k hk => (ih k hk).2
      exact ⟨B_X5_step_0 hT K T_23, B_X5_step_23 hT K ⟩
theorem z_X5_step {Q : Option Value → MM → Prop} {S0 : MM} {x0 : Nat} (hT : TY S0) (ir : IR S0) (k0 : sK S0 x0 = 6) (K : ∀ r S', SH [6] S0 S' → IR S' → Q (some (.int r)) S') : wX5_step [.ref x0] S0 Q := by
  exact Exists.intro 62 ((A_X5_step hT K 62 62 (Nat.le_refl _)).1 _ S0 x0 rfl k0 SH.rf ir (by omega))
theorem u_X5_mustTell_0 {Q : Option Value → MM → Prop} {n : Nat} {lv : Lv} {st : List Value} {S : MM} {c z : Nat} (h : bX5_mustTell_0 Q (wpn (kX5_mustTell Q) n) lv st S c z) : wpn (kX5_mustTell Q) (n + 1) 0 lv st S c z := h
theorem u_X5_mustTell_29 {Q : Option Value → MM → Prop} {n : Nat} {lv : Lv} {st : List Value} {S : MM} {c z : Nat} (h : bX5_mustTell_29 Q (wpn (kX5_mustTell Q) n) lv st S c z) : wpn (kX5_mustTell Q) (n + 1) 29 lv st S c z := h
theorem u_X5_mustTell_31 {Q : Option Value → MM → Prop} {n : Nat} {lv : Lv} {st : List Value} {S : MM} {c z : Nat} (h : bX5_mustTell_31 Q (wpn (kX5_mustTell Q) n) lv st S c z) : wpn (kX5_mustTell Q) (n + 1) 31 lv st S c z := h
theorem u_X5_mustTell_60 {Q : Option Value → MM → Prop} {n : Nat} {lv : Lv} {st : List Value} {S : MM} {c z : Nat} (h : bX5_mustTell_60 Q (wpn (kX5_mustTell Q) n) lv st S c z) : wpn (kX5_mustTell Q) (n + 1) 60 lv st S c z := h
theorem u_X5_mustTell_62 {Q : Option Value → MM → Prop} {n : Nat} {lv : Lv} {st : List Value} {S : MM} {c z : Nat} (h : bX5_mustTell_62 Q (wpn (kX5_mustTell Q) n) lv st S c z) : wpn (kX5_mustTell Q) (n + 1) 62 lv st S c z := h
theorem u_X5_mustTell_85 {Q : Option Value → MM → Prop} {n : Nat} {lv : Lv} {st : List Value} {S : MM} {c z : Nat} (h : bX5_mustTell_85 Q (wpn (kX5_mustTell Q) n) lv st S c z) : wpn (kX5_mustTell Q) (n + 1) 85 lv st S c z := h
theorem u_X5_mustTell_86 {Q : Option Value → MM → Prop} {n : Nat} {lv : Lv} {st : List Value} {S : MM} {c z : Nat} (h : bX5_mustTell_86 Q (wpn (kX5_mustTell Q) n) lv st S c z) : wpn (kX5_mustTell Q) (n + 1) 86 lv st S c z := h
theorem u_X5_mustTell_102 {Q : Option Value → MM → Prop} {n : Nat} {lv : Lv} {st : List Value} {S : MM} {c z : Nat} (h : bX5_mustTell_102 Q (wpn (kX5_mustTell Q) n) lv st S c z) : wpn (kX5_mustTell Q) (n + 1) 102 lv st S c z := h
theorem u_X5_mustTell_103 {Q : Option Value → MM → Prop} {n : Nat} {lv : Lv} {st : List Value} {S : MM} {c z : Nat} (h : bX5_mustTell_103 Q (wpn (kX5_mustTell Q) n) lv st S c z) : wpn (kX5_mustTell Q) (n + 1) 103 lv st S c z := h
theorem u_X5_mustTell_110 {Q : Option Value → MM → Prop} {n : Nat} {lv : Lv} {st : List Value} {S : MM} {c z : Nat} (h : bX5_mustTell_110 Q (wpn (kX5_mustTell Q) n) lv st S c z) : wpn (kX5_mustTell Q) (n + 1) 110 lv st S c z := h
theorem u_X5_mustTell_111 {Q : Option Value → MM → Prop} {n : Nat} {lv : Lv} {st : List Value} {S : MM} {c z : Nat} (h : bX5_mustTell_111 Q (wpn (kX5_mustTell Q) n) lv st S c z) : wpn (kX5_mustTell Q) (n + 1) 111 lv st S c z := h
def P_X5_mustTell_0 (Q : Option Value → MM → Prop) (S0 : MM) (n : Nat) : Prop := ∀ (lv : Lv) (S : MM) (x0 : Nat) (w1 : Int32), lvg lv 0 = some (.ref x0) → sK S0 x0 = 6 → lvg lv 1 = some (.int w1) → SH [] S0 S → IR S → 93 ≤ n → wpn (kX5_mustTell Q) n 0 lv [] S 0 0
def P_X5_mustTell_31 (Q : Option Value → MM → Prop) (S0 : MM) (n : Nat) : Prop := ∀ (lv : Lv) (S : MM) (x0 : Nat) (w1 : Int32), lvg lv 0 = some (.ref x0) → sK S0 x0 = 6 → lvg lv 1 = some (.int w1) → SH [] S0 S → IR S → 62 ≤ n → wpn (kX5_mustTell Q) n 31 lv [] S 0 0
def P_X5_mustTell_86 (Q : Option Value → MM → Prop) (S0 : MM) (n : Nat) : Prop := ∀ (lv : Lv) (S : MM) (x0 : Nat) (w1 : Int32) (is0 : Nat), lvg lv 0 = some (.ref x0) → sK S0 x0 = 6 → lvg lv 1 = some (.int w1) → is0 < 2 → SH [] S0 S → IR S → 31 ≤ n → wpn (kX5_mustTell Q) n 86 lv [.int (nI is0)] S 0 0
theorem B_X5_mustTell_0 {Q : Option Value → MM → Prop} {S0 : MM} {n : Nat} (hT : TY S0) (K : ∀ j S', SH [] S0 S' → IR S' → j < 2 → Q (some (.int (nI j))) S') (t_31 : ∀ k, k ≤ n → P_X5_mustTell_31 Q S0 k) : P_X5_mustTell_0 Q S0 (n + 1) := by
  intro lv S x0 w1 g0 k0 g1 sh ir hF
  refine u_X5_mustTell_0 ?_
  unfold bX5_mustTell_0
  refine e_ldA g0 ?_
  refine And.intro (SH_k sh k0) (And.intro ⟨by decide, by decide⟩ (z_X5_isLit (TY_SH hT sh) ir (SH_k sh k0) (fun n5 S1 s2 ir3 hn6 => ?_)))
  have sh4 := SH.tr sh s2 (by decide)
  refine e_ifN (by omega) (fun h7 => ?_) (fun h7 => ?_)
  · obtain ⟨q8, rfl⟩ : ∃ q, n = q + 1 := ⟨n - 1, by omega⟩
    refine u_X5_mustTell_29 ?_
    unfold bX5_mustTell_29
    refine e_cN 0 rfl ?_
    exact e_rZ (by omega) (K 0 _ sh4 ir3 (by omega))
  · refine e_ldA g0 ?_
    obtain ⟨b9, rb10, kb11, nb12⟩ := hT.1 x0 6 0 7 0 k0 rfl
    refine e_gR (SH_k sh4 k0) (SH_r sh4 rb10) ?_
    refine e_cN 1 rfl ?_
    refine And.intro (SH_k sh4 kb11) (And.intro ⟨by decide, by decide⟩ (z_X6_has (TY_SH hT sh4) ir3 (SH_k sh4 kb11) (fun n17 S13 s14 ir15 hn18 => ?_)))
    have sh16 := SH.tr sh4 s14 (by decide)
    refine e_ifN (by omega) (fun h19 => ?_) (fun h19 => ?_)
    · refine e_ldA g0 ?_
      obtain ⟨b20, rb21, kb22, nb23⟩ := hT.1 x0 6 1 7 0 k0 rfl
      refine e_gR (SH_k sh16 k0) (SH_r sh16 rb21) ?_
      refine e_cN 1 rfl ?_
      refine And.intro (SH_k sh16 kb22) (And.intro ⟨by decide, by decide⟩ (z_X6_has (TY_SH hT sh16) ir15 (SH_k sh16 kb22) (fun n28 S24 s25 ir26 hn29 => ?_)))
      have sh27 := SH.tr sh16 s25 (by decide)
      refine e_ifN (by omega) (fun h30 => ?_) (fun h30 => ?_)
      · obtain ⟨q31, rfl⟩ : ∃ q, n = q + 1 := ⟨n - 1, by omega⟩
        refine u_X5_mustTell_29 ?_
        unfold bX5_mustTell_29
        refine e_cN 0 rfl ?_
        exact e_rZ (by omega) (K 0 _ sh27 ir26 (by omega))
      · exact t_31 n (by omega) _ _ x0 _ g0 k0 g1 sh27 ir26 (by omega)
    · exact t_31 n (by omega) _ _ x0 _ g0 k0 g1 sh16 ir15 (by omega)
theorem B_X5_mustTell_31 {Q : Option Value → MM → Prop} {S0 : MM} {n : Nat} (hT : TY S0) (K : ∀ j S', SH [] S0 S' → IR S' → j < 2 → Q (some (.int (nI j))) S') (t_86 : ∀ k, k ≤ n → P_X5_mustTell_86 Q S0 k) : P_X5_mustTell_31 Q S0 (n + 1) := by
  intro lv S x0 w1 g0 k0 g1 sh ir hF
  refine u_X5_mustTell_31 ?_
  unfold bX5_mustTell_31
  refine e_ldA g0 ?_
  refine e_gI (SH_k sh k0) (fun v1 hv2 => ?_)
  refine e_if0 (fun h3 => ?_) (fun h3 => ?_)
  · refine e_ldA g0 ?_
    refine e_gI (SH_k sh k0) (fun v4 hv5 => ?_)
    refine e_cI ?_
    refine e_ifc ?_ ?_
    · obtain ⟨q6, rfl⟩ : ∃ q, n = q + 1 := ⟨n - 1, by omega⟩
      refine u_X5_mustTell_60 ?_
      unfold bX5_mustTell_60
      refine e_cN 1 rfl ?_
      exact e_rZ (by omega) (K 1 _ sh ir (by omega))
    · refine e_ldA g0 ?_
      obtain ⟨b7, rb8, kb9, nb10⟩ := hT.1 x0 6 14 7 0 k0 rfl
      refine e_gR (SH_k sh k0) (SH_r sh rb8) ?_
      refine e_ldA g0 ?_
      obtain ⟨b11, rb12, kb13, nb14⟩ := hT.1 x0 6 0 7 0 k0 rfl
      refine e_gR (SH_k sh k0) (SH_r sh rb12) ?_
      refine And.intro (SH_k sh kb9) (And.intro ⟨by decide, by decide⟩ (z_X6_isSame (TY_SH hT sh) ir (SH_k sh kb9) (SH_k sh kb13) (fun n19 S15 s16 ir17 hn20 => ?_)))
      have sh18 := SH.tr sh s16 (by decide)
      refine e_ifN (by omega) (fun h21 => ?_) (fun h21 => ?_)
      · obtain ⟨q22, rfl⟩ : ∃ q, n = q + 1 := ⟨n - 1, by omega⟩
        refine u_X5_mustTell_60 ?_
        unfold bX5_mustTell_60
        refine e_cN 1 rfl ?_
        exact e_rZ (by omega) (K 1 _ sh18 ir17 (by omega))
      · obtain ⟨q23, rfl⟩ : ∃ q, n = q + 1 := ⟨n - 1, by omega⟩
        refine u_X5_mustTell_62 ?_
        unfold bX5_mustTell_62
        refine e_ldA g0 ?_
        refine e_gI (SH_k sh18 k0) (fun v24 hv25 => ?_)
        refine e_cN 2 rfl ?_
        refine e_ifc ?_ ?_
        · refine e_ldA g0 ?_
          obtain ⟨b26, rb27, kb28, nb29⟩ := hT.1 x0 6 1 7 0 k0 rfl
          refine e_gR (SH_k sh18 k0) (SH_r sh18 rb27) ?_
          refine e_cN 2 rfl ?_
          refine And.intro (SH_k sh18 kb28) (And.intro ⟨by decide, by decide⟩ (z_X6_has (TY_SH hT sh18) ir17 (SH_k sh18 kb28) (fun n34 S30 s31 ir32 hn35 => ?_)))
          have sh33 := SH.tr sh18 s31 (by decide)
          refine e_ifN (by omega) (fun h36 => ?_) (fun h36 => ?_)
          · refine e_cN 1 rfl ?_
            exact t_86 q23 (by omega) _ _ x0 _ 1 g0 k0 g1 (by omega) sh33 ir32 (by omega)
          · obtain ⟨q37, rfl⟩ : ∃ q, q23 = q + 1 := ⟨q23 - 1, by omega⟩
            refine u_X5_mustTell_85 ?_
            unfold bX5_mustTell_85
            refine e_cN 0 rfl ?_
            exact t_86 q37 (by omega) _ _ x0 _ 0 g0 k0 g1 (by omega) sh33 ir32 (by omega)
        · obtain ⟨q38, rfl⟩ : ∃ q, q23 = q + 1 := ⟨q23 - 1, by omega⟩
          refine u_X5_mustTell_85 ?_
          unfold bX5_mustTell_85
          refine e_cN 0 rfl ?_
          exact t_86 q38 (by omega) _ _ x0 _ 0 g0 k0 g1 (by omega) sh18 ir17 (by omega)
  · obtain ⟨q39, rfl⟩ : ∃ q, n = q + 1 := ⟨n - 1, by omega⟩
    refine u_X5_mustTell_60 ?_
    unfold bX5_mustTell_60
    refine e_cN 1 rfl ?_
    exact e_rZ (by omega) (K 1 _ sh ir (by omega))
theorem B_X5_mustTell_86 {Q : Option Value → MM → Prop} {S0 : MM} {n : Nat} (hT : TY S0) (K : ∀ j S', SH [] S0 S' → IR S' → j < 2 → Q (some (.int (nI j))) S')  : P_X5_mustTell_86 Q S0 (n + 1) := by
  intro lv S x0 w1 is0 g0 k0 g1 hs0 sh ir hF
  refine u_X5_mustTell_86 ?_
  unfold bX5_mustTell_86
  refine e_stI ?_
  refine e_ldI (lvg_ne g1 rfl (by decide)) ?_
  refine e_ldA (lvg_ne g0 rfl (by decide)) ?_
  refine e_gI (SH_k sh k0) (fun v1 hv2 => ?_)
  refine e_bopU (fun r3 => ?_)
  refine e_ldI lvg_self ?_
  refine e_ifN (by omega) (fun h4 => ?_) (fun h4 => ?_)
  · obtain ⟨q5, rfl⟩ : ∃ q, n = q + 1 := ⟨n - 1, by omega⟩
    refine u_X5_mustTell_102 ?_
    unfold bX5_mustTell_102
    refine e_cN 1 rfl ?_
    obtain ⟨q6, rfl⟩ : ∃ q, q5 = q + 1 := ⟨q5 - 1, by omega⟩
    refine u_X5_mustTell_103 ?_
    unfold bX5_mustTell_103
    refine e_ifc ?_ ?_
    · obtain ⟨q7, rfl⟩ : ∃ q, q6 = q + 1 := ⟨q6 - 1, by omega⟩
      refine u_X5_mustTell_110 ?_
      unfold bX5_mustTell_110
      refine e_cN 0 rfl ?_
      obtain ⟨q8, rfl⟩ : ∃ q, q7 = q + 1 := ⟨q7 - 1, by omega⟩
      refine u_X5_mustTell_111 ?_
      unfold bX5_mustTell_111
      exact e_rZ (by omega) (K 0 _ sh ir (by omega))
    · refine e_cN 1 rfl ?_
      obtain ⟨q9, rfl⟩ : ∃ q, q6 = q + 1 := ⟨q6 - 1, by omega⟩
      refine u_X5_mustTell_111 ?_
      unfold bX5_mustTell_111
      exact e_rZ (by omega) (K 1 _ sh ir (by omega))
  · refine e_cN 30 rfl ?_
    obtain ⟨q10, rfl⟩ : ∃ q, n = q + 1 := ⟨n - 1, by omega⟩
    refine u_X5_mustTell_103 ?_
    unfold bX5_mustTell_103
    refine e_ifc ?_ ?_
    · obtain ⟨q11, rfl⟩ : ∃ q, q10 = q + 1 := ⟨q10 - 1, by omega⟩
      refine u_X5_mustTell_110 ?_
      unfold bX5_mustTell_110
      refine e_cN 0 rfl ?_
      obtain ⟨q12, rfl⟩ : ∃ q, q11 = q + 1 := ⟨q11 - 1, by omega⟩
      refine u_X5_mustTell_111 ?_
      unfold bX5_mustTell_111
      exact e_rZ (by omega) (K 0 _ sh ir (by omega))
    · refine e_cN 1 rfl ?_
      obtain ⟨q13, rfl⟩ : ∃ q, q10 = q + 1 := ⟨q10 - 1, by omega⟩
      refine u_X5_mustTell_111 ?_
      unfold bX5_mustTell_111
      exact e_rZ (by omega) (K 1 _ sh ir (by omega))
theorem A_X5_mustTell {Q : Option Value → MM → Prop} {S0 : MM} (hT : TY S0) (K : ∀ j S', SH [] S0 S' → IR S' → j < 2 → Q (some (.int (nI j))) S') : ∀ n k, k ≤ n → P_X5_mustTell_0 Q S0 k ∧ P_X5_mustTell_31 Q S0 k ∧ P_X5_mustTell_86 Q S0 k := by
  intro n
  induction n with
  | zero =>
    intro k hk
    have e : k = 0 := by omega
    subst e
    exact ⟨(fun lv S x0 w1 _ _ _ _ _ hF => absurd hF (by omega)), (fun lv S x0 w1 _ _ _ _ _ hF => absurd hF (by omega)), (fun lv S x0 w1 is0 _ _ _ _ _ _ hF => absurd hF (by omega))⟩
  | succ n ih =>
    intro k hk
    by_cases hn : k ≤ n
    · exact ih k hn
    · have e : k = n + 1 := by omega
      subst e
      have T_0 : ∀ k, k ≤ n → P_X5_mustTell_0 Q S0 k := fun k hk => (ih k hk).1
      have T_31 : ∀ k, k ≤ n → P_X5_mustTell_31 Q S0 k := fun k hk => (ih k hk).2.1
      have T_86 : ∀ k, k ≤ n → P_X5_mustTell_86 Q S0 k := fun k hk => (ih k hk).2.2
      exact ⟨B_X5_mustTell_0 hT K T_31, B_X5_mustTell_31 hT K T_86, B_X5_mustTell_86 hT K ⟩
theorem z_X5_mustTell {Q : Option Value → MM → Prop} {S0 : MM} {x0 : Nat} {w1 : Int32} (hT : TY S0) (ir : IR S0) (k0 : sK S0 x0 = 6) (K : ∀ j S', SH [] S0 S' → IR S' → j < 2 → Q (some (.int (nI j))) S') : wX5_mustTell [.ref x0, .int w1] S0 Q := by
  exact Exists.intro 93 ((A_X5_mustTell hT K 93 93 (Nat.le_refl _)).1 _ S0 x0 w1 rfl k0 rfl SH.rf ir (by omega))
theorem u_X5_rememberTelling_0 {Q : Option Value → MM → Prop} {n : Nat} {lv : Lv} {st : List Value} {S : MM} {c z : Nat} (h : bX5_rememberTelling_0 Q (wpn (kX5_rememberTelling Q) n) lv st S c z) : wpn (kX5_rememberTelling Q) (n + 1) 0 lv st S c z := h
theorem z_X5_rememberTelling {Q : Option Value → MM → Prop} {S0 : MM} {x0 : Nat} {w1 : Int32} (hT : TY S0) (ir : IR S0) (k0 : sK S0 x0 = 6) (K : ∀ S', SH [6, 7] S0 S' → IR S' → Q none S') : wX5_rememberTelling [.ref x0, .int w1] S0 Q := by
  have sh : SH [6, 7] S0 S0 := SH.rf
  refine Exists.intro 40 (u_X5_rememberTelling_0 ?_)
  unfold bX5_rememberTelling_0
  refine e_ldA rfl ?_
  obtain ⟨b1, rb2, kb3, nb4⟩ := hT.1 x0 6 14 7 0 k0 rfl
  refine e_gR (SH_k sh k0) (SH_r sh rb2) ?_
  refine e_ldA rfl ?_
  obtain ⟨b5, rb6, kb7, nb8⟩ := hT.1 x0 6 0 7 0 k0 rfl
  refine e_gR (SH_k sh k0) (SH_r sh rb6) ?_
  refine And.intro (SH_k sh kb3) (And.intro ⟨by decide, by decide⟩ (z_X6_copyFrom (TY_SH hT sh) ir (SH_k sh kb3) (SH_k sh kb7) (fun S9 s10 ir11 => ?_)))
  have sh12 := SH.tr sh s10 (by decide)
  refine e_ldA rfl ?_
  refine e_ldI rfl ?_
  refine y_tI (SH_k sh12 k0) sh12 ir11 (by decide) (by decide) (fun N e => nomatch (show (none : Option Nat) = some N from e)) (fun S13 he14 sh15 ir16 => ?_)
  refine e_ldA rfl ?_
  refine e_cN 0 rfl ?_
  refine y_tZ (SH_k sh15 k0) (by omega) sh15 ir16 (by decide) (by decide) (fun N e => nomatch (show (none : Option Nat) = some N from e)) (fun S17 he18 sh19 ir20 => ?_)
  refine e_ldA rfl ?_
  refine e_duA ?_
  refine e_gI (SH_k sh19 k0) (fun v21 hv22 => ?_)
  refine e_cN 1 rfl ?_
  refine e_bopU (fun r23 => ?_)
  refine y_tI (SH_k sh19 k0) sh19 ir20 (by decide) (by decide) (fun N e => nomatch (show (none : Option Nat) = some N from e)) (fun S24 he25 sh26 ir27 => ?_)
  exact e_rV (K _ sh26 ir27)
theorem u_X5_gives_0 {Q : Option Value → MM → Prop} {n : Nat} {lv : Lv} {st : List Value} {S : MM} {c z : Nat} (h : bX5_gives_0 Q (wpn (kX5_gives Q) n) lv st S c z) : wpn (kX5_gives Q) (n + 1) 0 lv st S c z := h
theorem u_X5_gives_20 {Q : Option Value → MM → Prop} {n : Nat} {lv : Lv} {st : List Value} {S : MM} {c z : Nat} (h : bX5_gives_20 Q (wpn (kX5_gives Q) n) lv st S c z) : wpn (kX5_gives Q) (n + 1) 20 lv st S c z := h
theorem u_X5_gives_21 {Q : Option Value → MM → Prop} {n : Nat} {lv : Lv} {st : List Value} {S : MM} {c z : Nat} (h : bX5_gives_21 Q (wpn (kX5_gives Q) n) lv st S c z) : wpn (kX5_gives Q) (n + 1) 21 lv st S c z := h
theorem z_X5_gives {Q : Option Value → MM → Prop} {S0 : MM} {x0 : Nat} {w1 : Int32} (hT : TY S0) (ir : IR S0) (k0 : sK S0 x0 = 6) (K : ∀ j S', SH [] S0 S' → IR S' → j < 2 → Q (some (.int (nI j))) S') : wX5_gives [.ref x0, .int w1] S0 Q := by
  have sh : SH [] S0 S0 := SH.rf
  refine Exists.intro 40 (u_X5_gives_0 ?_)
  unfold bX5_gives_0
  refine e_ldA rfl ?_
  refine e_gI (SH_k sh k0) (fun v1 hv2 => ?_)
  refine e_cN 4 rfl ?_
  refine e_ifc ?_ ?_
  · refine e_ldA rfl ?_
    refine e_gI (SH_k sh k0) (fun v3 hv4 => ?_)
    refine e_ldI rfl ?_
    refine e_ifc ?_ ?_
    · refine e_cN 1 rfl ?_
      refine u_X5_gives_21 ?_
      unfold bX5_gives_21
      exact e_rZ (by omega) (K 1 _ sh ir (by omega))
    · refine u_X5_gives_20 ?_
      unfold bX5_gives_20
      refine e_cN 0 rfl ?_
      refine u_X5_gives_21 ?_
      unfold bX5_gives_21
      exact e_rZ (by omega) (K 0 _ sh ir (by omega))
  · refine u_X5_gives_20 ?_
    unfold bX5_gives_20
    refine e_cN 0 rfl ?_
    refine u_X5_gives_21 ?_
    unfold bX5_gives_21
    exact e_rZ (by omega) (K 0 _ sh ir (by omega))
theorem u_X5_isAheadOf_0 {Q : Option Value → MM → Prop} {n : Nat} {lv : Lv} {st : List Value} {S : MM} {c z : Nat} (h : bX5_isAheadOf_0 Q (wpn (kX5_isAheadOf Q) n) lv st S c z) : wpn (kX5_isAheadOf Q) (n + 1) 0 lv st S c z := h
theorem u_X5_isAheadOf_11 {Q : Option Value → MM → Prop} {n : Nat} {lv : Lv} {st : List Value} {S : MM} {c z : Nat} (h : bX5_isAheadOf_11 Q (wpn (kX5_isAheadOf Q) n) lv st S c z) : wpn (kX5_isAheadOf Q) (n + 1) 11 lv st S c z := h
theorem u_X5_isAheadOf_15 {Q : Option Value → MM → Prop} {n : Nat} {lv : Lv} {st : List Value} {S : MM} {c z : Nat} (h : bX5_isAheadOf_15 Q (wpn (kX5_isAheadOf Q) n) lv st S c z) : wpn (kX5_isAheadOf Q) (n + 1) 15 lv st S c z := h
theorem u_X5_isAheadOf_27 {Q : Option Value → MM → Prop} {n : Nat} {lv : Lv} {st : List Value} {S : MM} {c z : Nat} (h : bX5_isAheadOf_27 Q (wpn (kX5_isAheadOf Q) n) lv st S c z) : wpn (kX5_isAheadOf Q) (n + 1) 27 lv st S c z := h
theorem u_X5_isAheadOf_31 {Q : Option Value → MM → Prop} {n : Nat} {lv : Lv} {st : List Value} {S : MM} {c z : Nat} (h : bX5_isAheadOf_31 Q (wpn (kX5_isAheadOf Q) n) lv st S c z) : wpn (kX5_isAheadOf Q) (n + 1) 31 lv st S c z := h
theorem u_X5_isAheadOf_61 {Q : Option Value → MM → Prop} {n : Nat} {lv : Lv} {st : List Value} {S : MM} {c z : Nat} (h : bX5_isAheadOf_61 Q (wpn (kX5_isAheadOf Q) n) lv st S c z) : wpn (kX5_isAheadOf Q) (n + 1) 61 lv st S c z := h
theorem u_X5_isAheadOf_62 {Q : Option Value → MM → Prop} {n : Nat} {lv : Lv} {st : List Value} {S : MM} {c z : Nat} (h : bX5_isAheadOf_62 Q (wpn (kX5_isAheadOf Q) n) lv st S c z) : wpn (kX5_isAheadOf Q) (n + 1) 62 lv st S c z := h
theorem u_X5_isAheadOf_63 {Q : Option Value → MM → Prop} {n : Nat} {lv : Lv} {st : List Value} {S : MM} {c z : Nat} (h : bX5_isAheadOf_63 Q (wpn (kX5_isAheadOf Q) n) lv st S c z) : wpn (kX5_isAheadOf Q) (n + 1) 63 lv st S c z := h
theorem u_X5_isAheadOf_91 {Q : Option Value → MM → Prop} {n : Nat} {lv : Lv} {st : List Value} {S : MM} {c z : Nat} (h : bX5_isAheadOf_91 Q (wpn (kX5_isAheadOf Q) n) lv st S c z) : wpn (kX5_isAheadOf Q) (n + 1) 91 lv st S c z := h
theorem u_X5_isAheadOf_92 {Q : Option Value → MM → Prop} {n : Nat} {lv : Lv} {st : List Value} {S : MM} {c z : Nat} (h : bX5_isAheadOf_92 Q (wpn (kX5_isAheadOf Q) n) lv st S c z) : wpn (kX5_isAheadOf Q) (n + 1) 92 lv st S c z := h
theorem u_X5_isAheadOf_93 {Q : Option Value → MM → Prop} {n : Nat} {lv : Lv} {st : List Value} {S : MM} {c z : Nat} (h : bX5_isAheadOf_93 Q (wpn (kX5_isAheadOf Q) n) lv st S c z) : wpn (kX5_isAheadOf Q) (n + 1) 93 lv st S c z := h
theorem u_X5_isAheadOf_114 {Q : Option Value → MM → Prop} {n : Nat} {lv : Lv} {st : List Value} {S : MM} {c z : Nat} (h : bX5_isAheadOf_114 Q (wpn (kX5_isAheadOf Q) n) lv st S c z) : wpn (kX5_isAheadOf Q) (n + 1) 114 lv st S c z := h
theorem u_X5_isAheadOf_115 {Q : Option Value → MM → Prop} {n : Nat} {lv : Lv} {st : List Value} {S : MM} {c z : Nat} (h : bX5_isAheadOf_115 Q (wpn (kX5_isAheadOf Q) n) lv st S c z) : wpn (kX5_isAheadOf Q) (n + 1) 115 lv st S c z := h
def P_X5_isAheadOf_0 (Q : Option Value → MM → Prop) (S0 : MM) (n : Nat) : Prop := ∀ (lv : Lv) (S : MM) (x0 : Nat) (x1 : Nat) (i2 : Nat), lvg lv 0 = some (.ref x0) → sK S0 x0 = 6 → lvg lv 1 = some (.ref x1) → sK S0 x1 = 6 → lvg lv 2 = some (.int (nI i2)) → i2 < 2 → SH [] S0 S → IR S → 93 ≤ n → wpn (kX5_isAheadOf Q) n 0 lv [] S 0 0
def P_X5_isAheadOf_15 (Q : Option Value → MM → Prop) (S0 : MM) (n : Nat) : Prop := ∀ (lv : Lv) (S : MM) (x0 : Nat) (x1 : Nat) (i2 : Nat) (xs0 : Nat), lvg lv 0 = some (.ref x0) → sK S0 x0 = 6 → lvg lv 1 = some (.ref x1) → sK S0 x1 = 6 → lvg lv 2 = some (.int (nI i2)) → i2 < 2 → sK S0 xs0 = 7 → SH [] S0 S → IR S → 62 ≤ n → wpn (kX5_isAheadOf Q) n 15 lv [.ref xs0] S 0 0
def P_X5_isAheadOf_31 (Q : Option Value → MM → Prop) (S0 : MM) (n : Nat) : Prop := ∀ (lv : Lv) (S : MM) (x0 : Nat) (x1 : Nat) (i2 : Nat) (x3 : Nat) (xs0 : Nat), lvg lv 0 = some (.ref x0) → sK S0 x0 = 6 → lvg lv 1 = some (.ref x1) → sK S0 x1 = 6 → lvg lv 2 = some (.int (nI i2)) → i2 < 2 → lvg lv 3 = some (.ref x3) → sK S0 x3 = 7 → sK S0 xs0 = 7 → SH [] S0 S → IR S → 31 ≤ n → wpn (kX5_isAheadOf Q) n 31 lv [.ref xs0] S 0 0
theorem B_X5_isAheadOf_0 {Q : Option Value → MM → Prop} {S0 : MM} {n : Nat} (hT : TY S0) (K : ∀ j S', SH [] S0 S' → IR S' → j < 2 → Q (some (.int (nI j))) S') (t_15 : ∀ k, k ≤ n → P_X5_isAheadOf_15 Q S0 k) : P_X5_isAheadOf_0 Q S0 (n + 1) := by
  intro lv S x0 x1 i2 g0 k0 g1 k1 g2 h2 sh ir hF
  refine u_X5_isAheadOf_0 ?_
  unfold bX5_isAheadOf_0
  refine e_ldI g2 ?_
  refine e_ifN (by omega) (fun h1 => ?_) (fun h1 => ?_)
  · obtain ⟨q2, rfl⟩ : ∃ q, n = q + 1 := ⟨n - 1, by omega⟩
    refine u_X5_isAheadOf_11 ?_
    unfold bX5_isAheadOf_11
    refine e_ldA g0 ?_
    obtain ⟨b3, rb4, kb5, nb6⟩ := hT.1 x0 6 1 7 0 k0 rfl
    refine e_gR (SH_k sh k0) (SH_r sh rb4) ?_
    exact t_15 q2 (by omega) _ _ x0 x1 i2 b3 g0 k0 g1 k1 g2 (by omega) kb5 sh ir (by omega)
  · refine e_ldA g0 ?_
    obtain ⟨b7, rb8, kb9, nb10⟩ := hT.1 x0 6 0 7 0 k0 rfl
    refine e_gR (SH_k sh k0) (SH_r sh rb8) ?_
    exact t_15 n (by omega) _ _ x0 x1 i2 b7 g0 k0 g1 k1 g2 (by omega) kb9 sh ir (by omega)
theorem B_X5_isAheadOf_15 {Q : Option Value → MM → Prop} {S0 : MM} {n : Nat} (hT : TY S0) (K : ∀ j S', SH [] S0 S' → IR S' → j < 2 → Q (some (.int (nI j))) S') (t_31 : ∀ k, k ≤ n → P_X5_isAheadOf_31 Q S0 k) : P_X5_isAheadOf_15 Q S0 (n + 1) := by
  intro lv S x0 x1 i2 xs0 g0 k0 g1 k1 g2 h2 ks0 sh ir hF
  refine u_X5_isAheadOf_15 ?_
  unfold bX5_isAheadOf_15
  refine e_stA ?_
  refine e_ldI (lvg_ne g2 rfl (by decide)) ?_
  refine e_ifN (by omega) (fun h1 => ?_) (fun h1 => ?_)
  · obtain ⟨q2, rfl⟩ : ∃ q, n = q + 1 := ⟨n - 1, by omega⟩
    refine u_X5_isAheadOf_27 ?_
    unfold bX5_isAheadOf_27
    refine e_ldA (lvg_ne g1 rfl (by decide)) ?_
    obtain ⟨b3, rb4, kb5, nb6⟩ := hT.1 x1 6 1 7 0 k1 rfl
    refine e_gR (SH_k sh k1) (SH_r sh rb4) ?_
    exact t_31 q2 (by omega) _ _ x0 x1 i2 xs0 b3 (lvg_ne g0 rfl (by decide)) k0 (lvg_ne g1 rfl (by decide)) k1 (lvg_ne g2 rfl (by decide)) (by omega) lvg_self ks0 kb5 sh ir (by omega)
  · refine e_ldA (lvg_ne g1 rfl (by decide)) ?_
    obtain ⟨b7, rb8, kb9, nb10⟩ := hT.1 x1 6 0 7 0 k1 rfl
    refine e_gR (SH_k sh k1) (SH_r sh rb8) ?_
    exact t_31 n (by omega) _ _ x0 x1 i2 xs0 b7 (lvg_ne g0 rfl (by decide)) k0 (lvg_ne g1 rfl (by decide)) k1 (lvg_ne g2 rfl (by decide)) (by omega) lvg_self ks0 kb9 sh ir (by omega)
theorem B_X5_isAheadOf_31 {Q : Option Value → MM → Prop} {S0 : MM} {n : Nat} (hT : TY S0) (K : ∀ j S', SH [] S0 S' → IR S' → j < 2 → Q (some (.int (nI j))) S')  : P_X5_isAheadOf_31 Q S0 (n + 1) := by
  intro lv S x0 x1 i2 x3 xs0 g0 k0 g1 k1 g2 h2 g3 k3 ks0 sh ir hF
  refine u_X5_isAheadOf_31 ?_
  unfold bX5_isAheadOf_31
  refine e_stA ?_
  refine e_ldA (lvg_ne g3 rfl (by decide)) ?_
  refine e_gI (SH_k sh k3) (fun v1 hv2 => ?_)
  refine e_ldA lvg_self ?_
  refine e_gI (SH_k sh ks0) (fun v3 hv4 => ?_)
  refine e_ifc ?_ ?_
  · obtain ⟨q5, rfl⟩ : ∃ q, n = q + 1 := ⟨n - 1, by omega⟩
    refine u_X5_isAheadOf_63 ?_
    unfold bX5_isAheadOf_63
    refine e_ldA (lvg_ne g3 rfl (by decide)) ?_
    refine e_gI (SH_k sh k3) (fun v6 hv7 => ?_)
    refine e_ldA lvg_self ?_
    refine e_gI (SH_k sh ks0) (fun v8 hv9 => ?_)
    refine e_ifc ?_ ?_
    · obtain ⟨q10, rfl⟩ : ∃ q, q5 = q + 1 := ⟨q5 - 1, by omega⟩
      refine u_X5_isAheadOf_93 ?_
      unfold bX5_isAheadOf_93
      refine e_ldA (lvg_ne g0 rfl (by decide)) ?_
      obtain ⟨b11, rb12, kb13, nb14⟩ := hT.1 x0 6 0 7 0 k0 rfl
      refine e_gR (SH_k sh k0) (SH_r sh rb12) ?_
      refine e_gI (SH_k sh kb13) (fun v15 hv16 => ?_)
      refine e_ldA (lvg_ne g1 rfl (by decide)) ?_
      obtain ⟨b17, rb18, kb19, nb20⟩ := hT.1 x1 6 0 7 0 k1 rfl
      refine e_gR (SH_k sh k1) (SH_r sh rb18) ?_
      refine e_gI (SH_k sh kb19) (fun v21 hv22 => ?_)
      refine e_ifc ?_ ?_
      · obtain ⟨q23, rfl⟩ : ∃ q, q10 = q + 1 := ⟨q10 - 1, by omega⟩
        refine u_X5_isAheadOf_114 ?_
        unfold bX5_isAheadOf_114
        refine e_cN 0 rfl ?_
        obtain ⟨q24, rfl⟩ : ∃ q, q23 = q + 1 := ⟨q23 - 1, by omega⟩
        refine u_X5_isAheadOf_115 ?_
        unfold bX5_isAheadOf_115
        exact e_rZ (by omega) (K 0 _ sh ir (by omega))
      · refine e_cN 1 rfl ?_
        obtain ⟨q25, rfl⟩ : ∃ q, q10 = q + 1 := ⟨q10 - 1, by omega⟩
        refine u_X5_isAheadOf_115 ?_
        unfold bX5_isAheadOf_115
        exact e_rZ (by omega) (K 1 _ sh ir (by omega))
    · refine e_ldA (lvg_ne g3 rfl (by decide)) ?_
      refine e_gV (v := v6) (SH_k sh k3) hv7 ?_
      refine e_ldA lvg_self ?_
      refine e_gV (v := v8) (SH_k sh ks0) hv9 ?_
      refine e_ifc ?_ ?_
      · obtain ⟨q26, rfl⟩ : ∃ q, q5 = q + 1 := ⟨q5 - 1, by omega⟩
        refine u_X5_isAheadOf_91 ?_
        unfold bX5_isAheadOf_91
        refine e_cN 0 rfl ?_
        obtain ⟨q27, rfl⟩ : ∃ q, q26 = q + 1 := ⟨q26 - 1, by omega⟩
        refine u_X5_isAheadOf_92 ?_
        unfold bX5_isAheadOf_92
        exact e_rZ (by omega) (K 0 _ sh ir (by omega))
      · refine e_cN 1 rfl ?_
        obtain ⟨q28, rfl⟩ : ∃ q, q5 = q + 1 := ⟨q5 - 1, by omega⟩
        refine u_X5_isAheadOf_92 ?_
        unfold bX5_isAheadOf_92
        exact e_rZ (by omega) (K 1 _ sh ir (by omega))
  · refine e_ldA (lvg_ne g3 rfl (by decide)) ?_
    refine e_gV (v := v1) (SH_k sh k3) hv2 ?_
    refine e_ldA lvg_self ?_
    refine e_gV (v := v3) (SH_k sh ks0) hv4 ?_
    refine e_ifc ?_ ?_
    · obtain ⟨q29, rfl⟩ : ∃ q, n = q + 1 := ⟨n - 1, by omega⟩
      refine u_X5_isAheadOf_61 ?_
      unfold bX5_isAheadOf_61
      refine e_cN 0 rfl ?_
      obtain ⟨q30, rfl⟩ : ∃ q, q29 = q + 1 := ⟨q29 - 1, by omega⟩
      refine u_X5_isAheadOf_62 ?_
      unfold bX5_isAheadOf_62
      exact e_rZ (by omega) (K 0 _ sh ir (by omega))
    · refine e_cN 1 rfl ?_
      obtain ⟨q31, rfl⟩ : ∃ q, n = q + 1 := ⟨n - 1, by omega⟩
      refine u_X5_isAheadOf_62 ?_
      unfold bX5_isAheadOf_62
      exact e_rZ (by omega) (K 1 _ sh ir (by omega))
theorem A_X5_isAheadOf {Q : Option Value → MM → Prop} {S0 : MM} (hT : TY S0) (K : ∀ j S', SH [] S0 S' → IR S' → j < 2 → Q (some (.int (nI j))) S') : ∀ n k, k ≤ n → P_X5_isAheadOf_0 Q S0 k ∧ P_X5_isAheadOf_15 Q S0 k ∧ P_X5_isAheadOf_31 Q S0 k := by
  intro n
  induction n with
  | zero =>
    intro k hk
    have e : k = 0 := by omega
    subst e
    exact ⟨(fun lv S x0 x1 i2 _ _ _ _ _ _ _ _ hF => absurd hF (by omega)), (fun lv S x0 x1 i2 xs0 _ _ _ _ _ _ _ _ _ hF => absurd hF (by omega)), (fun lv S x0 x1 i2 x3 xs0 _ _ _ _ _ _ _ _ _ _ _ hF => absurd hF (by omega))⟩
  | succ n ih =>
    intro k hk
    by_cases hn : k ≤ n
    · exact ih k hn
    · have e : k = n + 1 := by omega
      subst e
      have T_0 : ∀ k, k ≤ n → P_X5_isAheadOf_0 Q S0 k := fun k hk => (ih k hk).1
      have T_15 : ∀ k, k ≤ n → P_X5_isAheadOf_15 Q S0 k := fun k hk => (ih k hk).2.1
      have T_31 : ∀ k, k ≤ n → P_X5_isAheadOf_31 Q S0 k := fun k hk => (ih k hk).2.2
      exact ⟨B_X5_isAheadOf_0 hT K T_15, B_X5_isAheadOf_15 hT K T_31, B_X5_isAheadOf_31 hT K ⟩
theorem z_X5_isAheadOf {Q : Option Value → MM → Prop} {S0 : MM} {x0 : Nat} {x1 : Nat} {i2 : Nat} (hT : TY S0) (ir : IR S0) (k0 : sK S0 x0 = 6) (k1 : sK S0 x1 = 6) (h2 : i2 < 2) (K : ∀ j S', SH [] S0 S' → IR S' → j < 2 → Q (some (.int (nI j))) S') : wX5_isAheadOf [.ref x0, .ref x1, .int (nI i2)] S0 Q := by
  exact Exists.intro 93 ((A_X5_isAheadOf hT K 93 93 (Nat.le_refl _)).1 _ S0 x0 x1 i2 rfl k0 rfl k1 rfl h2 SH.rf ir (by omega))
