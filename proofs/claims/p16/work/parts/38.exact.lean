theorem z_isEnd' {S : MM} {v : Int32} {Q : Option Value → MM → Prop} (K0 : v < 0 ∨ 2 ≤ v → Q (some (.int (nI 0))) S) (K1 : ∀ j, j < 2 → v = nI j → Q (some (.int (nI 1))) S) : wX7_isEnd [.int v] S Q := by
  refine Exists.intro 3 (And.intro (fun h0 => And.intro (Or.inl rfl) (K0 (Or.inl h0))) (fun h0 => And.intro (fun h1 => And.intro (Or.inl rfl) (K0 (Or.inr h1))) (fun h1 => ?_)))
  rcases pk_ix v (n := 2) (by decide) with h | h | ⟨j, hj, e⟩
  · exact absurd h h0
  · exact absurd h h1
  · exact And.intro (Or.inr rfl) (K1 j hj e)
theorem z_isPort' {S : MM} {v : Int32} {Q : Option Value → MM → Prop} (K0 : v < 0 ∨ 8 ≤ v → Q (some (.int (nI 0))) S) (K1 : ∀ j, j < 8 → v = nI j → Q (some (.int (nI 1))) S) : wX7_isPort [.int v] S Q := by
  refine Exists.intro 3 (And.intro (fun h0 => And.intro (Or.inl rfl) (K0 (Or.inl h0))) (fun h0 => And.intro (fun h1 => And.intro (Or.inl rfl) (K0 (Or.inr h1))) (fun h1 => ?_)))
  rcases pk_ix v (n := 8) (by decide) with h | h | ⟨j, hj, e⟩
  · exact absurd h h0
  · exact absurd h h1
  · exact And.intro (Or.inr rfl) (K1 j hj e)
theorem z_isCable' {S : MM} {v : Int32} {Q : Option Value → MM → Prop} (K0 : v < 0 ∨ 8 ≤ v → Q (some (.int (nI 0))) S) (K1 : ∀ j, j < 8 → v = nI j → Q (some (.int (nI 1))) S) : wX7_isCable [.int v] S Q := by
  refine Exists.intro 3 (And.intro (fun h0 => And.intro (Or.inl rfl) (K0 (Or.inl h0))) (fun h0 => And.intro (fun h1 => And.intro (Or.inl rfl) (K0 (Or.inr h1))) (fun h1 => ?_)))
  rcases pk_ix v (n := 8) (by decide) with h | h | ⟨j, hj, e⟩
  · exact absurd h h0
  · exact absurd h h1
  · exact And.intro (Or.inr rfl) (K1 j hj e)
theorem z_isWord' {S : MM} {v : Int32} {Q : Option Value → MM → Prop} (K0 : v < 0 ∨ 65535 < v → Q (some (.int (nI 0))) S) (K1 : ¬ v < 0 → ¬ 65535 < v → Q (some (.int (nI 1))) S) : wX7_isWord [.int v] S Q :=
  Exists.intro 3 (And.intro (fun h0 => And.intro (Or.inl rfl) (K0 (Or.inl h0))) (fun h0 => And.intro (fun h1 => And.intro (Or.inl rfl) (K0 (Or.inr h1))) (fun h1 => And.intro (Or.inr rfl) (K1 h0 h1))))
def bE (v : Int32) : Prop := v < 0 ∨ 2 ≤ v
def b8 (v : Int32) : Prop := v < 0 ∨ 8 ≤ v
def bW (v : Int32) : Prop := v < 0 ∨ 65535 < v
def bL (v : Int32) : Prop := v < 0 ∨ ¬ v ≤ 100
theorem nbE {j : Nat} (h : j < 2) : ¬ bE (nI j) := fun q => q.elim (nI_pos (by omega)) (nI_ge (b := 2) h (by decide))
theorem nb8 {j : Nat} (h : j < 8) : ¬ b8 (nI j) := fun q => q.elim (nI_pos (by omega)) (nI_ge (b := 8) h (by decide))
def PB (v w k p : Int32) : Prop := bE v ∨ b8 w ∨ bW k ∨ bW p
def MB (v w : Int32) : Prop := bE v ∨ b8 w
def LB (v w n : Int32) : Prop := bE v ∨ b8 w ∨ bL n
theorem u_X7_port_0 {Q : Option Value → MM → Prop} {X : String → MM → Prop} {n : Nat} {lv : Lv} {st : List Value} {S : MM} {c z : Nat} (h : bX7_port_0 Q X (wpn (kX7_port Q X) n) lv st S c z) : wpn (kX7_port Q X) (n + 1) 0 lv st S c z := h
theorem u_X7_port_29 {Q : Option Value → MM → Prop} {X : String → MM → Prop} {n : Nat} {lv : Lv} {st : List Value} {S : MM} {c z : Nat} (h : bX7_port_29 Q X (wpn (kX7_port Q X) n) lv st S c z) : wpn (kX7_port Q X) (n + 1) 29 lv st S c z := h
theorem u_X7_port_39 {Q : Option Value → MM → Prop} {X : String → MM → Prop} {n : Nat} {lv : Lv} {st : List Value} {S : MM} {c z : Nat} (h : bX7_port_39 Q X (wpn (kX7_port Q X) n) lv st S c z) : wpn (kX7_port Q X) (n + 1) 39 lv st S c z := h
theorem u_X7_port_79 {Q : Option Value → MM → Prop} {X : String → MM → Prop} {n : Nat} {lv : Lv} {st : List Value} {S : MM} {c z : Nat} (h : bX7_port_79 Q X (wpn (kX7_port Q X) n) lv st S c z) : wpn (kX7_port Q X) (n + 1) 79 lv st S c z := h
theorem u_X7_port_80 {Q : Option Value → MM → Prop} {X : String → MM → Prop} {n : Nat} {lv : Lv} {st : List Value} {S : MM} {c z : Nat} (h : bX7_port_80 Q X (wpn (kX7_port Q X) n) lv st S c z) : wpn (kX7_port Q X) (n + 1) 80 lv st S c z := h
def P_X7_port_39 (Q : Option Value → MM → Prop) (X : String → MM → Prop) (S0 : MM) (n : Nat) : Prop := ∀ (lv : Lv) (S : MM) (x0 : Nat) (i1 : Nat) (i2 : Nat) (w3 : Int32) (w4 : Int32), lvg lv 0 = some (.ref x0) → sK S0 x0 = 8 → lvg lv 1 = some (.int (nI i1)) → i1 < 2 → lvg lv 2 = some (.int (nI i2)) → i2 < 8 → lvg lv 3 = some (.int w3) → lvg lv 4 = some (.int w4) → SH [1, 7, 8] S0 S → IR S → 31 ≤ n → wpn (kX7_port Q X) n 39 lv [] S 0 0
theorem B_X7_port_39 {Q : Option Value → MM → Prop} {X : String → MM → Prop} {S0 : MM} {n : Nat} (hT : TY S0) (K : ∀ S', SH [1, 7, 8] S0 S' → IR S' → Q none S')  : P_X7_port_39 Q X S0 (n + 1) := by
  intro lv S x0 i1 i2 w3 w4 g0 k0 g1 h1 g2 h2 g3 g4 sh ir hF
  refine u_X7_port_39 ?_
  unfold bX7_port_39
  refine e_ldA g0 ?_
  obtain ⟨b1, rb2, kb3, nb4⟩ := hT.1 x0 8 0 13 2 k0 rfl
  refine e_gR (SH_k sh k0) (SH_r sh rb2) ?_
  refine e_ldI g1 ?_
  obtain ⟨b5, rb6, kb7, nb8⟩ := hT.2.1 b1 13 2 2 i1 kb3 nb4 rfl (by omega)
  refine e_aR (SH_k sh kb3) (SH_n sh nb4) (by omega) (by decide) (SH_r sh rb6) ?_
  obtain ⟨b9, rb10, kb11, nb12⟩ := hT.1 b5 2 0 17 8 kb7 rfl
  refine e_gR (SH_k sh kb7) (SH_r sh rb10) ?_
  refine e_ldI g2 ?_
  obtain ⟨b13, rb14, kb15, nb16⟩ := hT.2.1 b9 17 8 6 i2 kb11 nb12 rfl (by omega)
  refine e_aR (SH_k sh kb11) (SH_n sh nb12) (by omega) (by decide) (SH_r sh rb14) ?_
  obtain ⟨b17, rb18, kb19, nb20⟩ := hT.1 b13 6 0 7 0 kb15 rfl
  refine e_gR (SH_k sh kb15) (SH_r sh rb18) ?_
  refine e_stA ?_
  refine e_ldA lvg_self ?_
  refine e_ldI (lvg_ne g3 rfl (by decide)) ?_
  refine y_tI (SH_k sh kb19) sh ir (by decide) (by decide) (fun N e => nomatch (show (none : Option Nat) = some N from e)) (fun S21 he22 sh23 ir24 => ?_)
  refine e_ldA lvg_self ?_
  refine e_ldI (lvg_ne g4 rfl (by decide)) ?_
  refine y_tI (SH_k sh23 kb19) sh23 ir24 (by decide) (by decide) (fun N e => nomatch (show (none : Option Nat) = some N from e)) (fun S25 he26 sh27 ir28 => ?_)
  refine e_ldA lvg_self ?_
  refine e_cN 4 rfl ?_
  refine e_ldI (lvg_ne g3 rfl (by decide)) ?_
  refine e_ifz ?_ ?_
  · obtain ⟨q29, rfl⟩ : ∃ q, n = q + 1 := ⟨n - 1, by omega⟩
    refine u_X7_port_79 ?_
    unfold bX7_port_79
    refine e_cN 0 rfl ?_
    obtain ⟨q30, rfl⟩ : ∃ q, q29 = q + 1 := ⟨q29 - 1, by omega⟩
    refine u_X7_port_80 ?_
    unfold bX7_port_80
    refine And.intro (SH_k sh27 kb19) (And.intro ⟨by decide, by decide⟩ (z_X6_setBits (TY_SH hT sh27) ir28 (SH_k sh27 kb19) (show 0 < 2 by omega) (fun S31 s32 ir33 => ?_)))
    have sh34 := SH.tr sh27 s32 (by decide)
    refine e_ldA (lvg_ne g0 rfl (by decide)) ?_
    refine And.intro (SH_k sh34 k0) (And.intro ⟨by decide, by decide⟩ (z_X7_noteChange (TY_SH hT sh34) ir33 (SH_k sh34 k0) (fun S35 s36 ir37 => ?_)))
    have sh38 := SH.tr sh34 s36 (by decide)
    exact e_rV (K _ sh38 ir37)
  · refine e_cN 1 rfl ?_
    obtain ⟨q39, rfl⟩ : ∃ q, n = q + 1 := ⟨n - 1, by omega⟩
    refine u_X7_port_80 ?_
    unfold bX7_port_80
    refine And.intro (SH_k sh27 kb19) (And.intro ⟨by decide, by decide⟩ (z_X6_setBits (TY_SH hT sh27) ir28 (SH_k sh27 kb19) (show 1 < 2 by omega) (fun S40 s41 ir42 => ?_)))
    have sh43 := SH.tr sh27 s41 (by decide)
    refine e_ldA (lvg_ne g0 rfl (by decide)) ?_
    refine And.intro (SH_k sh43 k0) (And.intro ⟨by decide, by decide⟩ (z_X7_noteChange (TY_SH hT sh43) ir42 (SH_k sh43 k0) (fun S44 s45 ir46 => ?_)))
    have sh47 := SH.tr sh43 s45 (by decide)
    exact e_rV (K _ sh47 ir46)
theorem z_port {Q : Option Value → MM → Prop} {X : String → MM → Prop} {S0 : MM} {x : Nat} {v w k p : Int32} (hT : TY S0) (ir : IR S0) (kx : sK S0 x = 8) (hb : PB v w k p → X eI S0) (ho : ¬ PB v w k p → ∀ S', SH [1, 7, 8] S0 S' → IR S' → Q none S') : wX7_port [.ref x, .int v, .int w, .int k, .int p] S0 Q X := by
  have th : PB v w k p → ∀ lv, wpn (kX7_port Q X) 60 29 lv [] S0 0 0 := fun h lv => u_X7_port_29 (And.intro ⟨by decide, by decide⟩ (hb h))
  refine Exists.intro 61 (u_X7_port_0 ?_)
  unfold bX7_port_0
  refine e_ldI rfl (And.intro ⟨by decide, by decide⟩ (z_isEnd' (fun h => e_ifN (by decide) (fun _ => th (Or.inl h) _) (fun q => absurd rfl q)) (fun j hj ej => e_ifN (by decide) (fun q => absurd q (by decide)) (fun _ => ?_))))
  refine e_ldI rfl (And.intro ⟨by decide, by decide⟩ (z_isPort' (fun h => e_ifN (by decide) (fun _ => th (Or.inr (Or.inl h)) _) (fun q => absurd rfl q)) (fun i hi ei => e_ifN (by decide) (fun q => absurd q (by decide)) (fun _ => ?_))))
  refine e_ldI rfl (And.intro ⟨by decide, by decide⟩ (z_isWord' (fun h => e_ifN (by decide) (fun _ => th (Or.inr (Or.inr (Or.inl h))) _) (fun q => absurd rfl q)) (fun k0 k1 => e_ifN (by decide) (fun q => absurd q (by decide)) (fun _ => ?_))))
  refine e_ldI rfl (And.intro ⟨by decide, by decide⟩ (z_isWord' (fun h => e_ifN (by decide) (fun _ => th (Or.inr (Or.inr (Or.inr h))) _) (fun q => absurd rfl q)) (fun p0 p1 => e_ifN (by decide) (fun q => absurd q (by decide)) (fun _ => ?_))))
  subst ej ei
  have nb : ¬ PB (nI j) (nI i) k p := fun q => by
    rcases q with q | q | q | q
    · exact nbE hj q
    · exact nb8 hi q
    · exact q.elim k0 k1
    · exact q.elim p0 p1
  exact B_X7_port_39 (Q := Q) (n := 59) hT (fun S' s i => ho nb S' s i) _ S0 _ _ _ _ _ rfl kx rfl hj rfl hi rfl rfl SH.rf ir (by omega)
theorem u_X7_manner_0 {Q : Option Value → MM → Prop} {X : String → MM → Prop} {n : Nat} {lv : Lv} {st : List Value} {S : MM} {c z : Nat} (h : bX7_manner_0 Q X (wpn (kX7_manner Q X) n) lv st S c z) : wpn (kX7_manner Q X) (n + 1) 0 lv st S c z := h
theorem u_X7_manner_14 {Q : Option Value → MM → Prop} {X : String → MM → Prop} {n : Nat} {lv : Lv} {st : List Value} {S : MM} {c z : Nat} (h : bX7_manner_14 Q X (wpn (kX7_manner Q X) n) lv st S c z) : wpn (kX7_manner Q X) (n + 1) 14 lv st S c z := h
theorem u_X7_manner_24 {Q : Option Value → MM → Prop} {X : String → MM → Prop} {n : Nat} {lv : Lv} {st : List Value} {S : MM} {c z : Nat} (h : bX7_manner_24 Q X (wpn (kX7_manner Q X) n) lv st S c z) : wpn (kX7_manner Q X) (n + 1) 24 lv st S c z := h
def P_X7_manner_24 (Q : Option Value → MM → Prop) (X : String → MM → Prop) (S0 : MM) (n : Nat) : Prop := ∀ (lv : Lv) (S : MM) (x0 : Nat) (i1 : Nat) (i2 : Nat) (i3 : Nat) (i4 : Nat), lvg lv 0 = some (.ref x0) → sK S0 x0 = 8 → lvg lv 1 = some (.int (nI i1)) → i1 < 2 → lvg lv 2 = some (.int (nI i2)) → i2 < 8 → lvg lv 3 = some (.int (nI i3)) → i3 < 2 → lvg lv 4 = some (.int (nI i4)) → i4 < 2 → SH [1, 7, 8] S0 S → IR S → 31 ≤ n → wpn (kX7_manner Q X) n 24 lv [] S 0 0
theorem B_X7_manner_24 {Q : Option Value → MM → Prop} {X : String → MM → Prop} {S0 : MM} {n : Nat} (hT : TY S0) (K : ∀ S', SH [1, 7, 8] S0 S' → IR S' → Q none S')  : P_X7_manner_24 Q X S0 (n + 1) := by
  intro lv S x0 i1 i2 i3 i4 g0 k0 g1 h1 g2 h2 g3 h3 g4 h4 sh ir hF
  refine u_X7_manner_24 ?_
  unfold bX7_manner_24
  refine e_ldA g0 ?_
  obtain ⟨b1, rb2, kb3, nb4⟩ := hT.1 x0 8 0 13 2 k0 rfl
  refine e_gR (SH_k sh k0) (SH_r sh rb2) ?_
  refine e_ldI g1 ?_
  obtain ⟨b5, rb6, kb7, nb8⟩ := hT.2.1 b1 13 2 2 i1 kb3 nb4 rfl (by omega)
  refine e_aR (SH_k sh kb3) (SH_n sh nb4) (by omega) (by decide) (SH_r sh rb6) ?_
  obtain ⟨b9, rb10, kb11, nb12⟩ := hT.1 b5 2 0 17 8 kb7 rfl
  refine e_gR (SH_k sh kb7) (SH_r sh rb10) ?_
  refine e_ldI g2 ?_
  obtain ⟨b13, rb14, kb15, nb16⟩ := hT.2.1 b9 17 8 6 i2 kb11 nb12 rfl (by omega)
  refine e_aR (SH_k sh kb11) (SH_n sh nb12) (by omega) (by decide) (SH_r sh rb14) ?_
  obtain ⟨b17, rb18, kb19, nb20⟩ := hT.1 b13 6 0 7 0 kb15 rfl
  refine e_gR (SH_k sh kb15) (SH_r sh rb18) ?_
  refine e_stA ?_
  refine e_ldA lvg_self ?_
  refine e_cN 1 rfl ?_
  refine e_ldI (lvg_ne g3 rfl (by decide)) ?_
  refine And.intro (SH_k sh kb19) (And.intro ⟨by decide, by decide⟩ (z_X6_setBits (TY_SH hT sh) ir (SH_k sh kb19) (show i3 < 2 by omega) (fun S21 s22 ir23 => ?_)))
  have sh24 := SH.tr sh s22 (by decide)
  refine e_ldA lvg_self ?_
  refine e_cN 2 rfl ?_
  refine e_ldI (lvg_ne g4 rfl (by decide)) ?_
  refine And.intro (SH_k sh24 kb19) (And.intro ⟨by decide, by decide⟩ (z_X6_setBits (TY_SH hT sh24) ir23 (SH_k sh24 kb19) (show i4 < 2 by omega) (fun S25 s26 ir27 => ?_)))
  have sh28 := SH.tr sh24 s26 (by decide)
  refine e_ldA (lvg_ne g0 rfl (by decide)) ?_
  refine And.intro (SH_k sh28 k0) (And.intro ⟨by decide, by decide⟩ (z_X7_noteChange (TY_SH hT sh28) ir27 (SH_k sh28 k0) (fun S29 s30 ir31 => ?_)))
  have sh32 := SH.tr sh28 s30 (by decide)
  exact e_rV (K _ sh32 ir31)
theorem z_manner {Q : Option Value → MM → Prop} {X : String → MM → Prop} {S0 : MM} {x a b : Nat} {v w : Int32} (hT : TY S0) (ir : IR S0) (kx : sK S0 x = 8) (ha : a < 2) (hb2 : b < 2) (hb : MB v w → X eI S0) (ho : ¬ MB v w → ∀ S', SH [1, 7, 8] S0 S' → IR S' → Q none S') : wX7_manner [.ref x, .int v, .int w, .int (nI a), .int (nI b)] S0 Q X := by
  have th : MB v w → ∀ lv, wpn (kX7_manner Q X) 60 14 lv [] S0 0 0 := fun h lv => u_X7_manner_14 (And.intro ⟨by decide, by decide⟩ (hb h))
  refine Exists.intro 61 (u_X7_manner_0 ?_)
  unfold bX7_manner_0
  refine e_ldI rfl (And.intro ⟨by decide, by decide⟩ (z_isEnd' (fun h => e_ifN (by decide) (fun _ => th (Or.inl h) _) (fun q => absurd rfl q)) (fun j hj ej => e_ifN (by decide) (fun q => absurd q (by decide)) (fun _ => ?_))))
  refine e_ldI rfl (And.intro ⟨by decide, by decide⟩ (z_isPort' (fun h => e_ifN (by decide) (fun _ => th (Or.inr h) _) (fun q => absurd rfl q)) (fun i hi ei => e_ifN (by decide) (fun q => absurd q (by decide)) (fun _ => ?_))))
  subst ej ei
  have nb : ¬ MB (nI j) (nI i) := fun q => q.elim (nbE hj) (nb8 hi)
  exact B_X7_manner_24 (Q := Q) (n := 59) hT (fun S' s i => ho nb S' s i) _ S0 _ _ _ _ _ rfl kx rfl hj rfl hi rfl ha rfl hb2 SH.rf ir (by omega)
theorem u_X7_lose_0 {Q : Option Value → MM → Prop} {X : String → MM → Prop} {n : Nat} {lv : Lv} {st : List Value} {S : MM} {c z : Nat} (h : bX7_lose_0 Q X (wpn (kX7_lose Q X) n) lv st S c z) : wpn (kX7_lose Q X) (n + 1) 0 lv st S c z := h
theorem u_X7_lose_24 {Q : Option Value → MM → Prop} {X : String → MM → Prop} {n : Nat} {lv : Lv} {st : List Value} {S : MM} {c z : Nat} (h : bX7_lose_24 Q X (wpn (kX7_lose Q X) n) lv st S c z) : wpn (kX7_lose Q X) (n + 1) 24 lv st S c z := h
theorem u_X7_lose_34 {Q : Option Value → MM → Prop} {X : String → MM → Prop} {n : Nat} {lv : Lv} {st : List Value} {S : MM} {c z : Nat} (h : bX7_lose_34 Q X (wpn (kX7_lose Q X) n) lv st S c z) : wpn (kX7_lose Q X) (n + 1) 34 lv st S c z := h
def P_X7_lose_34 (Q : Option Value → MM → Prop) (X : String → MM → Prop) (S0 : MM) (n : Nat) : Prop := ∀ (lv : Lv) (S : MM) (x0 : Nat) (i1 : Nat) (i2 : Nat) (w3 : Int32), lvg lv 0 = some (.ref x0) → sK S0 x0 = 8 → lvg lv 1 = some (.int (nI i1)) → i1 < 2 → lvg lv 2 = some (.int (nI i2)) → i2 < 8 → lvg lv 3 = some (.int w3) → SH [1, 4, 8] S0 S → IR S → 31 ≤ n → wpn (kX7_lose Q X) n 34 lv [] S 0 0
theorem B_X7_lose_34 {Q : Option Value → MM → Prop} {X : String → MM → Prop} {S0 : MM} {n : Nat} (hT : TY S0) (K : ∀ S', SH [1, 4, 8] S0 S' → IR S' → Q none S')  : P_X7_lose_34 Q X S0 (n + 1) := by
  intro lv S x0 i1 i2 w3 g0 k0 g1 h1 g2 h2 g3 sh ir hF
  refine u_X7_lose_34 ?_
  unfold bX7_lose_34
  refine e_ldA g0 ?_
  obtain ⟨b1, rb2, kb3, nb4⟩ := hT.1 x0 8 1 12 8 k0 rfl
  refine e_gR (SH_k sh k0) (SH_r sh rb2) ?_
  refine e_ldI g2 ?_
  obtain ⟨b5, rb6, kb7, nb8⟩ := hT.2.1 b1 12 8 1 i2 kb3 nb4 rfl (by omega)
  refine e_aR (SH_k sh kb3) (SH_n sh nb4) (by omega) (by decide) (SH_r sh rb6) ?_
  obtain ⟨b9, rb10, kb11, nb12⟩ := hT.1 b5 1 1 15 2 kb7 rfl
  refine e_gR (SH_k sh kb7) (SH_r sh rb10) ?_
  refine e_ldI g1 ?_
  obtain ⟨b13, rb14, kb15, nb16⟩ := hT.2.1 b9 15 2 4 i1 kb11 nb12 rfl (by omega)
  refine e_aR (SH_k sh kb11) (SH_n sh nb12) (by omega) (by decide) (SH_r sh rb14) ?_
  refine e_ldI g3 ?_
  refine y_tI (SH_k sh kb15) sh ir (by decide) (by decide) (fun N e => nomatch (show (none : Option Nat) = some N from e)) (fun S17 he18 sh19 ir20 => ?_)
  refine e_ldA g0 ?_
  refine And.intro (SH_k sh19 k0) (And.intro ⟨by decide, by decide⟩ (z_X7_noteChange (TY_SH hT sh19) ir20 (SH_k sh19 k0) (fun S21 s22 ir23 => ?_)))
  have sh24 := SH.tr sh19 s22 (by decide)
  exact e_rV (K _ sh24 ir23)
theorem z_lose {Q : Option Value → MM → Prop} {X : String → MM → Prop} {S0 : MM} {x : Nat} {v w p : Int32} (hT : TY S0) (ir : IR S0) (kx : sK S0 x = 8) (hb : LB v w p → X eI S0) (ho : ¬ LB v w p → ∀ S', SH [1, 4, 8] S0 S' → IR S' → Q none S') : wX7_lose [.ref x, .int v, .int w, .int p] S0 Q X := by
  have th : LB v w p → ∀ lv, wpn (kX7_lose Q X) 60 24 lv [] S0 0 0 := fun h lv => u_X7_lose_24 (And.intro ⟨by decide, by decide⟩ (hb h))
  refine Exists.intro 61 (u_X7_lose_0 ?_)
  unfold bX7_lose_0
  refine e_ldI rfl (And.intro ⟨by decide, by decide⟩ (z_isEnd' (fun h => e_ifN (by decide) (fun _ => th (Or.inl h) _) (fun q => absurd rfl q)) (fun j hj ej => e_ifN (by decide) (fun q => absurd q (by decide)) (fun _ => ?_))))
  refine e_ldI rfl (And.intro ⟨by decide, by decide⟩ (z_isCable' (fun h => e_ifN (by decide) (fun _ => th (Or.inr (Or.inl h)) _) (fun q => absurd rfl q)) (fun i hi ei => e_ifN (by decide) (fun q => absurd q (by decide)) (fun _ => ?_))))
  refine e_ldI rfl (And.intro (fun h => th (Or.inr (Or.inr (Or.inl h))) _) (fun h0 => e_ldI rfl (e_cI (And.intro (fun h1 => ?_) (fun h1 => th (Or.inr (Or.inr (Or.inr h1))) _)))))
  subst ej ei
  have nb : ¬ LB (nI j) (nI i) p := fun q => by
    rcases q with q | q | q
    · exact nbE hj q
    · exact nb8 hi q
    · exact q.elim h0 (fun z => z h1)
  exact B_X7_lose_34 (Q := Q) (n := 59) hT (fun S' s i => ho nb S' s i) _ S0 _ _ _ _ rfl kx rfl hj rfl hi rfl SH.rf ir (by omega)
