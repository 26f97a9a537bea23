/-! THE LAW: every call, then the loop over the script -/
theorem e_sld {b L j : Nat} {xs : Nat → Int32} {kt : Kt} {lv : Lv} {st : List Value} {S : MM} {c z : Nat} (hj : j < L) (hL : L ≤ 2560) (h : kt lv (.int (xs j) :: st) S c z) : sld b L xs kt lv (.int (nI j) :: .ref b :: st) S c z := And.intro rfl (And.intro (vp_in_nI hj (by omega)) (by rw [nI_clamp (by omega)]; exact h))
theorem e_po {k : Kt} {lv : Lv} {st : List Value} {S : MM} {c z : Nat} {x : Int32} (h : k lv st S c z) : po k lv (.int x :: st) S c z := h
theorem e_inc5 {k : Kt} {lv : Lv} {st : List Value} {S : MM} {c z i : Nat} (g : lvg lv 4 = some (.int (nI (5 * i)))) (h : k (lvs lv 4 (.int (nI (5 * (i + 1))))) st S c z) : inc 4 5 k lv st S c z := by
  unfold inc
  rw [g]
  have e : nI (5 * i) + 5 = nI (5 * (i + 1)) := nI_add (5 * i) 5
  rw [← e] at h
  exact h
theorem e_i2 {kt : Kt} {lv : Lv} {st : List Value} {S : MM} {c z : Nat} {x : Int32} (h : kt lv (.long x.toInt64 :: st) S c z) : i2 kt lv (.int x :: st) S c z := h
theorem e_lcm {kt : Kt} {lv : Lv} {st : List Value} {S : MM} {c z : Nat} {x : Int64} (h : kt lv (.int (nI 0) :: st) S c z) : lcm kt lv (.long x :: .long x :: st) S c z := by
  show kt lv (.int (lg_cmp x x) :: st) S c z
  have e : lg_cmp x x = nI 0 := by
    unfold lg_cmp
    rw [if_neg (fun z => absurd (Int64.lt_iff_toInt_lt.mp z) (Int.lt_irrefl _)), if_pos rfl]
    rfl
  rw [e]
  exact h
theorem e_aJ {kt : Kt} {lv : Lv} {st : List Value} {S : MM} {c z a : Nat} {v : Int64} (hk : sK S a = 18) (hn : sN S a = 1) (e : sJ S a 0 = v) (h : kt lv (.long v :: st) S c z) : aJ kt lv (.int (nI 0) :: .ref a :: st) S c z := And.intro hk (And.intro (by rw [hn]; exact vp_in_nI (by decide) (by decide)) (by rw [nI_clamp (by decide), e]; exact h))
theorem u_L_0 {b L : Nat} {xs : Nat → Int32} {n : Nat} {lv : Lv} {st : List Value} {S : MM} {c z : Nat} (h : bL_law_0 b L xs (wpn (kL_law b L xs) n) lv st S c z) : wpn (kL_law b L xs) (n + 1) 0 lv st S c z := h
theorem u_L_23 {b L : Nat} {xs : Nat → Int32} {n : Nat} {lv : Lv} {st : List Value} {S : MM} {c z : Nat} (h : bL_law_23 b L xs (wpn (kL_law b L xs) n) lv st S c z) : wpn (kL_law b L xs) (n + 1) 23 lv st S c z := h
theorem u_L_112 {b L : Nat} {xs : Nat → Int32} {n : Nat} {lv : Lv} {st : List Value} {S : MM} {c z : Nat} (h : bL_law_112 b L xs (wpn (kL_law b L xs) n) lv st S c z) : wpn (kL_law b L xs) (n + 1) 112 lv st S c z := h
theorem u_L_152 {b L : Nat} {xs : Nat → Int32} {n : Nat} {lv : Lv} {st : List Value} {S : MM} {c z : Nat} (h : bL_law_152 b L xs (wpn (kL_law b L xs) n) lv st S c z) : wpn (kL_law b L xs) (n + 1) 152 lv st S c z := h
theorem u_L_192 {b L : Nat} {xs : Nat → Int32} {n : Nat} {lv : Lv} {st : List Value} {S : MM} {c z : Nat} (h : bL_law_192 b L xs (wpn (kL_law b L xs) n) lv st S c z) : wpn (kL_law b L xs) (n + 1) 192 lv st S c z := h
theorem u_L_250 {b L : Nat} {xs : Nat → Int32} {n : Nat} {lv : Lv} {st : List Value} {S : MM} {c z : Nat} (h : bL_law_250 b L xs (wpn (kL_law b L xs) n) lv st S c z) : wpn (kL_law b L xs) (n + 1) 250 lv st S c z := h
theorem u_L_253 {b L : Nat} {xs : Nat → Int32} {n : Nat} {lv : Lv} {st : List Value} {S : MM} {c z : Nat} (h : bL_law_253 b L xs (wpn (kL_law b L xs) n) lv st S c z) : wpn (kL_law b L xs) (n + 1) 253 lv st S c z := h
theorem u_L_279 {b L : Nat} {xs : Nat → Int32} {n : Nat} {lv : Lv} {st : List Value} {S : MM} {c z : Nat} (h : bL_law_279 b L xs (wpn (kL_law b L xs) n) lv st S c z) : wpn (kL_law b L xs) (n + 1) 279 lv st S c z := h
theorem u_L_280 {b L : Nat} {xs : Nat → Int32} {n : Nat} {lv : Lv} {st : List Value} {S : MM} {c z : Nat} (h : bL_law_280 b L xs (wpn (kL_law b L xs) n) lv st S c z) : wpn (kL_law b L xs) (n + 1) 280 lv st S c z := h
theorem u_L_293 {b L : Nat} {xs : Nat → Int32} {n : Nat} {lv : Lv} {st : List Value} {S : MM} {c z : Nat} (h : bL_law_293 b L xs (wpn (kL_law b L xs) n) lv st S c z) : wpn (kL_law b L xs) (n + 1) 293 lv st S c z := h
theorem u_L_294 {b L : Nat} {xs : Nat → Int32} {n : Nat} {lv : Lv} {st : List Value} {S : MM} {c z : Nat} (h : bL_law_294 b L xs (wpn (kL_law b L xs) n) lv st S c z) : wpn (kL_law b L xs) (n + 1) 294 lv st S c z := h
theorem u_L_325 {b L : Nat} {xs : Nat → Int32} {n : Nat} {lv : Lv} {st : List Value} {S : MM} {c z : Nat} (h : bL_law_325 b L xs (wpn (kL_law b L xs) n) lv st S c z) : wpn (kL_law b L xs) (n + 1) 325 lv st S c z := h
theorem u_L_326 {b L : Nat} {xs : Nat → Int32} {n : Nat} {lv : Lv} {st : List Value} {S : MM} {c z : Nat} (h : bL_law_326 b L xs (wpn (kL_law b L xs) n) lv st S c z) : wpn (kL_law b L xs) (n + 1) 326 lv st S c z := h
theorem u_L_339 {b L : Nat} {xs : Nat → Int32} {n : Nat} {lv : Lv} {st : List Value} {S : MM} {c z : Nat} (h : bL_law_339 b L xs (wpn (kL_law b L xs) n) lv st S c z) : wpn (kL_law b L xs) (n + 1) 339 lv st S c z := h
theorem u_L_340 {b L : Nat} {xs : Nat → Int32} {n : Nat} {lv : Lv} {st : List Value} {S : MM} {c z : Nat} (h : bL_law_340 b L xs (wpn (kL_law b L xs) n) lv st S c z) : wpn (kL_law b L xs) (n + 1) 340 lv st S c z := h
theorem u_L_346 {b L : Nat} {xs : Nat → Int32} {n : Nat} {lv : Lv} {st : List Value} {S : MM} {c z : Nat} (h : bL_law_346 b L xs (wpn (kL_law b L xs) n) lv st S c z) : wpn (kL_law b L xs) (n + 1) 346 lv st S c z := h
theorem u_L_404 {b L : Nat} {xs : Nat → Int32} {n : Nat} {lv : Lv} {st : List Value} {S : MM} {c z : Nat} (h : bL_law_404 b L xs (wpn (kL_law b L xs) n) lv st S c z) : wpn (kL_law b L xs) (n + 1) 404 lv st S c z := h
theorem u_L_407 {b L : Nat} {xs : Nat → Int32} {n : Nat} {lv : Lv} {st : List Value} {S : MM} {c z : Nat} (h : bL_law_407 b L xs (wpn (kL_law b L xs) n) lv st S c z) : wpn (kL_law b L xs) (n + 1) 407 lv st S c z := h
theorem u_L_432 {b L : Nat} {xs : Nat → Int32} {n : Nat} {lv : Lv} {st : List Value} {S : MM} {c z : Nat} (h : bL_law_432 b L xs (wpn (kL_law b L xs) n) lv st S c z) : wpn (kL_law b L xs) (n + 1) 432 lv st S c z := h
theorem u_L_452 {b L : Nat} {xs : Nat → Int32} {n : Nat} {lv : Lv} {st : List Value} {S : MM} {c z : Nat} (h : bL_law_452 b L xs (wpn (kL_law b L xs) n) lv st S c z) : wpn (kL_law b L xs) (n + 1) 452 lv st S c z := h
theorem u_L_453 {b L : Nat} {xs : Nat → Int32} {n : Nat} {lv : Lv} {st : List Value} {S : MM} {c z : Nat} (h : bL_law_453 b L xs (wpn (kL_law b L xs) n) lv st S c z) : wpn (kL_law b L xs) (n + 1) 453 lv st S c z := h
theorem u_L_478 {b L : Nat} {xs : Nat → Int32} {n : Nat} {lv : Lv} {st : List Value} {S : MM} {c z : Nat} (h : bL_law_478 b L xs (wpn (kL_law b L xs) n) lv st S c z) : wpn (kL_law b L xs) (n + 1) 478 lv st S c z := h
theorem u_L_479 {b L : Nat} {xs : Nat → Int32} {n : Nat} {lv : Lv} {st : List Value} {S : MM} {c z : Nat} (h : bL_law_479 b L xs (wpn (kL_law b L xs) n) lv st S c z) : wpn (kL_law b L xs) (n + 1) 479 lv st S c z := h
theorem u_L_485 {b L : Nat} {xs : Nat → Int32} {n : Nat} {lv : Lv} {st : List Value} {S : MM} {c z : Nat} (h : bL_law_485 b L xs (wpn (kL_law b L xs) n) lv st S c z) : wpn (kL_law b L xs) (n + 1) 485 lv st S c z := h
theorem u_L_534 {b L : Nat} {xs : Nat → Int32} {n : Nat} {lv : Lv} {st : List Value} {S : MM} {c z : Nat} (h : bL_law_534 b L xs (wpn (kL_law b L xs) n) lv st S c z) : wpn (kL_law b L xs) (n + 1) 534 lv st S c z := h
theorem u_L_562 {b L : Nat} {xs : Nat → Int32} {n : Nat} {lv : Lv} {st : List Value} {S : MM} {c z : Nat} (h : bL_law_562 b L xs (wpn (kL_law b L xs) n) lv st S c z) : wpn (kL_law b L xs) (n + 1) 562 lv st S c z := h
theorem u_L_618 {b L : Nat} {xs : Nat → Int32} {n : Nat} {lv : Lv} {st : List Value} {S : MM} {c z : Nat} (h : bL_law_618 b L xs (wpn (kL_law b L xs) n) lv st S c z) : wpn (kL_law b L xs) (n + 1) 618 lv st S c z := h
theorem u_L_626 {b L : Nat} {xs : Nat → Int32} {n : Nat} {lv : Lv} {st : List Value} {S : MM} {c z : Nat} (h : bL_law_626 b L xs (wpn (kL_law b L xs) n) lv st S c z) : wpn (kL_law b L xs) (n + 1) 626 lv st S c z := h
theorem u_L_678 {b L : Nat} {xs : Nat → Int32} {n : Nat} {lv : Lv} {st : List Value} {S : MM} {c z : Nat} (h : bL_law_678 b L xs (wpn (kL_law b L xs) n) lv st S c z) : wpn (kL_law b L xs) (n + 1) 678 lv st S c z := h
theorem u_L_730 {b L : Nat} {xs : Nat → Int32} {n : Nat} {lv : Lv} {st : List Value} {S : MM} {c z : Nat} (h : bL_law_730 b L xs (wpn (kL_law b L xs) n) lv st S c z) : wpn (kL_law b L xs) (n + 1) 730 lv st S c z := h
theorem u_L_770 {b L : Nat} {xs : Nat → Int32} {n : Nat} {lv : Lv} {st : List Value} {S : MM} {c z : Nat} (h : bL_law_770 b L xs (wpn (kL_law b L xs) n) lv st S c z) : wpn (kL_law b L xs) (n + 1) 770 lv st S c z := h
theorem u_L_819 {b L : Nat} {xs : Nat → Int32} {n : Nat} {lv : Lv} {st : List Value} {S : MM} {c z : Nat} (h : bL_law_819 b L xs (wpn (kL_law b L xs) n) lv st S c z) : wpn (kL_law b L xs) (n + 1) 819 lv st S c z := h
theorem u_L_844 {b L : Nat} {xs : Nat → Int32} {n : Nat} {lv : Lv} {st : List Value} {S : MM} {c z : Nat} (h : bL_law_844 b L xs (wpn (kL_law b L xs) n) lv st S c z) : wpn (kL_law b L xs) (n + 1) 844 lv st S c z := h
theorem u_L_850 {b L : Nat} {xs : Nat → Int32} {n : Nat} {lv : Lv} {st : List Value} {S : MM} {c z : Nat} (h : bL_law_850 b L xs (wpn (kL_law b L xs) n) lv st S c z) : wpn (kL_law b L xs) (n + 1) 850 lv st S c z := h
theorem law_c0 {b L f i : Nat} {xs : Nat → Int32} {lv : Lv} {S : MM} {x m out c z : Nat} {A : Nat → Nat} (hL0 : L ≤ 2560) (hi : 5 * i + 5 ≤ L) (hc0 : c ≤ 600 + 2 * i) (hz0 : z ≤ 90000 + 13 * i) (hf : 14 ≤ f) (hG : GX S x m out A i) (l0 : lvg lv 0 = some (.ref b)) (l1 : lvg lv 1 = some (.ref x)) (l2 : lvg lv 2 = some (.ref m)) (l3 : lvg lv 3 = some (.ref out)) (l4 : lvg lv 4 = some (.int (nI (5 * i)))) (K : ∀ f' lv' S' c' z', f ≤ f' + 14 → lvg lv' 0 = some (.ref b) → lvg lv' 1 = some (.ref x) → lvg lv' 2 = some (.ref m) → lvg lv' 3 = some (.ref out) → lvg lv' 4 = some (.int (nI (5 * (i + 1)))) → GX S' x m out A (i + 1) → c' ≤ c + 2 → z' ≤ z + 13 → wpn (kL_law b L xs) f' 23 lv' [] S' c' z') : wpn (kL_law b L xs) f 112 lv [] S c z := by
  obtain ⟨f1, rfl⟩ : ∃ q, f = q + 1 := ⟨f - 1, by omega⟩
  refine u_L_112 ?_
  unfold bL_law_112
  refine e_ldA l1 ?_
  refine e_ldA l0 ?_
  refine e_ldI l4 ?_
  refine e_cN 1 rfl ?_
  refine e_add ?_
  refine e_sld (show ((5 * i) + 1) < L by omega) hL0 ?_
  refine e_ldA l0 ?_
  refine e_ldI l4 ?_
  refine e_cN 2 rfl ?_
  refine e_add ?_
  refine e_sld (show ((5 * i) + 2) < L by omega) hL0 ?_
  refine e_ldA l3 ?_
  refine And.intro ⟨by omega, by omega⟩ (k_system hG.1.1 (fun k1 S1 h1 m1 => ?_))
  refine e_stI ?_
  refine e_ldA (lvg_ne l2 rfl (by decide)) ?_
  refine e_ldA (lvg_ne l0 rfl (by decide)) ?_
  refine e_ldI (lvg_ne l4 rfl (by decide)) ?_
  refine e_cN 1 rfl ?_
  refine e_add ?_
  refine e_sld (show ((5 * i) + 1) < L by omega) hL0 ?_
  refine e_ldA (lvg_ne l0 rfl (by decide)) ?_
  refine e_ldI (lvg_ne l4 rfl (by decide)) ?_
  refine e_cN 2 rfl ?_
  refine e_add ?_
  refine e_sld (show ((5 * i) + 2) < L by omega) hL0 ?_
  refine And.intro h1.2.2.2.2.2.1.1 (And.intro ⟨by omega, by omega⟩ (h_system hG h1 m1 (fun k2 S2 hG2 => ?_)))
  refine e_stI ?_
  obtain ⟨f2, rfl⟩ : ∃ q, f1 = q + 1 := ⟨f1 - 1, by omega⟩
  refine u_L_844 ?_
  unfold bL_law_844
  exact e_inc5 (lvg_ne (lvg_ne l4 rfl (by decide)) rfl (by decide)) (K f2 _ _ _ _ (by omega) (lvg_ne (lvg_ne (lvg_ne l0 rfl (by decide)) rfl (by decide)) rfl (by decide)) (lvg_ne (lvg_ne (lvg_ne l1 rfl (by decide)) rfl (by decide)) rfl (by decide)) (lvg_ne (lvg_ne (lvg_ne l2 rfl (by decide)) rfl (by decide)) rfl (by decide)) (lvg_ne (lvg_ne (lvg_ne l3 rfl (by decide)) rfl (by decide)) rfl (by decide)) lvg_self hG2 (by omega) (by omega))
theorem law_c1 {b L f i : Nat} {xs : Nat → Int32} {lv : Lv} {S : MM} {x m out c z : Nat} {A : Nat → Nat} (hL0 : L ≤ 2560) (hi : 5 * i + 5 ≤ L) (hc0 : c ≤ 600 + 2 * i) (hz0 : z ≤ 90000 + 13 * i) (hf : 14 ≤ f) (hG : GX S x m out A i) (l0 : lvg lv 0 = some (.ref b)) (l1 : lvg lv 1 = some (.ref x)) (l2 : lvg lv 2 = some (.ref m)) (l3 : lvg lv 3 = some (.ref out)) (l4 : lvg lv 4 = some (.int (nI (5 * i)))) (K : ∀ f' lv' S' c' z', f ≤ f' + 14 → lvg lv' 0 = some (.ref b) → lvg lv' 1 = some (.ref x) → lvg lv' 2 = some (.ref m) → lvg lv' 3 = some (.ref out) → lvg lv' 4 = some (.int (nI (5 * (i + 1)))) → GX S' x m out A (i + 1) → c' ≤ c + 2 → z' ≤ z + 13 → wpn (kL_law b L xs) f' 23 lv' [] S' c' z') : wpn (kL_law b L xs) f 152 lv [] S c z := by
  obtain ⟨f1, rfl⟩ : ∃ q, f = q + 1 := ⟨f - 1, by omega⟩
  refine u_L_152 ?_
  unfold bL_law_152
  refine e_ldA l1 ?_
  refine e_ldA l0 ?_
  refine e_ldI l4 ?_
  refine e_cN 1 rfl ?_
  refine e_add ?_
  refine e_sld (show ((5 * i) + 1) < L by omega) hL0 ?_
  refine e_ldA l0 ?_
  refine e_ldI l4 ?_
  refine e_cN 2 rfl ?_
  refine e_add ?_
  refine e_sld (show ((5 * i) + 2) < L by omega) hL0 ?_
  refine e_ldA l3 ?_
  refine And.intro ⟨by omega, by omega⟩ (k_limit hG.1.1 (fun k1 S1 h1 m1 => ?_))
  refine e_stI ?_
  refine e_ldA (lvg_ne l2 rfl (by decide)) ?_
  refine e_ldA (lvg_ne l0 rfl (by decide)) ?_
  refine e_ldI (lvg_ne l4 rfl (by decide)) ?_
  refine e_cN 1 rfl ?_
  refine e_add ?_
  refine e_sld (show ((5 * i) + 1) < L by omega) hL0 ?_
  refine e_ldA (lvg_ne l0 rfl (by decide)) ?_
  refine e_ldI (lvg_ne l4 rfl (by decide)) ?_
  refine e_cN 2 rfl ?_
  refine e_add ?_
  refine e_sld (show ((5 * i) + 2) < L by omega) hL0 ?_
  refine And.intro h1.2.2.2.2.2.1.1 (And.intro ⟨by omega, by omega⟩ (h_limit hG h1 m1 (fun k2 S2 hG2 => ?_)))
  refine e_stI ?_
  obtain ⟨f2, rfl⟩ : ∃ q, f1 = q + 1 := ⟨f1 - 1, by omega⟩
  refine u_L_844 ?_
  unfold bL_law_844
  exact e_inc5 (lvg_ne (lvg_ne l4 rfl (by decide)) rfl (by decide)) (K f2 _ _ _ _ (by omega) (lvg_ne (lvg_ne (lvg_ne l0 rfl (by decide)) rfl (by decide)) rfl (by decide)) (lvg_ne (lvg_ne (lvg_ne l1 rfl (by decide)) rfl (by decide)) rfl (by decide)) (lvg_ne (lvg_ne (lvg_ne l2 rfl (by decide)) rfl (by decide)) rfl (by decide)) (lvg_ne (lvg_ne (lvg_ne l3 rfl (by decide)) rfl (by decide)) rfl (by decide)) lvg_self hG2 (by omega) (by omega))
theorem law_c2 {b L f i : Nat} {xs : Nat → Int32} {lv : Lv} {S : MM} {x m out c z : Nat} {A : Nat → Nat} (hL0 : L ≤ 2560) (hi : 5 * i + 5 ≤ L) (hc0 : c ≤ 600 + 2 * i) (hz0 : z ≤ 90000 + 13 * i) (hf : 14 ≤ f) (hG : GX S x m out A i) (l0 : lvg lv 0 = some (.ref b)) (l1 : lvg lv 1 = some (.ref x)) (l2 : lvg lv 2 = some (.ref m)) (l3 : lvg lv 3 = some (.ref out)) (l4 : lvg lv 4 = some (.int (nI (5 * i)))) (K : ∀ f' lv' S' c' z', f ≤ f' + 14 → lvg lv' 0 = some (.ref b) → lvg lv' 1 = some (.ref x) → lvg lv' 2 = some (.ref m) → lvg lv' 3 = some (.ref out) → lvg lv' 4 = some (.int (nI (5 * (i + 1)))) → GX S' x m out A (i + 1) → c' ≤ c + 2 → z' ≤ z + 13 → wpn (kL_law b L xs) f' 23 lv' [] S' c' z') : wpn (kL_law b L xs) f 192 lv [] S c z := by
  obtain ⟨f1, rfl⟩ : ∃ q, f = q + 1 := ⟨f - 1, by omega⟩
  refine u_L_192 ?_
  unfold bL_law_192
  refine e_ldA l1 ?_
  refine e_ldA l0 ?_
  refine e_ldI l4 ?_
  refine e_cN 1 rfl ?_
  refine e_add ?_
  refine e_sld (show ((5 * i) + 1) < L by omega) hL0 ?_
  refine e_ldA l0 ?_
  refine e_ldI l4 ?_
  refine e_cN 2 rfl ?_
  refine e_add ?_
  refine e_sld (show ((5 * i) + 2) < L by omega) hL0 ?_
  refine e_ldA l0 ?_
  refine e_ldI l4 ?_
  refine e_cN 3 rfl ?_
  refine e_add ?_
  refine e_sld (show ((5 * i) + 3) < L by omega) hL0 ?_
  refine e_ldA l0 ?_
  refine e_ldI l4 ?_
  refine e_cN 4 rfl ?_
  refine e_add ?_
  refine e_sld (show ((5 * i) + 4) < L by omega) hL0 ?_
  refine And.intro ⟨by omega, by omega⟩ (k_port hG.1.1 (fun k1 S1 h1 m1 => ?_))
  refine e_stI ?_
  refine e_ldA (lvg_ne l2 rfl (by decide)) ?_
  refine e_ldA (lvg_ne l0 rfl (by decide)) ?_
  refine e_ldI (lvg_ne l4 rfl (by decide)) ?_
  refine e_cN 1 rfl ?_
  refine e_add ?_
  refine e_sld (show ((5 * i) + 1) < L by omega) hL0 ?_
  refine e_ldA (lvg_ne l0 rfl (by decide)) ?_
  refine e_ldI (lvg_ne l4 rfl (by decide)) ?_
  refine e_cN 2 rfl ?_
  refine e_add ?_
  refine e_sld (show ((5 * i) + 2) < L by omega) hL0 ?_
  refine e_ldA (lvg_ne l0 rfl (by decide)) ?_
  refine e_ldI (lvg_ne l4 rfl (by decide)) ?_
  refine e_cN 3 rfl ?_
  refine e_add ?_
  refine e_sld (show ((5 * i) + 3) < L by omega) hL0 ?_
  refine e_ldA (lvg_ne l0 rfl (by decide)) ?_
  refine e_ldI (lvg_ne l4 rfl (by decide)) ?_
  refine e_cN 4 rfl ?_
  refine e_add ?_
  refine e_sld (show ((5 * i) + 4) < L by omega) hL0 ?_
  refine And.intro h1.2.2.2.2.2.1.1 (And.intro ⟨by omega, by omega⟩ (h_port hG h1 m1 (fun S2 hG2 => ?_)))
  obtain ⟨f2, rfl⟩ : ∃ q, f1 = q + 1 := ⟨f1 - 1, by omega⟩
  refine u_L_250 ?_
  unfold bL_law_250
  obtain ⟨f3, rfl⟩ : ∃ q, f2 = q + 1 := ⟨f2 - 1, by omega⟩
  refine u_L_844 ?_
  unfold bL_law_844
  exact e_inc5 (lvg_ne l4 rfl (by decide)) (K f3 _ _ _ _ (by omega) (lvg_ne (lvg_ne l0 rfl (by decide)) rfl (by decide)) (lvg_ne (lvg_ne l1 rfl (by decide)) rfl (by decide)) (lvg_ne (lvg_ne l2 rfl (by decide)) rfl (by decide)) (lvg_ne (lvg_ne l3 rfl (by decide)) rfl (by decide)) lvg_self hG2 (by omega) (by omega))
theorem law_c3 {b L f i : Nat} {xs : Nat → Int32} {lv : Lv} {S : MM} {x m out c z : Nat} {A : Nat → Nat} (hL0 : L ≤ 2560) (hi : 5 * i + 5 ≤ L) (hc0 : c ≤ 600 + 2 * i) (hz0 : z ≤ 90000 + 13 * i) (hf : 14 ≤ f) (hG : GX S x m out A i) (l0 : lvg lv 0 = some (.ref b)) (l1 : lvg lv 1 = some (.ref x)) (l2 : lvg lv 2 = some (.ref m)) (l3 : lvg lv 3 = some (.ref out)) (l4 : lvg lv 4 = some (.int (nI (5 * i)))) (K : ∀ f' lv' S' c' z', f ≤ f' + 14 → lvg lv' 0 = some (.ref b) → lvg lv' 1 = some (.ref x) → lvg lv' 2 = some (.ref m) → lvg lv' 3 = some (.ref out) → lvg lv' 4 = some (.int (nI (5 * (i + 1)))) → GX S' x m out A (i + 1) → c' ≤ c + 2 → z' ≤ z + 13 → wpn (kL_law b L xs) f' 23 lv' [] S' c' z') : wpn (kL_law b L xs) f 253 lv [] S c z := by
  obtain ⟨f1, rfl⟩ : ∃ q, f = q + 1 := ⟨f - 1, by omega⟩
  refine u_L_253 ?_
  unfold bL_law_253
  refine e_ldA l1 ?_
  refine e_ldA l0 ?_
  refine e_ldI l4 ?_
  refine e_cN 1 rfl ?_
  refine e_add ?_
  refine e_sld (show ((5 * i) + 1) < L by omega) hL0 ?_
  refine e_ldA l0 ?_
  refine e_ldI l4 ?_
  refine e_cN 2 rfl ?_
  refine e_add ?_
  refine e_sld (show ((5 * i) + 2) < L by omega) hL0 ?_
  refine e_ldA l0 ?_
  refine e_ldI l4 ?_
  refine e_cN 3 rfl ?_
  refine e_add ?_
  refine e_sld (show ((5 * i) + 3) < L by omega) hL0 ?_
  refine ⟨fun h2 => ?_, fun h2 => ?_⟩
  · obtain ⟨f3, rfl⟩ : ∃ q, f1 = q + 1 := ⟨f1 - 1, by omega⟩
    refine u_L_279 ?_
    unfold bL_law_279
    refine e_cN 0 rfl ?_
    obtain ⟨f4, rfl⟩ : ∃ q, f3 = q + 1 := ⟨f3 - 1, by omega⟩
    refine u_L_280 ?_
    unfold bL_law_280
    refine e_ldA l0 ?_
    refine e_ldI l4 ?_
    refine e_cN 4 rfl ?_
    refine e_add ?_
    refine e_sld (show ((5 * i) + 4) < L by omega) hL0 ?_
    refine ⟨fun h5 => ?_, fun h5 => ?_⟩
    · obtain ⟨f6, rfl⟩ : ∃ q, f4 = q + 1 := ⟨f4 - 1, by omega⟩
      refine u_L_293 ?_
      unfold bL_law_293
      refine e_cN 0 rfl ?_
      obtain ⟨f7, rfl⟩ : ∃ q, f6 = q + 1 := ⟨f6 - 1, by omega⟩
      refine u_L_294 ?_
      unfold bL_law_294
      refine And.intro ⟨by omega, by omega⟩ (k_manner hG.1.1 (fun k1 S1 h1 m1 => ?_))
      refine e_stI ?_
      refine e_ldA (lvg_ne l2 rfl (by decide)) ?_
      refine e_ldA (lvg_ne l0 rfl (by decide)) ?_
      refine e_ldI (lvg_ne l4 rfl (by decide)) ?_
      refine e_cN 1 rfl ?_
      refine e_add ?_
      refine e_sld (show ((5 * i) + 1) < L by omega) hL0 ?_
      refine e_ldA (lvg_ne l0 rfl (by decide)) ?_
      refine e_ldI (lvg_ne l4 rfl (by decide)) ?_
      refine e_cN 2 rfl ?_
      refine e_add ?_
      refine e_sld (show ((5 * i) + 2) < L by omega) hL0 ?_
      refine e_ldA (lvg_ne l0 rfl (by decide)) ?_
      refine e_ldI (lvg_ne l4 rfl (by decide)) ?_
      refine e_cN 3 rfl ?_
      refine e_add ?_
      refine e_sld (show ((5 * i) + 3) < L by omega) hL0 ?_
      refine ⟨fun _ => ?_, fun z => absurd h2 z⟩
      obtain ⟨f8, rfl⟩ : ∃ q, f7 = q + 1 := ⟨f7 - 1, by omega⟩
      refine u_L_325 ?_
      unfold bL_law_325
      refine e_cN 0 rfl ?_
      obtain ⟨f9, rfl⟩ : ∃ q, f8 = q + 1 := ⟨f8 - 1, by omega⟩
      refine u_L_326 ?_
      unfold bL_law_326
      refine e_ldA (lvg_ne l0 rfl (by decide)) ?_
      refine e_ldI (lvg_ne l4 rfl (by decide)) ?_
      refine e_cN 4 rfl ?_
      refine e_add ?_
      refine e_sld (show ((5 * i) + 4) < L by omega) hL0 ?_
      refine ⟨fun _ => ?_, fun z => absurd h5 z⟩
      obtain ⟨f10, rfl⟩ : ∃ q, f9 = q + 1 := ⟨f9 - 1, by omega⟩
      refine u_L_339 ?_
      unfold bL_law_339
      refine e_cN 0 rfl ?_
      obtain ⟨f11, rfl⟩ : ∃ q, f10 = q + 1 := ⟨f10 - 1, by omega⟩
      refine u_L_340 ?_
      unfold bL_law_340
      refine And.intro h1.2.2.2.2.2.1.1 (And.intro ⟨by omega, by omega⟩ (h_manner (by decide) (by decide) hG h1 m1 (fun S2 hG2 => ?_)))
      obtain ⟨f12, rfl⟩ : ∃ q, f11 = q + 1 := ⟨f11 - 1, by omega⟩
      refine u_L_844 ?_
      unfold bL_law_844
      exact e_inc5 (lvg_ne l4 rfl (by decide)) (K f12 _ _ _ _ (by omega) (lvg_ne (lvg_ne l0 rfl (by decide)) rfl (by decide)) (lvg_ne (lvg_ne l1 rfl (by decide)) rfl (by decide)) (lvg_ne (lvg_ne l2 rfl (by decide)) rfl (by decide)) (lvg_ne (lvg_ne l3 rfl (by decide)) rfl (by decide)) lvg_self hG2 (by omega) (by omega))
    · refine e_cN 1 rfl ?_
      obtain ⟨f13, rfl⟩ : ∃ q, f4 = q + 1 := ⟨f4 - 1, by omega⟩
      refine u_L_294 ?_
      unfold bL_law_294
      refine And.intro ⟨by omega, by omega⟩ (k_manner hG.1.1 (fun k1 S1 h1 m1 => ?_))
      refine e_stI ?_
      refine e_ldA (lvg_ne l2 rfl (by decide)) ?_
      refine e_ldA (lvg_ne l0 rfl (by decide)) ?_
      refine e_ldI (lvg_ne l4 rfl (by decide)) ?_
      refine e_cN 1 rfl ?_
      refine e_add ?_
      refine e_sld (show ((5 * i) + 1) < L by omega) hL0 ?_
      refine e_ldA (lvg_ne l0 rfl (by decide)) ?_
      refine e_ldI (lvg_ne l4 rfl (by decide)) ?_
      refine e_cN 2 rfl ?_
      refine e_add ?_
      refine e_sld (show ((5 * i) + 2) < L by omega) hL0 ?_
      refine e_ldA (lvg_ne l0 rfl (by decide)) ?_
      refine e_ldI (lvg_ne l4 rfl (by decide)) ?_
      refine e_cN 3 rfl ?_
      refine e_add ?_
      refine e_sld (show ((5 * i) + 3) < L by omega) hL0 ?_
      refine ⟨fun _ => ?_, fun z => absurd h2 z⟩
      obtain ⟨f14, rfl⟩ : ∃ q, f13 = q + 1 := ⟨f13 - 1, by omega⟩
      refine u_L_325 ?_
      unfold bL_law_325
      refine e_cN 0 rfl ?_
      obtain ⟨f15, rfl⟩ : ∃ q, f14 = q + 1 := ⟨f14 - 1, by omega⟩
      refine u_L_326 ?_
      unfold bL_law_326
      refine e_ldA (lvg_ne l0 rfl (by decide)) ?_
      refine e_ldI (lvg_ne l4 rfl (by decide)) ?_
      refine e_cN 4 rfl ?_
      refine e_add ?_
      refine e_sld (show ((5 * i) + 4) < L by omega) hL0 ?_
      refine ⟨fun z => absurd z h5, fun _ => ?_⟩
      refine e_cN 1 rfl ?_
      obtain ⟨f16, rfl⟩ : ∃ q, f15 = q + 1 := ⟨f15 - 1, by omega⟩
      refine u_L_340 ?_
      unfold bL_law_340
      refine And.intro h1.2.2.2.2.2.1.1 (And.intro ⟨by omega, by omega⟩ (h_manner (by decide) (by decide) hG h1 m1 (fun S2 hG2 => ?_)))
      obtain ⟨f17, rfl⟩ : ∃ q, f16 = q + 1 := ⟨f16 - 1, by omega⟩
      refine u_L_844 ?_
      unfold bL_law_844
      exact e_inc5 (lvg_ne l4 rfl (by decide)) (K f17 _ _ _ _ (by omega) (lvg_ne (lvg_ne l0 rfl (by decide)) rfl (by decide)) (lvg_ne (lvg_ne l1 rfl (by decide)) rfl (by decide)) (lvg_ne (lvg_ne l2 rfl (by decide)) rfl (by decide)) (lvg_ne (lvg_ne l3 rfl (by decide)) rfl (by decide)) lvg_self hG2 (by omega) (by omega))
  · refine e_cN 1 rfl ?_
    obtain ⟨f18, rfl⟩ : ∃ q, f1 = q + 1 := ⟨f1 - 1, by omega⟩
    refine u_L_280 ?_
    unfold bL_law_280
    refine e_ldA l0 ?_
    refine e_ldI l4 ?_
    refine e_cN 4 rfl ?_
    refine e_add ?_
    refine e_sld (show ((5 * i) + 4) < L by omega) hL0 ?_
    refine ⟨fun h19 => ?_, fun h19 => ?_⟩
    · obtain ⟨f20, rfl⟩ : ∃ q, f18 = q + 1 := ⟨f18 - 1, by omega⟩
      refine u_L_293 ?_
      unfold bL_law_293
      refine e_cN 0 rfl ?_
      obtain ⟨f21, rfl⟩ : ∃ q, f20 = q + 1 := ⟨f20 - 1, by omega⟩
      refine u_L_294 ?_
      unfold bL_law_294
      refine And.intro ⟨by omega, by omega⟩ (k_manner hG.1.1 (fun k1 S1 h1 m1 => ?_))
      refine e_stI ?_
      refine e_ldA (lvg_ne l2 rfl (by decide)) ?_
      refine e_ldA (lvg_ne l0 rfl (by decide)) ?_
      refine e_ldI (lvg_ne l4 rfl (by decide)) ?_
      refine e_cN 1 rfl ?_
      refine e_add ?_
      refine e_sld (show ((5 * i) + 1) < L by omega) hL0 ?_
      refine e_ldA (lvg_ne l0 rfl (by decide)) ?_
      refine e_ldI (lvg_ne l4 rfl (by decide)) ?_
      refine e_cN 2 rfl ?_
      refine e_add ?_
      refine e_sld (show ((5 * i) + 2) < L by omega) hL0 ?_
      refine e_ldA (lvg_ne l0 rfl (by decide)) ?_
      refine e_ldI (lvg_ne l4 rfl (by decide)) ?_
      refine e_cN 3 rfl ?_
      refine e_add ?_
      refine e_sld (show ((5 * i) + 3) < L by omega) hL0 ?_
      refine ⟨fun z => absurd z h2, fun _ => ?_⟩
      refine e_cN 1 rfl ?_
      obtain ⟨f22, rfl⟩ : ∃ q, f21 = q + 1 := ⟨f21 - 1, by omega⟩
      refine u_L_326 ?_
      unfold bL_law_326
      refine e_ldA (lvg_ne l0 rfl (by decide)) ?_
      refine e_ldI (lvg_ne l4 rfl (by decide)) ?_
      refine e_cN 4 rfl ?_
      refine e_add ?_
      refine e_sld (show ((5 * i) + 4) < L by omega) hL0 ?_
      refine ⟨fun _ => ?_, fun z => absurd h19 z⟩
      obtain ⟨f23, rfl⟩ : ∃ q, f22 = q + 1 := ⟨f22 - 1, by omega⟩
      refine u_L_339 ?_
      unfold bL_law_339
      refine e_cN 0 rfl ?_
      obtain ⟨f24, rfl⟩ : ∃ q, f23 = q + 1 := ⟨f23 - 1, by omega⟩
      refine u_L_340 ?_
      unfold bL_law_340
      refine And.intro h1.2.2.2.2.2.1.1 (And.intro ⟨by omega, by omega⟩ (h_manner (by decide) (by decide) hG h1 m1 (fun S2 hG2 => ?_)))
      obtain ⟨f25, rfl⟩ : ∃ q, f24 = q + 1 := ⟨f24 - 1, by omega⟩
      refine u_L_844 ?_
      unfold bL_law_844
      exact e_inc5 (lvg_ne l4 rfl (by decide)) (K f25 _ _ _ _ (by omega) (lvg_ne (lvg_ne l0 rfl (by decide)) rfl (by decide)) (lvg_ne (lvg_ne l1 rfl (by decide)) rfl (by decide)) (lvg_ne (lvg_ne l2 rfl (by decide)) rfl (by decide)) (lvg_ne (lvg_ne l3 rfl (by decide)) rfl (by decide)) lvg_self hG2 (by omega) (by omega))
    · refine e_cN 1 rfl ?_
      obtain ⟨f26, rfl⟩ : ∃ q, f18 = q + 1 := ⟨f18 - 1, by omega⟩
      refine u_L_294 ?_
      unfold bL_law_294
      refine And.intro ⟨by omega, by omega⟩ (k_manner hG.1.1 (fun k1 S1 h1 m1 => ?_))
      refine e_stI ?_
      refine e_ldA (lvg_ne l2 rfl (by decide)) ?_
      refine e_ldA (lvg_ne l0 rfl (by decide)) ?_
      refine e_ldI (lvg_ne l4 rfl (by decide)) ?_
      refine e_cN 1 rfl ?_
      refine e_add ?_
      refine e_sld (show ((5 * i) + 1) < L by omega) hL0 ?_
      refine e_ldA (lvg_ne l0 rfl (by decide)) ?_
      refine e_ldI (lvg_ne l4 rfl (by decide)) ?_
      refine e_cN 2 rfl ?_
      refine e_add ?_
      refine e_sld (show ((5 * i) + 2) < L by omega) hL0 ?_
      refine e_ldA (lvg_ne l0 rfl (by decide)) ?_
      refine e_ldI (lvg_ne l4 rfl (by decide)) ?_
      refine e_cN 3 rfl ?_
      refine e_add ?_
      refine e_sld (show ((5 * i) + 3) < L by omega) hL0 ?_
      refine ⟨fun z => absurd z h2, fun _ => ?_⟩
      refine e_cN 1 rfl ?_
      obtain ⟨f27, rfl⟩ : ∃ q, f26 = q + 1 := ⟨f26 - 1, by omega⟩
      refine u_L_326 ?_
      unfold bL_law_326
      refine e_ldA (lvg_ne l0 rfl (by decide)) ?_
      refine e_ldI (lvg_ne l4 rfl (by decide)) ?_
      refine e_cN 4 rfl ?_
      refine e_add ?_
      refine e_sld (show ((5 * i) + 4) < L by omega) hL0 ?_
      refine ⟨fun z => absurd z h19, fun _ => ?_⟩
      refine e_cN 1 rfl ?_
      obtain ⟨f28, rfl⟩ : ∃ q, f27 = q + 1 := ⟨f27 - 1, by omega⟩
      refine u_L_340 ?_
      unfold bL_law_340
      refine And.intro h1.2.2.2.2.2.1.1 (And.intro ⟨by omega, by omega⟩ (h_manner (by decide) (by decide) hG h1 m1 (fun S2 hG2 => ?_)))
      obtain ⟨f29, rfl⟩ : ∃ q, f28 = q + 1 := ⟨f28 - 1, by omega⟩
      refine u_L_844 ?_
      unfold bL_law_844
      exact e_inc5 (lvg_ne l4 rfl (by decide)) (K f29 _ _ _ _ (by omega) (lvg_ne (lvg_ne l0 rfl (by decide)) rfl (by decide)) (lvg_ne (lvg_ne l1 rfl (by decide)) rfl (by decide)) (lvg_ne (lvg_ne l2 rfl (by decide)) rfl (by decide)) (lvg_ne (lvg_ne l3 rfl (by decide)) rfl (by decide)) lvg_self hG2 (by omega) (by omega))
theorem law_c4 {b L f i : Nat} {xs : Nat → Int32} {lv : Lv} {S : MM} {x m out c z : Nat} {A : Nat → Nat} (hL0 : L ≤ 2560) (hi : 5 * i + 5 ≤ L) (hc0 : c ≤ 600 + 2 * i) (hz0 : z ≤ 90000 + 13 * i) (hf : 14 ≤ f) (hG : GX S x m out A i) (l0 : lvg lv 0 = some (.ref b)) (l1 : lvg lv 1 = some (.ref x)) (l2 : lvg lv 2 = some (.ref m)) (l3 : lvg lv 3 = some (.ref out)) (l4 : lvg lv 4 = some (.int (nI (5 * i)))) (K : ∀ f' lv' S' c' z', f ≤ f' + 14 → lvg lv' 0 = some (.ref b) → lvg lv' 1 = some (.ref x) → lvg lv' 2 = some (.ref m) → lvg lv' 3 = some (.ref out) → lvg lv' 4 = some (.int (nI (5 * (i + 1)))) → GX S' x m out A (i + 1) → c' ≤ c + 2 → z' ≤ z + 13 → wpn (kL_law b L xs) f' 23 lv' [] S' c' z') : wpn (kL_law b L xs) f 346 lv [] S c z := by
  obtain ⟨f1, rfl⟩ : ∃ q, f = q + 1 := ⟨f - 1, by omega⟩
  refine u_L_346 ?_
  unfold bL_law_346
  refine e_ldA l1 ?_
  refine e_ldA l0 ?_
  refine e_ldI l4 ?_
  refine e_cN 1 rfl ?_
  refine e_add ?_
  refine e_sld (show ((5 * i) + 1) < L by omega) hL0 ?_
  refine e_ldA l0 ?_
  refine e_ldI l4 ?_
  refine e_cN 2 rfl ?_
  refine e_add ?_
  refine e_sld (show ((5 * i) + 2) < L by omega) hL0 ?_
  refine e_ldA l0 ?_
  refine e_ldI l4 ?_
  refine e_cN 3 rfl ?_
  refine e_add ?_
  refine e_sld (show ((5 * i) + 3) < L by omega) hL0 ?_
  refine e_ldA l0 ?_
  refine e_ldI l4 ?_
  refine e_cN 4 rfl ?_
  refine e_add ?_
  refine e_sld (show ((5 * i) + 4) < L by omega) hL0 ?_
  refine And.intro ⟨by omega, by omega⟩ (k_plug hG.1.1 (fun k1 S1 h1 m1 => ?_))
  refine e_stI ?_
  refine e_ldA (lvg_ne l2 rfl (by decide)) ?_
  refine e_ldA (lvg_ne l0 rfl (by decide)) ?_
  refine e_ldI (lvg_ne l4 rfl (by decide)) ?_
  refine e_cN 1 rfl ?_
  refine e_add ?_
  refine e_sld (show ((5 * i) + 1) < L by omega) hL0 ?_
  refine e_ldA (lvg_ne l0 rfl (by decide)) ?_
  refine e_ldI (lvg_ne l4 rfl (by decide)) ?_
  refine e_cN 2 rfl ?_
  refine e_add ?_
  refine e_sld (show ((5 * i) + 2) < L by omega) hL0 ?_
  refine e_ldA (lvg_ne l0 rfl (by decide)) ?_
  refine e_ldI (lvg_ne l4 rfl (by decide)) ?_
  refine e_cN 3 rfl ?_
  refine e_add ?_
  refine e_sld (show ((5 * i) + 3) < L by omega) hL0 ?_
  refine e_ldA (lvg_ne l0 rfl (by decide)) ?_
  refine e_ldI (lvg_ne l4 rfl (by decide)) ?_
  refine e_cN 4 rfl ?_
  refine e_add ?_
  refine e_sld (show ((5 * i) + 4) < L by omega) hL0 ?_
  refine And.intro h1.2.2.2.2.2.1.1 (And.intro ⟨by omega, by omega⟩ (h_plug (by omega) hG h1 m1 (fun S2 hG2 => ?_)))
  obtain ⟨f2, rfl⟩ : ∃ q, f1 = q + 1 := ⟨f1 - 1, by omega⟩
  refine u_L_404 ?_
  unfold bL_law_404
  obtain ⟨f3, rfl⟩ : ∃ q, f2 = q + 1 := ⟨f2 - 1, by omega⟩
  refine u_L_844 ?_
  unfold bL_law_844
  exact e_inc5 (lvg_ne l4 rfl (by decide)) (K f3 _ _ _ _ (by omega) (lvg_ne (lvg_ne l0 rfl (by decide)) rfl (by decide)) (lvg_ne (lvg_ne l1 rfl (by decide)) rfl (by decide)) (lvg_ne (lvg_ne l2 rfl (by decide)) rfl (by decide)) (lvg_ne (lvg_ne l3 rfl (by decide)) rfl (by decide)) lvg_self hG2 (by omega) (by omega))
theorem law_c5 {b L f i : Nat} {xs : Nat → Int32} {lv : Lv} {S : MM} {x m out c z : Nat} {A : Nat → Nat} (hL0 : L ≤ 2560) (hi : 5 * i + 5 ≤ L) (hc0 : c ≤ 600 + 2 * i) (hz0 : z ≤ 90000 + 13 * i) (hf : 14 ≤ f) (hG : GX S x m out A i) (l0 : lvg lv 0 = some (.ref b)) (l1 : lvg lv 1 = some (.ref x)) (l2 : lvg lv 2 = some (.ref m)) (l3 : lvg lv 3 = some (.ref out)) (l4 : lvg lv 4 = some (.int (nI (5 * i)))) (K : ∀ f' lv' S' c' z', f ≤ f' + 14 → lvg lv' 0 = some (.ref b) → lvg lv' 1 = some (.ref x) → lvg lv' 2 = some (.ref m) → lvg lv' 3 = some (.ref out) → lvg lv' 4 = some (.int (nI (5 * (i + 1)))) → GX S' x m out A (i + 1) → c' ≤ c + 2 → z' ≤ z + 13 → wpn (kL_law b L xs) f' 23 lv' [] S' c' z') : wpn (kL_law b L xs) f 407 lv [] S c z := by
  obtain ⟨f1, rfl⟩ : ∃ q, f = q + 1 := ⟨f - 1, by omega⟩
  refine u_L_407 ?_
  unfold bL_law_407
  refine e_ldA l1 ?_
  refine e_ldA l0 ?_
  refine e_ldI l4 ?_
  refine e_cN 1 rfl ?_
  refine e_add ?_
  refine e_sld (show ((5 * i) + 1) < L by omega) hL0 ?_
  refine And.intro ⟨by omega, by omega⟩ (k_pull hG.1.1 (fun k1 S1 h1 m1 => ?_))
  refine e_stI ?_
  refine e_ldA (lvg_ne l2 rfl (by decide)) ?_
  refine e_ldA (lvg_ne l0 rfl (by decide)) ?_
  refine e_ldI (lvg_ne l4 rfl (by decide)) ?_
  refine e_cN 1 rfl ?_
  refine e_add ?_
  refine e_sld (show ((5 * i) + 1) < L by omega) hL0 ?_
  refine And.intro h1.2.2.2.2.2.1.1 (And.intro ⟨by omega, by omega⟩ (h_pull (by omega) hG h1 m1 (fun S2 hG2 => ?_)))
  obtain ⟨f2, rfl⟩ : ∃ q, f1 = q + 1 := ⟨f1 - 1, by omega⟩
  refine u_L_844 ?_
  unfold bL_law_844
  exact e_inc5 (lvg_ne l4 rfl (by decide)) (K f2 _ _ _ _ (by omega) (lvg_ne (lvg_ne l0 rfl (by decide)) rfl (by decide)) (lvg_ne (lvg_ne l1 rfl (by decide)) rfl (by decide)) (lvg_ne (lvg_ne l2 rfl (by decide)) rfl (by decide)) (lvg_ne (lvg_ne l3 rfl (by decide)) rfl (by decide)) lvg_self hG2 (by omega) (by omega))
theorem law_c6 {b L f i : Nat} {xs : Nat → Int32} {lv : Lv} {S : MM} {x m out c z : Nat} {A : Nat → Nat} (hL0 : L ≤ 2560) (hi : 5 * i + 5 ≤ L) (hc0 : c ≤ 600 + 2 * i) (hz0 : z ≤ 90000 + 13 * i) (hf : 14 ≤ f) (hG : GX S x m out A i) (l0 : lvg lv 0 = some (.ref b)) (l1 : lvg lv 1 = some (.ref x)) (l2 : lvg lv 2 = some (.ref m)) (l3 : lvg lv 3 = some (.ref out)) (l4 : lvg lv 4 = some (.int (nI (5 * i)))) (K : ∀ f' lv' S' c' z', f ≤ f' + 14 → lvg lv' 0 = some (.ref b) → lvg lv' 1 = some (.ref x) → lvg lv' 2 = some (.ref m) → lvg lv' 3 = some (.ref out) → lvg lv' 4 = some (.int (nI (5 * (i + 1)))) → GX S' x m out A (i + 1) → c' ≤ c + 2 → z' ≤ z + 13 → wpn (kL_law b L xs) f' 23 lv' [] S' c' z') : wpn (kL_law b L xs) f 432 lv [] S c z := by
  obtain ⟨f1, rfl⟩ : ∃ q, f = q + 1 := ⟨f - 1, by omega⟩
  refine u_L_432 ?_
  unfold bL_law_432
  refine e_ldA l1 ?_
  refine e_ldA l0 ?_
  refine e_ldI l4 ?_
  refine e_cN 1 rfl ?_
  refine e_add ?_
  refine e_sld (show ((5 * i) + 1) < L by omega) hL0 ?_
  refine e_ldA l0 ?_
  refine e_ldI l4 ?_
  refine e_cN 2 rfl ?_
  refine e_add ?_
  refine e_sld (show ((5 * i) + 2) < L by omega) hL0 ?_
  refine ⟨fun h2 => ?_, fun h2 => ?_⟩
  · obtain ⟨f3, rfl⟩ : ∃ q, f1 = q + 1 := ⟨f1 - 1, by omega⟩
    refine u_L_452 ?_
    unfold bL_law_452
    refine e_cN 0 rfl ?_
    obtain ⟨f4, rfl⟩ : ∃ q, f3 = q + 1 := ⟨f3 - 1, by omega⟩
    refine u_L_453 ?_
    unfold bL_law_453
    refine And.intro ⟨by omega, by omega⟩ (k_light (by decide) hG.1.1 (fun k1 S1 h1 m1 => ?_))
    refine e_stI ?_
    refine e_ldA (lvg_ne l2 rfl (by decide)) ?_
    refine e_ldA (lvg_ne l0 rfl (by decide)) ?_
    refine e_ldI (lvg_ne l4 rfl (by decide)) ?_
    refine e_cN 1 rfl ?_
    refine e_add ?_
    refine e_sld (show ((5 * i) + 1) < L by omega) hL0 ?_
    refine e_ldA (lvg_ne l0 rfl (by decide)) ?_
    refine e_ldI (lvg_ne l4 rfl (by decide)) ?_
    refine e_cN 2 rfl ?_
    refine e_add ?_
    refine e_sld (show ((5 * i) + 2) < L by omega) hL0 ?_
    refine ⟨fun _ => ?_, fun z => absurd h2 z⟩
    obtain ⟨f5, rfl⟩ : ∃ q, f4 = q + 1 := ⟨f4 - 1, by omega⟩
    refine u_L_478 ?_
    unfold bL_law_478
    refine e_cN 0 rfl ?_
    obtain ⟨f6, rfl⟩ : ∃ q, f5 = q + 1 := ⟨f5 - 1, by omega⟩
    refine u_L_479 ?_
    unfold bL_law_479
    refine And.intro h1.2.2.2.2.2.1.1 (And.intro ⟨by omega, by omega⟩ (h_light (by omega) (by decide) hG h1 m1 (fun S2 hG2 => ?_)))
    obtain ⟨f7, rfl⟩ : ∃ q, f6 = q + 1 := ⟨f6 - 1, by omega⟩
    refine u_L_844 ?_
    unfold bL_law_844
    exact e_inc5 (lvg_ne l4 rfl (by decide)) (K f7 _ _ _ _ (by omega) (lvg_ne (lvg_ne l0 rfl (by decide)) rfl (by decide)) (lvg_ne (lvg_ne l1 rfl (by decide)) rfl (by decide)) (lvg_ne (lvg_ne l2 rfl (by decide)) rfl (by decide)) (lvg_ne (lvg_ne l3 rfl (by decide)) rfl (by decide)) lvg_self hG2 (by omega) (by omega))
  · refine e_cN 1 rfl ?_
    obtain ⟨f8, rfl⟩ : ∃ q, f1 = q + 1 := ⟨f1 - 1, by omega⟩
    refine u_L_453 ?_
    unfold bL_law_453
    refine And.intro ⟨by omega, by omega⟩ (k_light (by decide) hG.1.1 (fun k1 S1 h1 m1 => ?_))
    refine e_stI ?_
    refine e_ldA (lvg_ne l2 rfl (by decide)) ?_
    refine e_ldA (lvg_ne l0 rfl (by decide)) ?_
    refine e_ldI (lvg_ne l4 rfl (by decide)) ?_
    refine e_cN 1 rfl ?_
    refine e_add ?_
    refine e_sld (show ((5 * i) + 1) < L by omega) hL0 ?_
    refine e_ldA (lvg_ne l0 rfl (by decide)) ?_
    refine e_ldI (lvg_ne l4 rfl (by decide)) ?_
    refine e_cN 2 rfl ?_
    refine e_add ?_
    refine e_sld (show ((5 * i) + 2) < L by omega) hL0 ?_
    refine ⟨fun z => absurd z h2, fun _ => ?_⟩
    refine e_cN 1 rfl ?_
    obtain ⟨f9, rfl⟩ : ∃ q, f8 = q + 1 := ⟨f8 - 1, by omega⟩
    refine u_L_479 ?_
    unfold bL_law_479
    refine And.intro h1.2.2.2.2.2.1.1 (And.intro ⟨by omega, by omega⟩ (h_light (by omega) (by decide) hG h1 m1 (fun S2 hG2 => ?_)))
    obtain ⟨f10, rfl⟩ : ∃ q, f9 = q + 1 := ⟨f9 - 1, by omega⟩
    refine u_L_844 ?_
    unfold bL_law_844
    exact e_inc5 (lvg_ne l4 rfl (by decide)) (K f10 _ _ _ _ (by omega) (lvg_ne (lvg_ne l0 rfl (by decide)) rfl (by decide)) (lvg_ne (lvg_ne l1 rfl (by decide)) rfl (by decide)) (lvg_ne (lvg_ne l2 rfl (by decide)) rfl (by decide)) (lvg_ne (lvg_ne l3 rfl (by decide)) rfl (by decide)) lvg_self hG2 (by omega) (by omega))
theorem law_c7 {b L f i : Nat} {xs : Nat → Int32} {lv : Lv} {S : MM} {x m out c z : Nat} {A : Nat → Nat} (hL0 : L ≤ 2560) (hi : 5 * i + 5 ≤ L) (hc0 : c ≤ 600 + 2 * i) (hz0 : z ≤ 90000 + 13 * i) (hf : 14 ≤ f) (hG : GX S x m out A i) (l0 : lvg lv 0 = some (.ref b)) (l1 : lvg lv 1 = some (.ref x)) (l2 : lvg lv 2 = some (.ref m)) (l3 : lvg lv 3 = some (.ref out)) (l4 : lvg lv 4 = some (.int (nI (5 * i)))) (K : ∀ f' lv' S' c' z', f ≤ f' + 14 → lvg lv' 0 = some (.ref b) → lvg lv' 1 = some (.ref x) → lvg lv' 2 = some (.ref m) → lvg lv' 3 = some (.ref out) → lvg lv' 4 = some (.int (nI (5 * (i + 1)))) → GX S' x m out A (i + 1) → c' ≤ c + 2 → z' ≤ z + 13 → wpn (kL_law b L xs) f' 23 lv' [] S' c' z') : wpn (kL_law b L xs) f 485 lv [] S c z := by
  obtain ⟨f1, rfl⟩ : ∃ q, f = q + 1 := ⟨f - 1, by omega⟩
  refine u_L_485 ?_
  unfold bL_law_485
  refine e_ldA l1 ?_
  refine e_ldA l0 ?_
  refine e_ldI l4 ?_
  refine e_cN 1 rfl ?_
  refine e_add ?_
  refine e_sld (show ((5 * i) + 1) < L by omega) hL0 ?_
  refine e_ldA l0 ?_
  refine e_ldI l4 ?_
  refine e_cN 2 rfl ?_
  refine e_add ?_
  refine e_sld (show ((5 * i) + 2) < L by omega) hL0 ?_
  refine e_ldA l0 ?_
  refine e_ldI l4 ?_
  refine e_cN 3 rfl ?_
  refine e_add ?_
  refine e_sld (show ((5 * i) + 3) < L by omega) hL0 ?_
  refine And.intro ⟨by omega, by omega⟩ (k_lose hG.1.1 (fun k1 S1 h1 m1 => ?_))
  refine e_stI ?_
  refine e_ldA (lvg_ne l2 rfl (by decide)) ?_
  refine e_ldA (lvg_ne l0 rfl (by decide)) ?_
  refine e_ldI (lvg_ne l4 rfl (by decide)) ?_
  refine e_cN 1 rfl ?_
  refine e_add ?_
  refine e_sld (show ((5 * i) + 1) < L by omega) hL0 ?_
  refine e_ldA (lvg_ne l0 rfl (by decide)) ?_
  refine e_ldI (lvg_ne l4 rfl (by decide)) ?_
  refine e_cN 2 rfl ?_
  refine e_add ?_
  refine e_sld (show ((5 * i) + 2) < L by omega) hL0 ?_
  refine e_ldA (lvg_ne l0 rfl (by decide)) ?_
  refine e_ldI (lvg_ne l4 rfl (by decide)) ?_
  refine e_cN 3 rfl ?_
  refine e_add ?_
  refine e_sld (show ((5 * i) + 3) < L by omega) hL0 ?_
  refine And.intro h1.2.2.2.2.2.1.1 (And.intro ⟨by omega, by omega⟩ (h_lose hG h1 m1 (fun S2 hG2 => ?_)))
  obtain ⟨f2, rfl⟩ : ∃ q, f1 = q + 1 := ⟨f1 - 1, by omega⟩
  refine u_L_844 ?_
  unfold bL_law_844
  exact e_inc5 (lvg_ne l4 rfl (by decide)) (K f2 _ _ _ _ (by omega) (lvg_ne (lvg_ne l0 rfl (by decide)) rfl (by decide)) (lvg_ne (lvg_ne l1 rfl (by decide)) rfl (by decide)) (lvg_ne (lvg_ne l2 rfl (by decide)) rfl (by decide)) (lvg_ne (lvg_ne l3 rfl (by decide)) rfl (by decide)) lvg_self hG2 (by omega) (by omega))
theorem law_c8 {b L f i : Nat} {xs : Nat → Int32} {lv : Lv} {S : MM} {x m out c z : Nat} {A : Nat → Nat} (hL0 : L ≤ 2560) (hi : 5 * i + 5 ≤ L) (hc0 : c ≤ 600 + 2 * i) (hz0 : z ≤ 90000 + 13 * i) (hf : 14 ≤ f) (hG : GX S x m out A i) (l0 : lvg lv 0 = some (.ref b)) (l1 : lvg lv 1 = some (.ref x)) (l2 : lvg lv 2 = some (.ref m)) (l3 : lvg lv 3 = some (.ref out)) (l4 : lvg lv 4 = some (.int (nI (5 * i)))) (K : ∀ f' lv' S' c' z', f ≤ f' + 14 → lvg lv' 0 = some (.ref b) → lvg lv' 1 = some (.ref x) → lvg lv' 2 = some (.ref m) → lvg lv' 3 = some (.ref out) → lvg lv' 4 = some (.int (nI (5 * (i + 1)))) → GX S' x m out A (i + 1) → c' ≤ c + 2 → z' ≤ z + 13 → wpn (kL_law b L xs) f' 23 lv' [] S' c' z') : wpn (kL_law b L xs) f 534 lv [] S c z := by
  obtain ⟨f1, rfl⟩ : ∃ q, f = q + 1 := ⟨f - 1, by omega⟩
  refine u_L_534 ?_
  unfold bL_law_534
  refine e_ldA l1 ?_
  refine e_ldA l0 ?_
  refine e_ldI l4 ?_
  refine e_cN 1 rfl ?_
  refine e_add ?_
  refine e_sld (show ((5 * i) + 1) < L by omega) hL0 ?_
  refine e_ldA l3 ?_
  refine And.intro ⟨by omega, by omega⟩ (k_tickx hG.1.1 (fun tb9 => ?_) (fun nb9 S1 k9 h1 er9 hk9 ev9 ei9 ir9 ej9 => ?_))
  · refine e_stI ?_
    refine e_ldA (lvg_ne l2 rfl (by decide)) ?_
    refine e_ldA (lvg_ne l0 rfl (by decide)) ?_
    refine e_ldI (lvg_ne l4 rfl (by decide)) ?_
    refine e_cN 1 rfl ?_
    refine e_add ?_
    refine e_sld (show ((5 * i) + 1) < L by omega) hL0 ?_
    refine And.intro hG.1.1.2.2.2.2.2.1.1 (And.intro ⟨by omega, by omega⟩ (h_tick0 (by omega) hG tb9 (fun k2 S2 hG2 => ?_)))
    refine e_stI ?_
    obtain ⟨f2, rfl⟩ : ∃ q, f1 = q + 1 := ⟨f1 - 1, by omega⟩
    refine u_L_844 ?_
    unfold bL_law_844
    exact e_inc5 (lvg_ne (lvg_ne l4 rfl (by decide)) rfl (by decide)) (K f2 _ _ _ _ (by omega) (lvg_ne (lvg_ne (lvg_ne l0 rfl (by decide)) rfl (by decide)) rfl (by decide)) (lvg_ne (lvg_ne (lvg_ne l1 rfl (by decide)) rfl (by decide)) rfl (by decide)) (lvg_ne (lvg_ne (lvg_ne l2 rfl (by decide)) rfl (by decide)) rfl (by decide)) (lvg_ne (lvg_ne (lvg_ne l3 rfl (by decide)) rfl (by decide)) rfl (by decide)) lvg_self hG2 (by omega) (by omega))
  · refine e_stI ?_
    refine e_ldA (lvg_ne l2 rfl (by decide)) ?_
    refine e_ldA (lvg_ne l0 rfl (by decide)) ?_
    refine e_ldI (lvg_ne l4 rfl (by decide)) ?_
    refine e_cN 1 rfl ?_
    refine e_add ?_
    refine e_sld (show ((5 * i) + 1) < L by omega) hL0 ?_
    refine And.intro h1.2.2.2.2.2.1.1 (And.intro ⟨by omega, by omega⟩ (h_tickx (by omega) hG nb9 h1 er9 hk9 ev9 ei9 ir9 (fun k2 S2 hG2 => ?_)))
    refine e_stI ?_
    obtain ⟨f3, rfl⟩ : ∃ q, f1 = q + 1 := ⟨f1 - 1, by omega⟩
    refine u_L_844 ?_
    unfold bL_law_844
    exact e_inc5 (lvg_ne (lvg_ne l4 rfl (by decide)) rfl (by decide)) (K f3 _ _ _ _ (by omega) (lvg_ne (lvg_ne (lvg_ne l0 rfl (by decide)) rfl (by decide)) rfl (by decide)) (lvg_ne (lvg_ne (lvg_ne l1 rfl (by decide)) rfl (by decide)) rfl (by decide)) (lvg_ne (lvg_ne (lvg_ne l2 rfl (by decide)) rfl (by decide)) rfl (by decide)) (lvg_ne (lvg_ne (lvg_ne l3 rfl (by decide)) rfl (by decide)) rfl (by decide)) lvg_self hG2 (by omega) (by omega))
theorem law_c9 {b L f i : Nat} {xs : Nat → Int32} {lv : Lv} {S : MM} {x m out c z : Nat} {A : Nat → Nat} (hL0 : L ≤ 2560) (hi : 5 * i + 5 ≤ L) (hc0 : c ≤ 600 + 2 * i) (hz0 : z ≤ 90000 + 13 * i) (hf : 14 ≤ f) (hG : GX S x m out A i) (l0 : lvg lv 0 = some (.ref b)) (l1 : lvg lv 1 = some (.ref x)) (l2 : lvg lv 2 = some (.ref m)) (l3 : lvg lv 3 = some (.ref out)) (l4 : lvg lv 4 = some (.int (nI (5 * i)))) (K : ∀ f' lv' S' c' z', f ≤ f' + 14 → lvg lv' 0 = some (.ref b) → lvg lv' 1 = some (.ref x) → lvg lv' 2 = some (.ref m) → lvg lv' 3 = some (.ref out) → lvg lv' 4 = some (.int (nI (5 * (i + 1)))) → GX S' x m out A (i + 1) → c' ≤ c + 2 → z' ≤ z + 13 → wpn (kL_law b L xs) f' 23 lv' [] S' c' z') : wpn (kL_law b L xs) f 562 lv [] S c z := by
  obtain ⟨f1, rfl⟩ : ∃ q, f = q + 1 := ⟨f - 1, by omega⟩
  refine u_L_562 ?_
  unfold bL_law_562
  refine e_ldA l1 ?_
  refine e_ldA l0 ?_
  refine e_ldI l4 ?_
  refine e_cN 1 rfl ?_
  refine e_add ?_
  refine e_sld (show ((5 * i) + 1) < L by omega) hL0 ?_
  refine e_ldA l0 ?_
  refine e_ldI l4 ?_
  refine e_cN 2 rfl ?_
  refine e_add ?_
  refine e_sld (show ((5 * i) + 2) < L by omega) hL0 ?_
  refine e_ldA l0 ?_
  refine e_ldI l4 ?_
  refine e_cN 3 rfl ?_
  refine e_add ?_
  refine e_sld (show ((5 * i) + 3) < L by omega) hL0 ?_
  refine e_ldA l0 ?_
  refine e_ldI l4 ?_
  refine e_cN 4 rfl ?_
  refine e_add ?_
  refine e_sld (show ((5 * i) + 4) < L by omega) hL0 ?_
  refine e_ldA l3 ?_
  refine And.intro ⟨by omega, by omega⟩ (k_givexh hG.1.1 (fun gb9 => ?_) (fun e9 cv9 he9 hcv9 ev9 eu9 gn9 => ?_) (fun e9 cv9 j9 c9 nf9 a9 Sa9 S1 he9 hcv9 ev9 eu9 gy9 af9 ch9 cx9 gv9 h1 => ?_))
  · refine e_stI ?_
    refine e_ldA (lvg_ne l2 rfl (by decide)) ?_
    refine e_ldA (lvg_ne l0 rfl (by decide)) ?_
    refine e_ldI (lvg_ne l4 rfl (by decide)) ?_
    refine e_cN 1 rfl ?_
    refine e_add ?_
    refine e_sld (show ((5 * i) + 1) < L by omega) hL0 ?_
    refine e_ldA (lvg_ne l0 rfl (by decide)) ?_
    refine e_ldI (lvg_ne l4 rfl (by decide)) ?_
    refine e_cN 2 rfl ?_
    refine e_add ?_
    refine e_sld (show ((5 * i) + 2) < L by omega) hL0 ?_
    refine e_ldA (lvg_ne l0 rfl (by decide)) ?_
    refine e_ldI (lvg_ne l4 rfl (by decide)) ?_
    refine e_cN 3 rfl ?_
    refine e_add ?_
    refine e_sld (show ((5 * i) + 3) < L by omega) hL0 ?_
    refine e_ldA (lvg_ne l0 rfl (by decide)) ?_
    refine e_ldI (lvg_ne l4 rfl (by decide)) ?_
    refine e_cN 4 rfl ?_
    refine e_add ?_
    refine e_sld (show ((5 * i) + 4) < L by omega) hL0 ?_
    obtain ⟨f2, rfl⟩ : ∃ q, f1 = q + 1 := ⟨f1 - 1, by omega⟩
    refine u_L_618 ?_
    unfold bL_law_618
    refine And.intro hG.1.1.2.2.2.2.2.1.1 (And.intro ⟨by omega, by omega⟩ (h_give0 (by omega) hG gb9 (fun k2 S2 hG2 => ?_)))
    refine e_stI ?_
    obtain ⟨f3, rfl⟩ : ∃ q, f2 = q + 1 := ⟨f2 - 1, by omega⟩
    refine u_L_844 ?_
    unfold bL_law_844
    exact e_inc5 (lvg_ne (lvg_ne l4 rfl (by decide)) rfl (by decide)) (K f3 _ _ _ _ (by omega) (lvg_ne (lvg_ne (lvg_ne l0 rfl (by decide)) rfl (by decide)) rfl (by decide)) (lvg_ne (lvg_ne (lvg_ne l1 rfl (by decide)) rfl (by decide)) rfl (by decide)) (lvg_ne (lvg_ne (lvg_ne l2 rfl (by decide)) rfl (by decide)) rfl (by decide)) (lvg_ne (lvg_ne (lvg_ne l3 rfl (by decide)) rfl (by decide)) rfl (by decide)) lvg_self hG2 (by omega) (by omega))
  · refine e_stI ?_
    refine e_ldA (lvg_ne l2 rfl (by decide)) ?_
    refine e_ldA (lvg_ne l0 rfl (by decide)) ?_
    refine e_ldI (lvg_ne l4 rfl (by decide)) ?_
    refine e_cN 1 rfl ?_
    refine e_add ?_
    refine e_sld (show ((5 * i) + 1) < L by omega) hL0 ?_
    refine e_ldA (lvg_ne l0 rfl (by decide)) ?_
    refine e_ldI (lvg_ne l4 rfl (by decide)) ?_
    refine e_cN 2 rfl ?_
    refine e_add ?_
    refine e_sld (show ((5 * i) + 2) < L by omega) hL0 ?_
    refine e_ldA (lvg_ne l0 rfl (by decide)) ?_
    refine e_ldI (lvg_ne l4 rfl (by decide)) ?_
    refine e_cN 3 rfl ?_
    refine e_add ?_
    refine e_sld (show ((5 * i) + 3) < L by omega) hL0 ?_
    refine e_ldA (lvg_ne l0 rfl (by decide)) ?_
    refine e_ldI (lvg_ne l4 rfl (by decide)) ?_
    refine e_cN 4 rfl ?_
    refine e_add ?_
    refine e_sld (show ((5 * i) + 4) < L by omega) hL0 ?_
    obtain ⟨f4, rfl⟩ : ∃ q, f1 = q + 1 := ⟨f1 - 1, by omega⟩
    refine u_L_618 ?_
    unfold bL_law_618
    refine And.intro hG.1.1.2.2.2.2.2.1.1 (And.intro ⟨by omega, by omega⟩ (h_giveN (by omega) hG he9 hcv9 ev9 eu9 gn9 (fun k2 S2 hG2 => ?_)))
    refine e_stI ?_
    obtain ⟨f5, rfl⟩ : ∃ q, f4 = q + 1 := ⟨f4 - 1, by omega⟩
    refine u_L_844 ?_
    unfold bL_law_844
    exact e_inc5 (lvg_ne (lvg_ne l4 rfl (by decide)) rfl (by decide)) (K f5 _ _ _ _ (by omega) (lvg_ne (lvg_ne (lvg_ne l0 rfl (by decide)) rfl (by decide)) rfl (by decide)) (lvg_ne (lvg_ne (lvg_ne l1 rfl (by decide)) rfl (by decide)) rfl (by decide)) (lvg_ne (lvg_ne (lvg_ne l2 rfl (by decide)) rfl (by decide)) rfl (by decide)) (lvg_ne (lvg_ne (lvg_ne l3 rfl (by decide)) rfl (by decide)) rfl (by decide)) lvg_self hG2 (by omega) (by omega))
  · refine e_stI ?_
    refine e_ldA (lvg_ne l2 rfl (by decide)) ?_
    refine e_ldA (lvg_ne l0 rfl (by decide)) ?_
    refine e_ldI (lvg_ne l4 rfl (by decide)) ?_
    refine e_cN 1 rfl ?_
    refine e_add ?_
    refine e_sld (show ((5 * i) + 1) < L by omega) hL0 ?_
    refine e_ldA (lvg_ne l0 rfl (by decide)) ?_
    refine e_ldI (lvg_ne l4 rfl (by decide)) ?_
    refine e_cN 2 rfl ?_
    refine e_add ?_
    refine e_sld (show ((5 * i) + 2) < L by omega) hL0 ?_
    refine e_ldA (lvg_ne l0 rfl (by decide)) ?_
    refine e_ldI (lvg_ne l4 rfl (by decide)) ?_
    refine e_cN 3 rfl ?_
    refine e_add ?_
    refine e_sld (show ((5 * i) + 3) < L by omega) hL0 ?_
    refine e_ldA (lvg_ne l0 rfl (by decide)) ?_
    refine e_ldI (lvg_ne l4 rfl (by decide)) ?_
    refine e_cN 4 rfl ?_
    refine e_add ?_
    refine e_sld (show ((5 * i) + 4) < L by omega) hL0 ?_
    obtain ⟨f6, rfl⟩ : ∃ q, f1 = q + 1 := ⟨f1 - 1, by omega⟩
    refine u_L_618 ?_
    unfold bL_law_618
    refine And.intro h1.2.2.2.2.2.1.1 (And.intro ⟨by omega, by omega⟩ (h_giveA (by omega) hG he9 hcv9 ev9 eu9 gy9 af9 ch9 cx9 gv9 h1 (fun k2 S2 hG2 => ?_)))
    refine e_stI ?_
    obtain ⟨f7, rfl⟩ : ∃ q, f6 = q + 1 := ⟨f6 - 1, by omega⟩
    refine u_L_844 ?_
    unfold bL_law_844
    exact e_inc5 (lvg_ne (lvg_ne l4 rfl (by decide)) rfl (by decide)) (K f7 _ _ _ _ (by omega) (lvg_ne (lvg_ne (lvg_ne l0 rfl (by decide)) rfl (by decide)) rfl (by decide)) (lvg_ne (lvg_ne (lvg_ne l1 rfl (by decide)) rfl (by decide)) rfl (by decide)) (lvg_ne (lvg_ne (lvg_ne l2 rfl (by decide)) rfl (by decide)) rfl (by decide)) (lvg_ne (lvg_ne (lvg_ne l3 rfl (by decide)) rfl (by decide)) rfl (by decide)) lvg_self hG2 (by omega) (by omega))
theorem law_c10 {b L f i : Nat} {xs : Nat → Int32} {lv : Lv} {S : MM} {x m out c z : Nat} {A : Nat → Nat} (hL0 : L ≤ 2560) (hi : 5 * i + 5 ≤ L) (hc0 : c ≤ 600 + 2 * i) (hz0 : z ≤ 90000 + 13 * i) (hf : 14 ≤ f) (hG : GX S x m out A i) (l0 : lvg lv 0 = some (.ref b)) (l1 : lvg lv 1 = some (.ref x)) (l2 : lvg lv 2 = some (.ref m)) (l3 : lvg lv 3 = some (.ref out)) (l4 : lvg lv 4 = some (.int (nI (5 * i)))) (K : ∀ f' lv' S' c' z', f ≤ f' + 14 → lvg lv' 0 = some (.ref b) → lvg lv' 1 = some (.ref x) → lvg lv' 2 = some (.ref m) → lvg lv' 3 = some (.ref out) → lvg lv' 4 = some (.int (nI (5 * (i + 1)))) → GX S' x m out A (i + 1) → c' ≤ c + 2 → z' ≤ z + 13 → wpn (kL_law b L xs) f' 23 lv' [] S' c' z') : wpn (kL_law b L xs) f 626 lv [] S c z := by
  obtain ⟨f1, rfl⟩ : ∃ q, f = q + 1 := ⟨f - 1, by omega⟩
  refine u_L_626 ?_
  unfold bL_law_626
  refine e_ldA l1 ?_
  refine e_ldA l0 ?_
  refine e_ldI l4 ?_
  refine e_cN 1 rfl ?_
  refine e_add ?_
  refine e_sld (show ((5 * i) + 1) < L by omega) hL0 ?_
  refine e_ldA l0 ?_
  refine e_ldI l4 ?_
  refine e_cN 2 rfl ?_
  refine e_add ?_
  refine e_sld (show ((5 * i) + 2) < L by omega) hL0 ?_
  refine e_ldA l0 ?_
  refine e_ldI l4 ?_
  refine e_cN 3 rfl ?_
  refine e_add ?_
  refine e_sld (show ((5 * i) + 3) < L by omega) hL0 ?_
  refine e_ldA l3 ?_
  refine And.intro ⟨by omega, by omega⟩ (k_came hG.1.1 (fun k1 S1 h1 m1 => ?_))
  refine e_stI ?_
  refine e_ldA (lvg_ne l2 rfl (by decide)) ?_
  refine e_ldA (lvg_ne l0 rfl (by decide)) ?_
  refine e_ldI (lvg_ne l4 rfl (by decide)) ?_
  refine e_cN 1 rfl ?_
  refine e_add ?_
  refine e_sld (show ((5 * i) + 1) < L by omega) hL0 ?_
  refine e_ldA (lvg_ne l0 rfl (by decide)) ?_
  refine e_ldI (lvg_ne l4 rfl (by decide)) ?_
  refine e_cN 2 rfl ?_
  refine e_add ?_
  refine e_sld (show ((5 * i) + 2) < L by omega) hL0 ?_
  refine e_ldA (lvg_ne l0 rfl (by decide)) ?_
  refine e_ldI (lvg_ne l4 rfl (by decide)) ?_
  refine e_cN 3 rfl ?_
  refine e_add ?_
  refine e_sld (show ((5 * i) + 3) < L by omega) hL0 ?_
  refine And.intro h1.2.2.2.2.2.1.1 (And.intro ⟨by omega, by omega⟩ (h_came (by omega) hG h1 m1 (fun k2 S2 hG2 => ?_)))
  refine e_stI ?_
  obtain ⟨f2, rfl⟩ : ∃ q, f1 = q + 1 := ⟨f1 - 1, by omega⟩
  refine u_L_844 ?_
  unfold bL_law_844
  exact e_inc5 (lvg_ne (lvg_ne l4 rfl (by decide)) rfl (by decide)) (K f2 _ _ _ _ (by omega) (lvg_ne (lvg_ne (lvg_ne l0 rfl (by decide)) rfl (by decide)) rfl (by decide)) (lvg_ne (lvg_ne (lvg_ne l1 rfl (by decide)) rfl (by decide)) rfl (by decide)) (lvg_ne (lvg_ne (lvg_ne l2 rfl (by decide)) rfl (by decide)) rfl (by decide)) (lvg_ne (lvg_ne (lvg_ne l3 rfl (by decide)) rfl (by decide)) rfl (by decide)) lvg_self hG2 (by omega) (by omega))
theorem law_c11 {b L f i : Nat} {xs : Nat → Int32} {lv : Lv} {S : MM} {x m out c z : Nat} {A : Nat → Nat} (hL0 : L ≤ 2560) (hi : 5 * i + 5 ≤ L) (hc0 : c ≤ 600 + 2 * i) (hz0 : z ≤ 90000 + 13 * i) (hf : 14 ≤ f) (hG : GX S x m out A i) (l0 : lvg lv 0 = some (.ref b)) (l1 : lvg lv 1 = some (.ref x)) (l2 : lvg lv 2 = some (.ref m)) (l3 : lvg lv 3 = some (.ref out)) (l4 : lvg lv 4 = some (.int (nI (5 * i)))) (K : ∀ f' lv' S' c' z', f ≤ f' + 14 → lvg lv' 0 = some (.ref b) → lvg lv' 1 = some (.ref x) → lvg lv' 2 = some (.ref m) → lvg lv' 3 = some (.ref out) → lvg lv' 4 = some (.int (nI (5 * (i + 1)))) → GX S' x m out A (i + 1) → c' ≤ c + 2 → z' ≤ z + 13 → wpn (kL_law b L xs) f' 23 lv' [] S' c' z') : wpn (kL_law b L xs) f 678 lv [] S c z := by
  obtain ⟨f1, rfl⟩ : ∃ q, f = q + 1 := ⟨f - 1, by omega⟩
  refine u_L_678 ?_
  unfold bL_law_678
  refine e_ldA l1 ?_
  refine e_ldA l0 ?_
  refine e_ldI l4 ?_
  refine e_cN 1 rfl ?_
  refine e_add ?_
  refine e_sld (show ((5 * i) + 1) < L by omega) hL0 ?_
  refine e_ldA l0 ?_
  refine e_ldI l4 ?_
  refine e_cN 2 rfl ?_
  refine e_add ?_
  refine e_sld (show ((5 * i) + 2) < L by omega) hL0 ?_
  refine e_ldA l0 ?_
  refine e_ldI l4 ?_
  refine e_cN 3 rfl ?_
  refine e_add ?_
  refine e_sld (show ((5 * i) + 3) < L by omega) hL0 ?_
  refine e_ldA l3 ?_
  refine And.intro ⟨by omega, by omega⟩ (k_look hG.1.1 (fun k1 S1 h1 m1 => ?_))
  refine e_stI ?_
  refine e_ldA (lvg_ne l2 rfl (by decide)) ?_
  refine e_ldA (lvg_ne l0 rfl (by decide)) ?_
  refine e_ldI (lvg_ne l4 rfl (by decide)) ?_
  refine e_cN 1 rfl ?_
  refine e_add ?_
  refine e_sld (show ((5 * i) + 1) < L by omega) hL0 ?_
  refine e_ldA (lvg_ne l0 rfl (by decide)) ?_
  refine e_ldI (lvg_ne l4 rfl (by decide)) ?_
  refine e_cN 2 rfl ?_
  refine e_add ?_
  refine e_sld (show ((5 * i) + 2) < L by omega) hL0 ?_
  refine e_ldA (lvg_ne l0 rfl (by decide)) ?_
  refine e_ldI (lvg_ne l4 rfl (by decide)) ?_
  refine e_cN 3 rfl ?_
  refine e_add ?_
  refine e_sld (show ((5 * i) + 3) < L by omega) hL0 ?_
  refine And.intro h1.2.2.2.2.2.1.1 (And.intro ⟨by omega, by omega⟩ (h_look hG h1 m1 (fun k2 S2 hG2 => ?_)))
  refine e_stI ?_
  obtain ⟨f2, rfl⟩ : ∃ q, f1 = q + 1 := ⟨f1 - 1, by omega⟩
  refine u_L_844 ?_
  unfold bL_law_844
  exact e_inc5 (lvg_ne (lvg_ne l4 rfl (by decide)) rfl (by decide)) (K f2 _ _ _ _ (by omega) (lvg_ne (lvg_ne (lvg_ne l0 rfl (by decide)) rfl (by decide)) rfl (by decide)) (lvg_ne (lvg_ne (lvg_ne l1 rfl (by decide)) rfl (by decide)) rfl (by decide)) (lvg_ne (lvg_ne (lvg_ne l2 rfl (by decide)) rfl (by decide)) rfl (by decide)) (lvg_ne (lvg_ne (lvg_ne l3 rfl (by decide)) rfl (by decide)) rfl (by decide)) lvg_self hG2 (by omega) (by omega))
theorem law_c12 {b L f i : Nat} {xs : Nat → Int32} {lv : Lv} {S : MM} {x m out c z : Nat} {A : Nat → Nat} (hL0 : L ≤ 2560) (hi : 5 * i + 5 ≤ L) (hc0 : c ≤ 600 + 2 * i) (hz0 : z ≤ 90000 + 13 * i) (hf : 14 ≤ f) (hG : GX S x m out A i) (l0 : lvg lv 0 = some (.ref b)) (l1 : lvg lv 1 = some (.ref x)) (l2 : lvg lv 2 = some (.ref m)) (l3 : lvg lv 3 = some (.ref out)) (l4 : lvg lv 4 = some (.int (nI (5 * i)))) (K : ∀ f' lv' S' c' z', f ≤ f' + 14 → lvg lv' 0 = some (.ref b) → lvg lv' 1 = some (.ref x) → lvg lv' 2 = some (.ref m) → lvg lv' 3 = some (.ref out) → lvg lv' 4 = some (.int (nI (5 * (i + 1)))) → GX S' x m out A (i + 1) → c' ≤ c + 2 → z' ≤ z + 13 → wpn (kL_law b L xs) f' 23 lv' [] S' c' z') : wpn (kL_law b L xs) f 730 lv [] S c z := by
  obtain ⟨f1, rfl⟩ : ∃ q, f = q + 1 := ⟨f - 1, by omega⟩
  refine u_L_730 ?_
  unfold bL_law_730
  refine e_ldA l1 ?_
  refine e_ldA l0 ?_
  refine e_ldI l4 ?_
  refine e_cN 1 rfl ?_
  refine e_add ?_
  refine e_sld (show ((5 * i) + 1) < L by omega) hL0 ?_
  refine e_ldA l0 ?_
  refine e_ldI l4 ?_
  refine e_cN 2 rfl ?_
  refine e_add ?_
  refine e_sld (show ((5 * i) + 2) < L by omega) hL0 ?_
  refine e_ldA l3 ?_
  refine And.intro ⟨by omega, by omega⟩ (k_cable hG.1.1 (fun k1 S1 h1 m1 => ?_))
  refine e_stI ?_
  refine e_ldA (lvg_ne l2 rfl (by decide)) ?_
  refine e_ldA (lvg_ne l0 rfl (by decide)) ?_
  refine e_ldI (lvg_ne l4 rfl (by decide)) ?_
  refine e_cN 1 rfl ?_
  refine e_add ?_
  refine e_sld (show ((5 * i) + 1) < L by omega) hL0 ?_
  refine e_ldA (lvg_ne l0 rfl (by decide)) ?_
  refine e_ldI (lvg_ne l4 rfl (by decide)) ?_
  refine e_cN 2 rfl ?_
  refine e_add ?_
  refine e_sld (show ((5 * i) + 2) < L by omega) hL0 ?_
  refine And.intro h1.2.2.2.2.2.1.1 (And.intro ⟨by omega, by omega⟩ (h_cable hG h1 m1 (fun k2 S2 hG2 => ?_)))
  refine e_stI ?_
  obtain ⟨f2, rfl⟩ : ∃ q, f1 = q + 1 := ⟨f1 - 1, by omega⟩
  refine u_L_844 ?_
  unfold bL_law_844
  exact e_inc5 (lvg_ne (lvg_ne l4 rfl (by decide)) rfl (by decide)) (K f2 _ _ _ _ (by omega) (lvg_ne (lvg_ne (lvg_ne l0 rfl (by decide)) rfl (by decide)) rfl (by decide)) (lvg_ne (lvg_ne (lvg_ne l1 rfl (by decide)) rfl (by decide)) rfl (by decide)) (lvg_ne (lvg_ne (lvg_ne l2 rfl (by decide)) rfl (by decide)) rfl (by decide)) (lvg_ne (lvg_ne (lvg_ne l3 rfl (by decide)) rfl (by decide)) rfl (by decide)) lvg_self hG2 (by omega) (by omega))
theorem law_c13 {b L f i : Nat} {xs : Nat → Int32} {lv : Lv} {S : MM} {x m out c z : Nat} {A : Nat → Nat} (hL0 : L ≤ 2560) (hi : 5 * i + 5 ≤ L) (hc0 : c ≤ 600 + 2 * i) (hz0 : z ≤ 90000 + 13 * i) (hf : 14 ≤ f) (hG : GX S x m out A i) (l0 : lvg lv 0 = some (.ref b)) (l1 : lvg lv 1 = some (.ref x)) (l2 : lvg lv 2 = some (.ref m)) (l3 : lvg lv 3 = some (.ref out)) (l4 : lvg lv 4 = some (.int (nI (5 * i)))) (K : ∀ f' lv' S' c' z', f ≤ f' + 14 → lvg lv' 0 = some (.ref b) → lvg lv' 1 = some (.ref x) → lvg lv' 2 = some (.ref m) → lvg lv' 3 = some (.ref out) → lvg lv' 4 = some (.int (nI (5 * (i + 1)))) → GX S' x m out A (i + 1) → c' ≤ c + 2 → z' ≤ z + 13 → wpn (kL_law b L xs) f' 23 lv' [] S' c' z') : wpn (kL_law b L xs) f 770 lv [] S c z := by
  obtain ⟨f1, rfl⟩ : ∃ q, f = q + 1 := ⟨f - 1, by omega⟩
  refine u_L_770 ?_
  unfold bL_law_770
  refine e_ldA l1 ?_
  refine e_ldA l0 ?_
  refine e_ldI l4 ?_
  refine e_cN 1 rfl ?_
  refine e_add ?_
  refine e_sld (show ((5 * i) + 1) < L by omega) hL0 ?_
  refine e_ldA l0 ?_
  refine e_ldI l4 ?_
  refine e_cN 2 rfl ?_
  refine e_add ?_
  refine e_sld (show ((5 * i) + 2) < L by omega) hL0 ?_
  refine e_ldA l0 ?_
  refine e_ldI l4 ?_
  refine e_cN 3 rfl ?_
  refine e_add ?_
  refine e_sld (show ((5 * i) + 3) < L by omega) hL0 ?_
  refine And.intro hG.1.1.2.2.1 (And.intro ⟨by omega, by omega⟩ (k_note hG.1.1 (fun k1 m1 => ?_)))
  refine e_po ?_
  refine e_ldA l2 ?_
  refine e_ldA l0 ?_
  refine e_ldI l4 ?_
  refine e_cN 1 rfl ?_
  refine e_add ?_
  refine e_sld (show ((5 * i) + 1) < L by omega) hL0 ?_
  refine e_ldA l0 ?_
  refine e_ldI l4 ?_
  refine e_cN 2 rfl ?_
  refine e_add ?_
  refine e_sld (show ((5 * i) + 2) < L by omega) hL0 ?_
  refine e_ldA l0 ?_
  refine e_ldI l4 ?_
  refine e_cN 3 rfl ?_
  refine e_add ?_
  refine e_sld (show ((5 * i) + 3) < L by omega) hL0 ?_
  refine And.intro hG.1.1.2.2.2.2.2.1.1 (And.intro ⟨by omega, by omega⟩ (h_note hG m1 (fun S2 hG2 => ?_)))
  refine e_po ?_
  obtain ⟨f2, rfl⟩ : ∃ q, f1 = q + 1 := ⟨f1 - 1, by omega⟩
  refine u_L_844 ?_
  unfold bL_law_844
  exact e_inc5 l4 (K f2 _ _ _ _ (by omega) (lvg_ne l0 rfl (by decide)) (lvg_ne l1 rfl (by decide)) (lvg_ne l2 rfl (by decide)) (lvg_ne l3 rfl (by decide)) lvg_self hG2 (by omega) (by omega))
theorem law_c14 {b L f i : Nat} {xs : Nat → Int32} {lv : Lv} {S : MM} {x m out c z : Nat} {A : Nat → Nat} (hL0 : L ≤ 2560) (hi : 5 * i + 5 ≤ L) (hc0 : c ≤ 600 + 2 * i) (hz0 : z ≤ 90000 + 13 * i) (hf : 14 ≤ f) (hG : GX S x m out A i) (l0 : lvg lv 0 = some (.ref b)) (l1 : lvg lv 1 = some (.ref x)) (l2 : lvg lv 2 = some (.ref m)) (l3 : lvg lv 3 = some (.ref out)) (l4 : lvg lv 4 = some (.int (nI (5 * i)))) (K : ∀ f' lv' S' c' z', f ≤ f' + 14 → lvg lv' 0 = some (.ref b) → lvg lv' 1 = some (.ref x) → lvg lv' 2 = some (.ref m) → lvg lv' 3 = some (.ref out) → lvg lv' 4 = some (.int (nI (5 * (i + 1)))) → GX S' x m out A (i + 1) → c' ≤ c + 2 → z' ≤ z + 13 → wpn (kL_law b L xs) f' 23 lv' [] S' c' z') : wpn (kL_law b L xs) f 819 lv [] S c z := by
  obtain ⟨f1, rfl⟩ : ∃ q, f = q + 1 := ⟨f - 1, by omega⟩
  refine u_L_819 ?_
  unfold bL_law_819
  refine e_ldA l1 ?_
  refine e_ldA l0 ?_
  refine e_ldI l4 ?_
  refine e_cN 1 rfl ?_
  refine e_add ?_
  refine e_sld (show ((5 * i) + 1) < L by omega) hL0 ?_
  refine And.intro hG.1.1.2.2.1 (And.intro ⟨by omega, by omega⟩ (k_countx hG.1.1 (fun k1 m1 => ?_)))
  refine e_ldA l2 ?_
  refine e_ldA l0 ?_
  refine e_ldI l4 ?_
  refine e_cN 1 rfl ?_
  refine e_add ?_
  refine e_sld (show ((5 * i) + 1) < L by omega) hL0 ?_
  refine And.intro hG.1.1.2.2.2.2.2.1.1 (And.intro ⟨by omega, by omega⟩ (h_countx (by omega) hG m1 (fun S2 hG2 => ?_)))
  refine ⟨fun _ => ?_, fun z => absurd rfl z⟩
  obtain ⟨f2, rfl⟩ : ∃ q, f1 = q + 1 := ⟨f1 - 1, by omega⟩
  refine u_L_844 ?_
  unfold bL_law_844
  exact e_inc5 l4 (K f2 _ _ _ _ (by omega) (lvg_ne l0 rfl (by decide)) (lvg_ne l1 rfl (by decide)) (lvg_ne l2 rfl (by decide)) (lvg_ne l3 rfl (by decide)) lvg_self hG2 (by omega) (by omega))
theorem GN_s {S : MM} {x m out i : Nat} {A : Nat → Nat} (h0 : GX S x m out A i) : GX S x m out A (i + 1) := by
  obtain ⟨⟨h, hs⟩, hm⟩ := h0
  obtain ⟨h1, h2, h3, h4, h5, h6, h7, nt, F, cl, h8, h9, h10, h11, h12⟩ := h
  exact ⟨⟨⟨h1, h2, h3, h4, h5, h6, h7, nt, F, cl, h8, h9, h10, by omega, by omega⟩, hs⟩, hm⟩
theorem law_cd {b L f i : Nat} {xs : Nat → Int32} {lv : Lv} {S : MM} {x m out c z : Nat} {A : Nat → Nat} (hL0 : L ≤ 2560) (hi : 5 * i + 5 ≤ L) (hc0 : c ≤ 600 + 2 * i) (hz0 : z ≤ 90000 + 13 * i) (hf : 14 ≤ f) (hG : GX S x m out A i) (l0 : lvg lv 0 = some (.ref b)) (l1 : lvg lv 1 = some (.ref x)) (l2 : lvg lv 2 = some (.ref m)) (l3 : lvg lv 3 = some (.ref out)) (l4 : lvg lv 4 = some (.int (nI (5 * i)))) (K : ∀ f' lv' S' c' z', f ≤ f' + 14 → lvg lv' 0 = some (.ref b) → lvg lv' 1 = some (.ref x) → lvg lv' 2 = some (.ref m) → lvg lv' 3 = some (.ref out) → lvg lv' 4 = some (.int (nI (5 * (i + 1)))) → GX S' x m out A (i + 1) → c' ≤ c + 2 → z' ≤ z + 13 → wpn (kL_law b L xs) f' 23 lv' [] S' c' z') : wpn (kL_law b L xs) f 844 lv [] S c z := by
  obtain ⟨q, rfl⟩ : ∃ q, f = q + 1 := ⟨f - 1, by omega⟩
  refine u_L_844 ?_
  unfold bL_law_844
  exact e_inc5 l4 (K q _ _ _ _ (by omega) (lvg_ne l0 rfl (by decide)) (lvg_ne l1 rfl (by decide)) (lvg_ne l2 rfl (by decide)) (lvg_ne l3 rfl (by decide)) lvg_self (GN_s hG) (by omega) (by omega))
theorem and15 (v : Int32) : ∃ j : Nat, j ≤ 15 ∧ (v &&& 15).toInt = (j : Int) := by
  have h1 : (v &&& 15).toBitVec.toNat ≤ 15 := by
    rw [Int32.toBitVec_and, BitVec.toNat_and]
    exact Nat.and_le_right
  refine ⟨(v &&& 15).toBitVec.toNat, h1, ?_⟩
  rw [← Int32.toInt_toBitVec]
  exact BitVec.toInt_eq_toNat_of_lt (by omega)
theorem law_loop {b L : Nat} {xs : Nat → Int32} {x m out : Nat} {A : Nat → Nat} (hL0 : L ≤ 2560) : ∀ (r i f : Nat) (lv : Lv) (S : MM) (c z : Nat), i + r = 512 → 15 * r + 2 ≤ f → lvg lv 0 = some (.ref b) → lvg lv 1 = some (.ref x) → lvg lv 2 = some (.ref m) → lvg lv 3 = some (.ref out) → lvg lv 4 = some (.int (nI (5 * i))) → GX S x m out A i → c ≤ 600 + 2 * i → z ≤ 90000 + 13 * i → wpn (kL_law b L xs) f 23 lv [] S c z := by
  have exit : ∀ (i f : Nat) (lv : Lv) (S : MM) (c z : Nat), i ≤ 512 → ¬ 5 * i + 5 ≤ L → lvg lv 0 = some (.ref b) → lvg lv 4 = some (.int (nI (5 * i))) → wpn (kL_law b L xs) (f + 2) 23 lv [] S c z := fun i f lv S c z hi h l0 l4 => by
    refine u_L_23 ?_
    unfold bL_law_23
    refine e_ldI l4 (e_ldA l0 (And.intro rfl (e_cI ⟨fun _ => rfl, fun hn => absurd ?_ hn⟩)))
    show Int32.ofNat L - 5 < nI (5 * i)
    have e : Int32.ofNat L = nI L := rfl
    rw [Int32.lt_iff_toInt_lt, e, Int32.toInt_sub, nI_toInt (by omega), nI_toInt (by omega), show (5 : Int32).toInt = 5 from by decide, Int.bmod_eq_of_le (by omega) (by omega)]
    omega
  intro r
  induction r with
  | zero =>
    intro i f lv S c z hi hf l0 l1 l2 l3 l4 hG hc hz
    obtain ⟨g, rfl⟩ : ∃ g, f = g + 2 := ⟨f - 2, by omega⟩
    exact exit i g lv S c z (by omega) (by omega) l0 l4
  | succ r ih =>
    intro i f lv S c z hi hf l0 l1 l2 l3 l4 hG hc hz
    by_cases h5 : 5 * i + 5 ≤ L
    · obtain ⟨g, rfl⟩ : ∃ g, f = g + 1 := ⟨f - 1, by omega⟩
      have K : ∀ f' lv' S' c' z', g ≤ f' + 14 → lvg lv' 0 = some (.ref b) → lvg lv' 1 = some (.ref x) → lvg lv' 2 = some (.ref m) → lvg lv' 3 = some (.ref out) → lvg lv' 4 = some (.int (nI (5 * (i + 1)))) → GX S' x m out A (i + 1) → c' ≤ c + 2 → z' ≤ z + 13 → wpn (kL_law b L xs) f' 23 lv' [] S' c' z' := fun f' lv' S' c' z' q0 q1 q2 q3 q4 q5 q6 q7 q8 => ih (i + 1) f' lv' S' c' z' (by omega) (by omega) q1 q2 q3 q4 q5 q6 (by omega) (by omega)
      refine u_L_23 ?_
      unfold bL_law_23
      refine e_ldI l4 (e_ldA l0 (And.intro rfl (e_cI ⟨fun hn => absurd (show Int32.ofNat L - 5 < nI (5 * i) from hn) ?_, fun _ => e_ldA l0 (e_ldI l4 (e_sld (by omega) hL0 (e_cI ?_)))⟩)))
      · have e : Int32.ofNat L = nI L := rfl
        rw [Int32.lt_iff_toInt_lt, e, Int32.toInt_sub, nI_toInt (by omega), nI_toInt (by omega), show (5 : Int32).toInt = 5 from by decide, Int.bmod_eq_of_le (by omega) (by omega)]
        omega
      · obtain ⟨j, hj, ej⟩ := and15 (xs (5 * i))
        refine And.intro (fun _ => law_cd hL0 h5 hc hz (by omega) hG l0 l1 l2 l3 l4 K) (fun k e hle => ?_)
        have e' : (xs (5 * i) &&& 15).toInt = 0 + (k : Int) := e
        have ek : k = j := by omega
        subst ek
        match k, hle with
        | 0, _ => exact law_c0 hL0 h5 hc hz (by omega) hG l0 l1 l2 l3 l4 K
        | 1, _ => exact law_c1 hL0 h5 hc hz (by omega) hG l0 l1 l2 l3 l4 K
        | 2, _ => exact law_c2 hL0 h5 hc hz (by omega) hG l0 l1 l2 l3 l4 K
        | 3, _ => exact law_c3 hL0 h5 hc hz (by omega) hG l0 l1 l2 l3 l4 K
        | 4, _ => exact law_c4 hL0 h5 hc hz (by omega) hG l0 l1 l2 l3 l4 K
        | 5, _ => exact law_c5 hL0 h5 hc hz (by omega) hG l0 l1 l2 l3 l4 K
        | 6, _ => exact law_c6 hL0 h5 hc hz (by omega) hG l0 l1 l2 l3 l4 K
        | 7, _ => exact law_c7 hL0 h5 hc hz (by omega) hG l0 l1 l2 l3 l4 K
        | 8, _ => exact law_c8 hL0 h5 hc hz (by omega) hG l0 l1 l2 l3 l4 K
        | 9, _ => exact law_c9 hL0 h5 hc hz (by omega) hG l0 l1 l2 l3 l4 K
        | 10, _ => exact law_c10 hL0 h5 hc hz (by omega) hG l0 l1 l2 l3 l4 K
        | 11, _ => exact law_c11 hL0 h5 hc hz (by omega) hG l0 l1 l2 l3 l4 K
        | 12, _ => exact law_c12 hL0 h5 hc hz (by omega) hG l0 l1 l2 l3 l4 K
        | 13, _ => exact law_c13 hL0 h5 hc hz (by omega) hG l0 l1 l2 l3 l4 K
        | 14, _ => exact law_c14 hL0 h5 hc hz (by omega) hG l0 l1 l2 l3 l4 K
        | nn + 15, hh => exact absurd hh (by omega)
    · obtain ⟨g, rfl⟩ : ∃ g, f = g + 2 := ⟨f - 2, by omega⟩
      exact exit i g lv S c z (by omega) h5 l0 l4
theorem law_00 {f b L : Nat} {xs : Nat → Int32} (h : ∀ (S : MM) (x aE aC e0 e1 m out c z : Nat) (A : Nat → Nat), GX S x m out A 0 → c ≤ 600 → z ≤ 90000 → wpn (kL_law b L xs) f 23 [(4, .int 0), (3, .ref out), (2, .ref m), (1, .ref x), (0, .ref b)] [] S c z) : wpn (kL_law b L xs) (f + 1) 0 [(0, .ref b)] [] M0 0 0 := by
  refine u_L_0 ?_
  unfold bL_law_0
  have u0 : TYU M0 (fun _ => False) := fun a _ => TC_tv rfl
  have oc0 : OC M0 := ⟨fun a a' j j' b h1 h2 h3 h4 h5 h6 => (nomatch (show (none : Option Nat) = some b from h5)), fun a j b h1 h2 => (nomatch (show (none : Option Nat) = some b from h2))⟩
  refine And.intro ⟨by decide, by decide⟩ (fun x hx => And.intro ⟨by decide, by decide⟩ ?_)
  refine q_bp0 (U := fun a => False ∨ a = x) (TYU_nw u0 hx) (Or.inr rfl) (OC_nw oc0 hx) (by rw [sK_nw, va_up_self]) (fun j => by rw [sI_nw, cl2_self]) (fun S1 aE aC e0 e1 hE hB t1 oc1 => ?_)
  have u1 : TYU S1 (fun _ => False) := TYU_weak t1 (fun a ha => ha.1.elim id (fun z => ha.2 z))
  refine And.intro ⟨by decide, by decide⟩ (fun m hm => And.intro ⟨by decide, by decide⟩ ?_)
  refine t_md0 (TYU_nwt u1 hm (show tv 9 = true from rfl)) (by rw [sK_nw, va_up_self]) (fun j => by rw [sI_nw, cl2_self]) (fun S2 hI => ?_)
  refine And.intro (by decide) (And.intro ⟨by decide, by decide, by decide⟩ (fun out ho => ?_))
  have u3 : TYU (nw S2 out 18 (Int32.toNatClampNeg 1)) (fun _ => False) := TYU_nwt hI.2.1 ho (show tv 18 = true from rfl)
  have o2 : ∀ a, sK S1 a ≠ 0 → RS S1 S2 a := fun a ha => by
    have hn : a ≠ m := fun z => ha (by rw [z]; exact hm)
    have r1 : RS S1 (nw S1 m 9 0) a := RS_nw hn
    exact r1.tr (hI.1.1 a (by rw [r1.1]; exact ha) hn)
  have o3 : ∀ a, sK S2 a ≠ 0 → RS S2 (nw S2 out 18 (Int32.toNatClampNeg 1)) a := fun a ha => RS_nw (fun z => ha (by rw [z]; exact ho))
  have hB3 := BQ0_ext hB (fun a ha => (o2 a ha).tr (o3 a (by rw [(o2 a ha).1]; exact ha)))
  obtain ⟨A, hM, hz, hv⟩ := MS_of hI.1
  have rm := o3 m (by rw [hM.1]; decide)
  have ra : ∀ k ∈ DM, RS S2 (nw S2 out 18 (Int32.toNatClampNeg 1)) (A k) := fun k hk => o3 (A k) (by rw [(hM.2.1 k hk).2.1]; exact kdM_0 k)
  have hM3 : MS (nw S2 out 18 (Int32.toNatClampNeg 1)) m A := ⟨rm.1.trans hM.1, fun k hk => ⟨by rw [rm.2.2.2.1]; exact (hM.2.1 k hk).1, (ra k hk).1.trans (hM.2.1 k hk).2.1, (ra k hk).2.1.trans (hM.2.1 k hk).2.2.1, (hM.2.1 k hk).2.2.2⟩, hM.2.2.1, hM.2.2.2⟩
  have z3 : ∀ j, sI (nw S2 out 18 (Int32.toNatClampNeg 1)) m j = 0 := fun j => by rw [rm.2.2.1]; exact hz j
  have v3 : ∀ k ∈ DM, ∀ j, sI (nw S2 out 18 (Int32.toNatClampNeg 1)) (A k) j = fM 16 k j := fun k hk j => by rw [(ra k hk).2.2.1]; exact hv k hk j
  have cls : ∀ a, cl (sK (nw S2 out 18 (Int32.toNatClampNeg 1)) a) = true → sK S1 a ≠ 0 ∧ RS S1 (nw S2 out 18 (Int32.toNatClampNeg 1)) a := fun a ha => by
    have no : a ≠ out := fun z => by rw [z, sK_nw, va_up_self] at ha; cases ha
    rw [sK_nw, va_up_ne _ _ no] at ha
    have nm : a ≠ m := fun z => by rw [z, hM.1] at ha; cases ha
    have n1 : sK S1 a ≠ 0 := fun z => by
      rcases hI.2.2 a (by rw [sK_nw, va_up_ne _ _ nm]; exact z) nm with q | q
      · rw [q] at ha; cases ha
      · unfold cl at ha
        rw [q] at ha
        simp at ha
    exact ⟨n1, (o2 a n1).tr (o3 a (by rw [(o2 a n1).1]; exact n1))⟩
  have rcE : ∀ a, RS S1 (nw S2 out 18 (Int32.toNatClampNeg 1)) a → rc (nw S2 out 18 (Int32.toNatClampNeg 1)) a = rc S1 a := fun a r => by unfold rc; rw [r.1, r.2.1]
  have oc3 : OC (nw S2 out 18 (Int32.toNatClampNeg 1)) := by
    refine ⟨fun a a' j j' b h1 h2 h3 h4 h5 h6 => ?_, fun a j b h1 h2 => ?_⟩
    · obtain ⟨n1, r1⟩ := cls a h1
      obtain ⟨n2, r2⟩ := cls a' h2
      exact oc1.1 a a' j j' b (by rw [← r1.1]; exact h1) (by rw [← r2.1]; exact h2) (by rw [← rcE a r1]; exact h3) (by rw [← rcE a' r2]; exact h4) (by rw [← r1.2.2.2.1]; exact h5) (by rw [← r2.2.2.2.1]; exact h6)
    · obtain ⟨n1, r1⟩ := cls a h1
      have nb := oc1.2 a j b (by rw [← r1.1]; exact h1) (by rw [← r1.2.2.2.1]; exact h2)
      rw [((o2 b nb).tr (o3 b (by rw [(o2 b nb).1]; exact nb))).1]
      exact nb
  obtain ⟨ty, ir⟩ := TYU_TY u3 (fun _ z => z)
  exact h _ x aE aC e0 e1 m out _ _ A ⟨GP_0 ty ir hM3 (by rw [sK_nw, va_up_self]) (by rw [sN_nw, va_up_self]; rfl) oc3 hB3 z3 v3, CMt_0 hB3, XSs_0 hB3 z3 v3⟩ (by decide) (by decide)
theorem law_any {b L : Nat} {xs : Nat → Int32} (hL : L ≤ 2560) : ∃ n, wpn (kL_law b L xs) n 0 [(0, .ref b)] [] M0 0 0 :=
  ⟨15 * 512 + 3, law_00 (fun S x aE aC e0 e1 m out c z A hG hc hz => law_loop hL 512 0 (15 * 512 + 2) _ S c z rfl (Nat.le_refl _) rfl rfl rfl rfl rfl hG hc hz)⟩
