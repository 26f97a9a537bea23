/-! THE LAW: every call, then the loop over the script -/
theorem e_sld {b L j : Nat} {xs : Nat → Int32} {kt : Kt} {lv : Lv} {st : List Value} {S : MM} {c z : Nat} (hj : j < L) (hL : L ≤ 2560) (h : kt lv (.int (xs j) :: st) S c z) : sld b L xs kt lv (.int (nI j) :: .ref b :: st) S c z := And.intro rfl (And.intro (vp_in_nI hj (by omega)) (by rw [nI_clamp (by omega)]; exact h))
theorem e_aJ {kt : Kt} {lv : Lv} {st : List Value} {S : MM} {c z a : Nat} {v : Int64} (hk : sK S a = 18) (hn : sN S a = 1) (e : sJ S a 0 = v) (h : kt lv (.long v :: st) S c z) : aJ kt lv (.int (nI 0) :: .ref a :: st) S c z := And.intro hk (And.intro (by rw [hn]; exact vp_in_nI (by decide) (by decide)) (by rw [nI_clamp (by decide), e]; exact h))
theorem e_i2 {kt : Kt} {lv : Lv} {st : List Value} {S : MM} {c z : Nat} {x : Int32} (h : kt lv (.long x.toInt64 :: st) S c z) : i2 kt lv (.int x :: st) S c z := h
theorem e_lcm {kt : Kt} {lv : Lv} {st : List Value} {S : MM} {c z : Nat} {x : Int64} (h : kt lv (.int (nI 0) :: st) S c z) : lcm kt lv (.long x :: .long x :: st) S c z := by
  show kt lv (.int (lg_cmp x x) :: st) S c z
  have e : lg_cmp x x = nI 0 := by
    unfold lg_cmp
    rw [if_neg (fun z => absurd (Int64.lt_iff_toInt_lt.mp z) (Int.lt_irrefl _)), if_pos rfl]
    rfl
  rw [e]
  exact h
theorem e_po {k : Kt} {lv : Lv} {st : List Value} {S : MM} {c z : Nat} {x : Int32} (h : k lv st S c z) : po k lv (.int x :: st) S c z := h
theorem e_inc5 {k : Kt} {lv : Lv} {st : List Value} {S : MM} {c z i : Nat} (g : lvg lv 4 = some (.int (nI (5 * i)))) (h : k (lvs lv 4 (.int (nI (5 * (i + 1))))) st S c z) : inc 4 5 k lv st S c z := by
  unfold inc
  rw [g]
  have e : nI (5 * i) + 5 = nI (5 * (i + 1)) := nI_add (5 * i) 5
  rw [← e] at h
  exact h
theorem u_L_0 {b L : Nat} {xs : Nat → Int32} {n : Nat} {lv : Lv} {st : List Value} {S : MM} {c z : Nat} (h : bL_law_0 b L xs (wpn (kL_law b L xs) n) lv st S c z) : wpn (kL_law b L xs) (n + 1) 0 lv st S c z := h
theorem u_L_23 {b L : Nat} {xs : Nat → Int32} {n : Nat} {lv : Lv} {st : List Value} {S : MM} {c z : Nat} (h : bL_law_23 b L xs (wpn (kL_law b L xs) n) lv st S c z) : wpn (kL_law b L xs) (n + 1) 23 lv st S c z := h
theorem u_L_112 {b L : Nat} {xs : Nat → Int32} {n : Nat} {lv : Lv} {st : List Value} {S : MM} {c z : Nat} (h : bL_law_112 b L xs (wpn (kL_law b L xs) n) lv st S c z) : wpn (kL_law b L xs) (n + 1) 112 lv st S c z := h
theorem u_L_152 {b L : Nat} {xs : Nat → Int32} {n : Nat} {lv : Lv} {st : List Value} {S : MM} {c z : Nat} (h : bL_law_152 b L xs (wpn (kL_law b L xs) n) lv st S c z) : wpn (kL_law b L xs) (n + 1) 152 lv st S c z := h
theorem u_L_192 {b L : Nat} {xs : Nat → Int32} {n : Nat} {lv : Lv} {st : List Value} {S : MM} {c z : Nat} (h : bL_law_192 b L xs (wpn (kL_law b L xs) n) lv st S c z) : wpn (kL_law b L xs) (n + 1) 192 lv st S c z := h
theorem u_L_250 {b L : Nat} {xs : Nat → Int32} {n : Nat} {lv : Lv} {st : List Value} {S : MM} {c z : Nat} (h : bL_law_250 b L xs (wpn (kL_law b L xs) n) lv st S c z) : wpn (kL_law b L xs) (n + 1) 250 lv st S c z := h
theorem u_L_253 {b L : Nat} {xs : Nat → Int32} {n : Nat} {lv : Lv} {st : List Value} {S : MM} {c z : Nat} (h : bL_law_253 b L xs (wpn (kL_law b L xs) n) lv st S c z) : wpn (kL_law b L xs) (n + 1) 253 lv st S c z := h
theorem u_L_279 {b L : Nat} {xs : Nat → Int32} {n : Nat} {lv : Lv} {st : List Value} {S : MM} {c z : Nat} (h : bL_law_279 b L xs (wpn (kL_law b L xs) n) lv st S c z) : wpn (kL_law b L xs) (n + 1) 279 lv st S c z := h
theorem u_L_280 {b L : Nat} {xs : Nat → Int32} {n : Nat} {lv : Lv} {st : List Value} {S : MM} {c z : Nat} (h : bL_law_280 b L xs (wpn (kL_law b L xs) n) lv st S c z) : wpn (kL_law b L xs) (n + 1) 280 lv st S c z := h
theorem u_L_293 {b L : Nat} {xs : Nat → Int32} {n : Nat} {lv : Lv} {st : List Value} {S : MM} {c z : Nat} (h : bL_law_293 b L xs (wpn (kL_law b L xs) n) lv st S c z) : wpn (kL_law b L xs) (n + 1) 293 lv st S c z := h
theorem u_L_294 {b L : Nat} {xs : Nat → Int32} {n : Nat} {lv : Lv} {st : List Value} {S : MM} {c z : Nat} (h : bL_law_294 b L xs (wpn (kL_law b L xs) n) lv st S c z) : wpn (kL_law b L xs) (n + 1) 294 lv st S c z := h
theorem u_L_325 {b L : Nat} {xs : Nat → Int32} {n : Nat} {lv : Lv} {st : List Value} {S : MM} {c z : Nat} (h : bL_law_325 b L xs (wpn (kL_law b L xs) n) lv st S c z) : wpn (kL_law b L xs) (n + 1) 325 lv st S c z := h
theorem u_L_326 {b L : Nat} {xs : Nat → Int32} {n : Nat} {lv : Lv} {st : List Value} {S : MM} {c z : Nat} (h : bL_law_326 b L xs (wpn (kL_law b L xs) n) lv st S c z) : wpn (kL_law b L xs) (n + 1) 326 lv st S c z := h
theorem u_L_339 {b L : Nat} {xs : Nat → Int32} {n : Nat} {lv : Lv} {st : List Value} {S : MM} {c z : Nat} (h : bL_law_339 b L xs (wpn (kL_law b L xs) n) lv st S c z) : wpn (kL_law b L xs) (n + 1) 339 lv st S c z := h
theorem u_L_340 {b L : Nat} {xs : Nat → Int32} {n : Nat} {lv : Lv} {st : List Value} {S : MM} {c z : Nat} (h : bL_law_340 b L xs (wpn (kL_law b L xs) n) lv st S c z) : wpn (kL_law b L xs) (n + 1) 340 lv st S c z := h
theorem u_L_346 {b L : Nat} {xs : Nat → Int32} {n : Nat} {lv : Lv} {st : List Value} {S : MM} {c z : Nat} (h : bL_law_346 b L xs (wpn (kL_law b L xs) n) lv st S c z) : wpn (kL_law b L xs) (n + 1) 346 lv st S c z := h
theorem u_L_404 {b L : Nat} {xs : Nat → Int32} {n : Nat} {lv : Lv} {st : List Value} {S : MM} {c z : Nat} (h : bL_law_404 b L xs (wpn (kL_law b L xs) n) lv st S c z) : wpn (kL_law b L xs) (n + 1) 404 lv st S c z := h
theorem u_L_407 {b L : Nat} {xs : Nat → Int32} {n : Nat} {lv : Lv} {st : List Value} {S : MM} {c z : Nat} (h : bL_law_407 b L xs (wpn (kL_law b L xs) n) lv st S c z) : wpn (kL_law b L xs) (n + 1) 407 lv st S c z := h
theorem u_L_432 {b L : Nat} {xs : Nat → Int32} {n : Nat} {lv : Lv} {st : List Value} {S : MM} {c z : Nat} (h : bL_law_432 b L xs (wpn (kL_law b L xs) n) lv st S c z) : wpn (kL_law b L xs) (n + 1) 432 lv st S c z := h
theorem u_L_452 {b L : Nat} {xs : Nat → Int32} {n : Nat} {lv : Lv} {st : List Value} {S : MM} {c z : Nat} (h : bL_law_452 b L xs (wpn (kL_law b L xs) n) lv st S c z) : wpn (kL_law b L xs) (n + 1) 452 lv st S c z := h
theorem u_L_453 {b L : Nat} {xs : Nat → Int32} {n : Nat} {lv : Lv} {st : List Value} {S : MM} {c z : Nat} (h : bL_law_453 b L xs (wpn (kL_law b L xs) n) lv st S c z) : wpn (kL_law b L xs) (n + 1) 453 lv st S c z := h
theorem u_L_478 {b L : Nat} {xs : Nat → Int32} {n : Nat} {lv : Lv} {st : List Value} {S : MM} {c z : Nat} (h : bL_law_478 b L xs (wpn (kL_law b L xs) n) lv st S c z) : wpn (kL_law b L xs) (n + 1) 478 lv st S c z := h
theorem u_L_479 {b L : Nat} {xs : Nat → Int32} {n : Nat} {lv : Lv} {st : List Value} {S : MM} {c z : Nat} (h : bL_law_479 b L xs (wpn (kL_law b L xs) n) lv st S c z) : wpn (kL_law b L xs) (n + 1) 479 lv st S c z := h
theorem u_L_493 {b L : Nat} {xs : Nat → Int32} {n : Nat} {lv : Lv} {st : List Value} {S : MM} {c z : Nat} (h : bL_law_493 b L xs (wpn (kL_law b L xs) n) lv st S c z) : wpn (kL_law b L xs) (n + 1) 493 lv st S c z := h
theorem u_L_496 {b L : Nat} {xs : Nat → Int32} {n : Nat} {lv : Lv} {st : List Value} {S : MM} {c z : Nat} (h : bL_law_496 b L xs (wpn (kL_law b L xs) n) lv st S c z) : wpn (kL_law b L xs) (n + 1) 496 lv st S c z := h
theorem u_L_545 {b L : Nat} {xs : Nat → Int32} {n : Nat} {lv : Lv} {st : List Value} {S : MM} {c z : Nat} (h : bL_law_545 b L xs (wpn (kL_law b L xs) n) lv st S c z) : wpn (kL_law b L xs) (n + 1) 545 lv st S c z := h
theorem u_L_573 {b L : Nat} {xs : Nat → Int32} {n : Nat} {lv : Lv} {st : List Value} {S : MM} {c z : Nat} (h : bL_law_573 b L xs (wpn (kL_law b L xs) n) lv st S c z) : wpn (kL_law b L xs) (n + 1) 573 lv st S c z := h
theorem u_L_629 {b L : Nat} {xs : Nat → Int32} {n : Nat} {lv : Lv} {st : List Value} {S : MM} {c z : Nat} (h : bL_law_629 b L xs (wpn (kL_law b L xs) n) lv st S c z) : wpn (kL_law b L xs) (n + 1) 629 lv st S c z := h
theorem u_L_637 {b L : Nat} {xs : Nat → Int32} {n : Nat} {lv : Lv} {st : List Value} {S : MM} {c z : Nat} (h : bL_law_637 b L xs (wpn (kL_law b L xs) n) lv st S c z) : wpn (kL_law b L xs) (n + 1) 637 lv st S c z := h
theorem u_L_689 {b L : Nat} {xs : Nat → Int32} {n : Nat} {lv : Lv} {st : List Value} {S : MM} {c z : Nat} (h : bL_law_689 b L xs (wpn (kL_law b L xs) n) lv st S c z) : wpn (kL_law b L xs) (n + 1) 689 lv st S c z := h
theorem u_L_741 {b L : Nat} {xs : Nat → Int32} {n : Nat} {lv : Lv} {st : List Value} {S : MM} {c z : Nat} (h : bL_law_741 b L xs (wpn (kL_law b L xs) n) lv st S c z) : wpn (kL_law b L xs) (n + 1) 741 lv st S c z := h
theorem u_L_781 {b L : Nat} {xs : Nat → Int32} {n : Nat} {lv : Lv} {st : List Value} {S : MM} {c z : Nat} (h : bL_law_781 b L xs (wpn (kL_law b L xs) n) lv st S c z) : wpn (kL_law b L xs) (n + 1) 781 lv st S c z := h
theorem u_L_830 {b L : Nat} {xs : Nat → Int32} {n : Nat} {lv : Lv} {st : List Value} {S : MM} {c z : Nat} (h : bL_law_830 b L xs (wpn (kL_law b L xs) n) lv st S c z) : wpn (kL_law b L xs) (n + 1) 830 lv st S c z := h
theorem u_L_855 {b L : Nat} {xs : Nat → Int32} {n : Nat} {lv : Lv} {st : List Value} {S : MM} {c z : Nat} (h : bL_law_855 b L xs (wpn (kL_law b L xs) n) lv st S c z) : wpn (kL_law b L xs) (n + 1) 855 lv st S c z := h
theorem u_L_861 {b L : Nat} {xs : Nat → Int32} {n : Nat} {lv : Lv} {st : List Value} {S : MM} {c z : Nat} (h : bL_law_861 b L xs (wpn (kL_law b L xs) n) lv st S c z) : wpn (kL_law b L xs) (n + 1) 861 lv st S c z := h
theorem law_c0 {b L f i : Nat} {xs : Nat → Int32} {lv : Lv} {S : MM} {x m out c z : Nat} {A ca pp : Nat → Nat} {pt : Nat → Nat → Nat} (hJ : CInj ca pp pt) (hL0 : L ≤ 2560) (hi : 5 * i + 5 ≤ L) (hc0 : c ≤ 600 + 2 * i) (hz0 : z ≤ 90000 + 13 * i) (hf : 14 ≤ f) (hG : GI S x m out A i) (hS : CRel S x A ca pp pt) (l0 : lvg lv 0 = some (.ref b)) (l1 : lvg lv 1 = some (.ref x)) (l2 : lvg lv 2 = some (.ref m)) (l3 : lvg lv 3 = some (.ref out)) (l4 : lvg lv 4 = some (.int (nI (5 * i)))) (K : ∀ f' lv' S' c' z', f ≤ f' + 14 → lvg lv' 0 = some (.ref b) → lvg lv' 1 = some (.ref x) → lvg lv' 2 = some (.ref m) → lvg lv' 3 = some (.ref out) → lvg lv' 4 = some (.int (nI (5 * (i + 1)))) → GI S' x m out A (i + 1) → CRel S' x A ca pp pt → c' ≤ c + 2 → z' ≤ z + 13 → wpn (kL_law b L xs) f' 23 lv' [] S' c' z') : wpn (kL_law b L xs) f 112 lv [] S c z := by
  obtain ⟨hT0, ir0, kx0, p0, q0, hM0, nt0, F0, cl0, hB0, hF0, hc0⟩ := id hG
  obtain ⟨f1, rfl⟩ : ∃ q, f = q + 1 := ⟨f - 1, by omega⟩
  refine u_L_112 ?_
  unfold bL_law_112
  refine e_ldA l1 ?_
  refine e_ldA l0 ?_
  refine e_ldI l4 ?_
  refine e_cN 1 rfl ?_
  refine e_add ?_
  refine e_sld (show ((5 * i) + 1) < L by omega) hL0 ?_
  refine e_ldA l0 ?_
  refine e_ldI l4 ?_
  refine e_cN 2 rfl ?_
  refine e_add ?_
  refine e_sld (show ((5 * i) + 2) < L by omega) hL0 ?_
  refine e_ldA l3 ?_
  refine And.intro ⟨by omega, by omega⟩ (l_system_s  hT0 ir0 kx0 p0 q0 (fun k1 S1 t1 i1 g1 => ?_))
  have hG1 := GI_c hG t1 i1 g1
  have hS1 := CRel_c hS hG g1 (by decide)
  obtain ⟨hT1, ir1, kx1, p1, q1, hM1, nt1, F1, cl1, hB1, hF1, hc1⟩ := id hG1
  refine e_stI ?_
  refine e_ldA (lvg_ne l2 rfl (by decide)) ?_
  refine e_ldA (lvg_ne l0 rfl (by decide)) ?_
  refine e_ldI (lvg_ne l4 rfl (by decide)) ?_
  refine e_cN 1 rfl ?_
  refine e_add ?_
  refine e_sld (show ((5 * i) + 1) < L by omega) hL0 ?_
  refine e_ldA (lvg_ne l0 rfl (by decide)) ?_
  refine e_ldI (lvg_ne l4 rfl (by decide)) ?_
  refine e_cN 2 rfl ?_
  refine e_add ?_
  refine e_sld (show ((5 * i) + 2) < L by omega) hL0 ?_
  refine And.intro hM1.1 (And.intro ⟨by omega, by omega⟩ (z_X8_system hM1 hB1.1.1 (fun r2 S2 s2 im2 => ?_)))
  have hG2 := GI_r hG1 s2 (BI_SM hB1 hM1 s2 im2 (by decide)) (by omega) (by omega)
  have hS2 := CRel_r hS1 hG1 s2 (by decide)
  obtain ⟨hT2, ir2, kx2, p2, q2, hM2, nt2, F2, cl2, hB2, hF2, hc2⟩ := id hG2
  refine e_stI ?_
  obtain ⟨f2, rfl⟩ : ∃ q, f1 = q + 1 := ⟨f1 - 1, by omega⟩
  refine u_L_855 ?_
  unfold bL_law_855
  exact e_inc5 (lvg_ne (lvg_ne l4 rfl (by decide)) rfl (by decide)) (K f2 _ _ _ _ (by omega) (lvg_ne (lvg_ne (lvg_ne l0 rfl (by decide)) rfl (by decide)) rfl (by decide)) (lvg_ne (lvg_ne (lvg_ne l1 rfl (by decide)) rfl (by decide)) rfl (by decide)) (lvg_ne (lvg_ne (lvg_ne l2 rfl (by decide)) rfl (by decide)) rfl (by decide)) (lvg_ne (lvg_ne (lvg_ne l3 rfl (by decide)) rfl (by decide)) rfl (by decide)) lvg_self hG2 hS2 (by omega) (by omega))
theorem law_c1 {b L f i : Nat} {xs : Nat → Int32} {lv : Lv} {S : MM} {x m out c z : Nat} {A ca pp : Nat → Nat} {pt : Nat → Nat → Nat} (hJ : CInj ca pp pt) (hL0 : L ≤ 2560) (hi : 5 * i + 5 ≤ L) (hc0 : c ≤ 600 + 2 * i) (hz0 : z ≤ 90000 + 13 * i) (hf : 14 ≤ f) (hG : GI S x m out A i) (hS : CRel S x A ca pp pt) (l0 : lvg lv 0 = some (.ref b)) (l1 : lvg lv 1 = some (.ref x)) (l2 : lvg lv 2 = some (.ref m)) (l3 : lvg lv 3 = some (.ref out)) (l4 : lvg lv 4 = some (.int (nI (5 * i)))) (K : ∀ f' lv' S' c' z', f ≤ f' + 14 → lvg lv' 0 = some (.ref b) → lvg lv' 1 = some (.ref x) → lvg lv' 2 = some (.ref m) → lvg lv' 3 = some (.ref out) → lvg lv' 4 = some (.int (nI (5 * (i + 1)))) → GI S' x m out A (i + 1) → CRel S' x A ca pp pt → c' ≤ c + 2 → z' ≤ z + 13 → wpn (kL_law b L xs) f' 23 lv' [] S' c' z') : wpn (kL_law b L xs) f 152 lv [] S c z := by
  obtain ⟨hT0, ir0, kx0, p0, q0, hM0, nt0, F0, cl0, hB0, hF0, hc0⟩ := id hG
  obtain ⟨f1, rfl⟩ : ∃ q, f = q + 1 := ⟨f - 1, by omega⟩
  refine u_L_152 ?_
  unfold bL_law_152
  refine e_ldA l1 ?_
  refine e_ldA l0 ?_
  refine e_ldI l4 ?_
  refine e_cN 1 rfl ?_
  refine e_add ?_
  refine e_sld (show ((5 * i) + 1) < L by omega) hL0 ?_
  refine e_ldA l0 ?_
  refine e_ldI l4 ?_
  refine e_cN 2 rfl ?_
  refine e_add ?_
  refine e_sld (show ((5 * i) + 2) < L by omega) hL0 ?_
  refine e_ldA l3 ?_
  refine And.intro ⟨by omega, by omega⟩ (l_limit_s  hT0 ir0 kx0 p0 q0 (fun k1 S1 t1 i1 g1 => ?_))
  have hG1 := GI_c hG t1 i1 g1
  have hS1 := CRel_c hS hG g1 (by decide)
  obtain ⟨hT1, ir1, kx1, p1, q1, hM1, nt1, F1, cl1, hB1, hF1, hc1⟩ := id hG1
  refine e_stI ?_
  refine e_ldA (lvg_ne l2 rfl (by decide)) ?_
  refine e_ldA (lvg_ne l0 rfl (by decide)) ?_
  refine e_ldI (lvg_ne l4 rfl (by decide)) ?_
  refine e_cN 1 rfl ?_
  refine e_add ?_
  refine e_sld (show ((5 * i) + 1) < L by omega) hL0 ?_
  refine e_ldA (lvg_ne l0 rfl (by decide)) ?_
  refine e_ldI (lvg_ne l4 rfl (by decide)) ?_
  refine e_cN 2 rfl ?_
  refine e_add ?_
  refine e_sld (show ((5 * i) + 2) < L by omega) hL0 ?_
  refine And.intro hM1.1 (And.intro ⟨by omega, by omega⟩ (z_X8_limit hM1 hB1.1.1 (fun r2 S2 s2 im2 => ?_)))
  have hG2 := GI_r hG1 s2 (BI_SM hB1 hM1 s2 im2 (by decide)) (by omega) (by omega)
  have hS2 := CRel_r hS1 hG1 s2 (by decide)
  obtain ⟨hT2, ir2, kx2, p2, q2, hM2, nt2, F2, cl2, hB2, hF2, hc2⟩ := id hG2
  refine e_stI ?_
  obtain ⟨f2, rfl⟩ : ∃ q, f1 = q + 1 := ⟨f1 - 1, by omega⟩
  refine u_L_855 ?_
  unfold bL_law_855
  exact e_inc5 (lvg_ne (lvg_ne l4 rfl (by decide)) rfl (by decide)) (K f2 _ _ _ _ (by omega) (lvg_ne (lvg_ne (lvg_ne l0 rfl (by decide)) rfl (by decide)) rfl (by decide)) (lvg_ne (lvg_ne (lvg_ne l1 rfl (by decide)) rfl (by decide)) rfl (by decide)) (lvg_ne (lvg_ne (lvg_ne l2 rfl (by decide)) rfl (by decide)) rfl (by decide)) (lvg_ne (lvg_ne (lvg_ne l3 rfl (by decide)) rfl (by decide)) rfl (by decide)) lvg_self hG2 hS2 (by omega) (by omega))
theorem law_c2 {b L f i : Nat} {xs : Nat → Int32} {lv : Lv} {S : MM} {x m out c z : Nat} {A ca pp : Nat → Nat} {pt : Nat → Nat → Nat} (hJ : CInj ca pp pt) (hL0 : L ≤ 2560) (hi : 5 * i + 5 ≤ L) (hc0 : c ≤ 600 + 2 * i) (hz0 : z ≤ 90000 + 13 * i) (hf : 14 ≤ f) (hG : GI S x m out A i) (hS : CRel S x A ca pp pt) (l0 : lvg lv 0 = some (.ref b)) (l1 : lvg lv 1 = some (.ref x)) (l2 : lvg lv 2 = some (.ref m)) (l3 : lvg lv 3 = some (.ref out)) (l4 : lvg lv 4 = some (.int (nI (5 * i)))) (K : ∀ f' lv' S' c' z', f ≤ f' + 14 → lvg lv' 0 = some (.ref b) → lvg lv' 1 = some (.ref x) → lvg lv' 2 = some (.ref m) → lvg lv' 3 = some (.ref out) → lvg lv' 4 = some (.int (nI (5 * (i + 1)))) → GI S' x m out A (i + 1) → CRel S' x A ca pp pt → c' ≤ c + 2 → z' ≤ z + 13 → wpn (kL_law b L xs) f' 23 lv' [] S' c' z') : wpn (kL_law b L xs) f 192 lv [] S c z := by
  obtain ⟨hT0, ir0, kx0, p0, q0, hM0, nt0, F0, cl0, hB0, hF0, hc0⟩ := id hG
  obtain ⟨f1, rfl⟩ : ∃ q, f = q + 1 := ⟨f - 1, by omega⟩
  refine u_L_192 ?_
  unfold bL_law_192
  refine e_ldA l1 ?_
  refine e_ldA l0 ?_
  refine e_ldI l4 ?_
  refine e_cN 1 rfl ?_
  refine e_add ?_
  refine e_sld (show ((5 * i) + 1) < L by omega) hL0 ?_
  refine e_ldA l0 ?_
  refine e_ldI l4 ?_
  refine e_cN 2 rfl ?_
  refine e_add ?_
  refine e_sld (show ((5 * i) + 2) < L by omega) hL0 ?_
  refine e_ldA l0 ?_
  refine e_ldI l4 ?_
  refine e_cN 3 rfl ?_
  refine e_add ?_
  refine e_sld (show ((5 * i) + 3) < L by omega) hL0 ?_
  refine e_ldA l0 ?_
  refine e_ldI l4 ?_
  refine e_cN 4 rfl ?_
  refine e_add ?_
  refine e_sld (show ((5 * i) + 4) < L by omega) hL0 ?_
  refine And.intro ⟨by omega, by omega⟩ (l_port  hT0 ir0 kx0 (fun hp2 => ?_) (fun hp2 S1 t1 i1 g1 => ?_))
  · refine e_stI ?_
    refine e_ldA (lvg_ne l2 rfl (by decide)) ?_
    refine e_ldA (lvg_ne l0 rfl (by decide)) ?_
    refine e_ldI (lvg_ne l4 rfl (by decide)) ?_
    refine e_cN 1 rfl ?_
    refine e_add ?_
    refine e_sld (show ((5 * i) + 1) < L by omega) hL0 ?_
    refine e_ldA (lvg_ne l0 rfl (by decide)) ?_
    refine e_ldI (lvg_ne l4 rfl (by decide)) ?_
    refine e_cN 2 rfl ?_
    refine e_add ?_
    refine e_sld (show ((5 * i) + 2) < L by omega) hL0 ?_
    refine e_ldA (lvg_ne l0 rfl (by decide)) ?_
    refine e_ldI (lvg_ne l4 rfl (by decide)) ?_
    refine e_cN 3 rfl ?_
    refine e_add ?_
    refine e_sld (show ((5 * i) + 3) < L by omega) hL0 ?_
    refine e_ldA (lvg_ne l0 rfl (by decide)) ?_
    refine e_ldI (lvg_ne l4 rfl (by decide)) ?_
    refine e_cN 4 rfl ?_
    refine e_add ?_
    refine e_sld (show ((5 * i) + 4) < L by omega) hL0 ?_
    refine And.intro hM0.1 (And.intro ⟨by omega, by omega⟩ (z_Mport hM0 hB0.1.1 (fun _ S1 s1 im1 v1 => ?_) (fun z => absurd hp2 z)))
    have hG1 := GI_r hG s1 (BI_SM hB0 hM0 s1 im1 (by decide)) (by omega) (by omega)
    have hS1 := CRel_r hS hG s1 (by decide)
    obtain ⟨hT1, ir1, kx1, p1, q1, hM1, nt1, F1, cl1, hB1, hF1, hc1⟩ := id hG1
    obtain ⟨f3, rfl⟩ : ∃ q, f1 = q + 1 := ⟨f1 - 1, by omega⟩
    refine u_L_250 ?_
    unfold bL_law_250
    obtain ⟨f4, rfl⟩ : ∃ q, f3 = q + 1 := ⟨f3 - 1, by omega⟩
    refine u_L_855 ?_
    unfold bL_law_855
    exact e_inc5 (lvg_ne l4 rfl (by decide)) (K f4 _ _ _ _ (by omega) (lvg_ne (lvg_ne l0 rfl (by decide)) rfl (by decide)) (lvg_ne (lvg_ne l1 rfl (by decide)) rfl (by decide)) (lvg_ne (lvg_ne l2 rfl (by decide)) rfl (by decide)) (lvg_ne (lvg_ne l3 rfl (by decide)) rfl (by decide)) lvg_self hG1 hS1 (by omega) (by omega))
  · have hG1 := GI_c hG t1 i1 g1
    have hS1 := CRel_c hS hG g1 (by decide)
    obtain ⟨hT1, ir1, kx1, p1, q1, hM1, nt1, F1, cl1, hB1, hF1, hc1⟩ := id hG1
    refine e_stI ?_
    refine e_ldA (lvg_ne l2 rfl (by decide)) ?_
    refine e_ldA (lvg_ne l0 rfl (by decide)) ?_
    refine e_ldI (lvg_ne l4 rfl (by decide)) ?_
    refine e_cN 1 rfl ?_
    refine e_add ?_
    refine e_sld (show ((5 * i) + 1) < L by omega) hL0 ?_
    refine e_ldA (lvg_ne l0 rfl (by decide)) ?_
    refine e_ldI (lvg_ne l4 rfl (by decide)) ?_
    refine e_cN 2 rfl ?_
    refine e_add ?_
    refine e_sld (show ((5 * i) + 2) < L by omega) hL0 ?_
    refine e_ldA (lvg_ne l0 rfl (by decide)) ?_
    refine e_ldI (lvg_ne l4 rfl (by decide)) ?_
    refine e_cN 3 rfl ?_
    refine e_add ?_
    refine e_sld (show ((5 * i) + 3) < L by omega) hL0 ?_
    refine e_ldA (lvg_ne l0 rfl (by decide)) ?_
    refine e_ldI (lvg_ne l4 rfl (by decide)) ?_
    refine e_cN 4 rfl ?_
    refine e_add ?_
    refine e_sld (show ((5 * i) + 4) < L by omega) hL0 ?_
    refine And.intro hM1.1 (And.intro ⟨by omega, by omega⟩ (z_Mport hM1 hB1.1.1 (fun z => absurd z hp2) (fun _ S2 s2 im2 v2 => ?_)))
    have hG2 := GI_r hG1 s2 (BI_SM hB1 hM1 s2 im2 (by decide)) (by omega) (by omega)
    have hS2 := CRel_r hS1 hG1 s2 (by decide)
    obtain ⟨hT2, ir2, kx2, p2, q2, hM2, nt2, F2, cl2, hB2, hF2, hc2⟩ := id hG2
    obtain ⟨f5, rfl⟩ : ∃ q, f1 = q + 1 := ⟨f1 - 1, by omega⟩
    refine u_L_250 ?_
    unfold bL_law_250
    obtain ⟨f6, rfl⟩ : ∃ q, f5 = q + 1 := ⟨f5 - 1, by omega⟩
    refine u_L_855 ?_
    unfold bL_law_855
    exact e_inc5 (lvg_ne l4 rfl (by decide)) (K f6 _ _ _ _ (by omega) (lvg_ne (lvg_ne l0 rfl (by decide)) rfl (by decide)) (lvg_ne (lvg_ne l1 rfl (by decide)) rfl (by decide)) (lvg_ne (lvg_ne l2 rfl (by decide)) rfl (by decide)) (lvg_ne (lvg_ne l3 rfl (by decide)) rfl (by decide)) lvg_self hG2 hS2 (by omega) (by omega))
theorem law_c3 {b L f i : Nat} {xs : Nat → Int32} {lv : Lv} {S : MM} {x m out c z : Nat} {A ca pp : Nat → Nat} {pt : Nat → Nat → Nat} (hJ : CInj ca pp pt) (hL0 : L ≤ 2560) (hi : 5 * i + 5 ≤ L) (hc0 : c ≤ 600 + 2 * i) (hz0 : z ≤ 90000 + 13 * i) (hf : 14 ≤ f) (hG : GI S x m out A i) (hS : CRel S x A ca pp pt) (l0 : lvg lv 0 = some (.ref b)) (l1 : lvg lv 1 = some (.ref x)) (l2 : lvg lv 2 = some (.ref m)) (l3 : lvg lv 3 = some (.ref out)) (l4 : lvg lv 4 = some (.int (nI (5 * i)))) (K : ∀ f' lv' S' c' z', f ≤ f' + 14 → lvg lv' 0 = some (.ref b) → lvg lv' 1 = some (.ref x) → lvg lv' 2 = some (.ref m) → lvg lv' 3 = some (.ref out) → lvg lv' 4 = some (.int (nI (5 * (i + 1)))) → GI S' x m out A (i + 1) → CRel S' x A ca pp pt → c' ≤ c + 2 → z' ≤ z + 13 → wpn (kL_law b L xs) f' 23 lv' [] S' c' z') : wpn (kL_law b L xs) f 253 lv [] S c z := by
  obtain ⟨hT0, ir0, kx0, p0, q0, hM0, nt0, F0, cl0, hB0, hF0, hc0⟩ := id hG
  obtain ⟨f1, rfl⟩ : ∃ q, f = q + 1 := ⟨f - 1, by omega⟩
  refine u_L_253 ?_
  unfold bL_law_253
  refine e_ldA l1 ?_
  refine e_ldA l0 ?_
  refine e_ldI l4 ?_
  refine e_cN 1 rfl ?_
  refine e_add ?_
  refine e_sld (show ((5 * i) + 1) < L by omega) hL0 ?_
  refine e_ldA l0 ?_
  refine e_ldI l4 ?_
  refine e_cN 2 rfl ?_
  refine e_add ?_
  refine e_sld (show ((5 * i) + 2) < L by omega) hL0 ?_
  refine e_ldA l0 ?_
  refine e_ldI l4 ?_
  refine e_cN 3 rfl ?_
  refine e_add ?_
  refine e_sld (show ((5 * i) + 3) < L by omega) hL0 ?_
  refine ⟨fun h2 => ?_, fun h2 => ?_⟩
  · obtain ⟨f3, rfl⟩ : ∃ q, f1 = q + 1 := ⟨f1 - 1, by omega⟩
    refine u_L_279 ?_
    unfold bL_law_279
    refine e_cN 0 rfl ?_
    obtain ⟨f4, rfl⟩ : ∃ q, f3 = q + 1 := ⟨f3 - 1, by omega⟩
    refine u_L_280 ?_
    unfold bL_law_280
    refine e_ldA l0 ?_
    refine e_ldI l4 ?_
    refine e_cN 4 rfl ?_
    refine e_add ?_
    refine e_sld (show ((5 * i) + 4) < L by omega) hL0 ?_
    refine ⟨fun h5 => ?_, fun h5 => ?_⟩
    · obtain ⟨f6, rfl⟩ : ∃ q, f4 = q + 1 := ⟨f4 - 1, by omega⟩
      refine u_L_293 ?_
      unfold bL_law_293
      refine e_cN 0 rfl ?_
      obtain ⟨f7, rfl⟩ : ∃ q, f6 = q + 1 := ⟨f6 - 1, by omega⟩
      refine u_L_294 ?_
      unfold bL_law_294
      refine And.intro ⟨by omega, by omega⟩ (l_manner  (by decide) (by decide) hT0 ir0 kx0 (fun hp8 => ?_) (fun hp8 S1 t1 i1 g1 => ?_))
      · refine e_stI ?_
        refine e_ldA (lvg_ne l2 rfl (by decide)) ?_
        refine e_ldA (lvg_ne l0 rfl (by decide)) ?_
        refine e_ldI (lvg_ne l4 rfl (by decide)) ?_
        refine e_cN 1 rfl ?_
        refine e_add ?_
        refine e_sld (show ((5 * i) + 1) < L by omega) hL0 ?_
        refine e_ldA (lvg_ne l0 rfl (by decide)) ?_
        refine e_ldI (lvg_ne l4 rfl (by decide)) ?_
        refine e_cN 2 rfl ?_
        refine e_add ?_
        refine e_sld (show ((5 * i) + 2) < L by omega) hL0 ?_
        refine e_ldA (lvg_ne l0 rfl (by decide)) ?_
        refine e_ldI (lvg_ne l4 rfl (by decide)) ?_
        refine e_cN 3 rfl ?_
        refine e_add ?_
        refine e_sld (show ((5 * i) + 3) < L by omega) hL0 ?_
        refine ⟨fun _ => ?_, fun z => absurd h2 z⟩
        obtain ⟨f9, rfl⟩ : ∃ q, f7 = q + 1 := ⟨f7 - 1, by omega⟩
        refine u_L_325 ?_
        unfold bL_law_325
        refine e_cN 0 rfl ?_
        obtain ⟨f10, rfl⟩ : ∃ q, f9 = q + 1 := ⟨f9 - 1, by omega⟩
        refine u_L_326 ?_
        unfold bL_law_326
        refine e_ldA (lvg_ne l0 rfl (by decide)) ?_
        refine e_ldI (lvg_ne l4 rfl (by decide)) ?_
        refine e_cN 4 rfl ?_
        refine e_add ?_
        refine e_sld (show ((5 * i) + 4) < L by omega) hL0 ?_
        refine ⟨fun _ => ?_, fun z => absurd h5 z⟩
        obtain ⟨f11, rfl⟩ : ∃ q, f10 = q + 1 := ⟨f10 - 1, by omega⟩
        refine u_L_339 ?_
        unfold bL_law_339
        refine e_cN 0 rfl ?_
        obtain ⟨f12, rfl⟩ : ∃ q, f11 = q + 1 := ⟨f11 - 1, by omega⟩
        refine u_L_340 ?_
        unfold bL_law_340
        refine And.intro hM0.1 (And.intro ⟨by omega, by omega⟩ (z_Mmanner hM0 hB0.1.1 (by decide) (by decide) (fun _ S1 s1 im1 v1 => ?_) (fun z => absurd hp8 z)))
        have hG1 := GI_r hG s1 (BI_SM hB0 hM0 s1 im1 (by decide)) (by omega) (by omega)
        have hS1 := CRel_r hS hG s1 (by decide)
        obtain ⟨hT1, ir1, kx1, p1, q1, hM1, nt1, F1, cl1, hB1, hF1, hc1⟩ := id hG1
        obtain ⟨f13, rfl⟩ : ∃ q, f12 = q + 1 := ⟨f12 - 1, by omega⟩
        refine u_L_855 ?_
        unfold bL_law_855
        exact e_inc5 (lvg_ne l4 rfl (by decide)) (K f13 _ _ _ _ (by omega) (lvg_ne (lvg_ne l0 rfl (by decide)) rfl (by decide)) (lvg_ne (lvg_ne l1 rfl (by decide)) rfl (by decide)) (lvg_ne (lvg_ne l2 rfl (by decide)) rfl (by decide)) (lvg_ne (lvg_ne l3 rfl (by decide)) rfl (by decide)) lvg_self hG1 hS1 (by omega) (by omega))
      · have hG1 := GI_c hG t1 i1 g1
        have hS1 := CRel_c hS hG g1 (by decide)
        obtain ⟨hT1, ir1, kx1, p1, q1, hM1, nt1, F1, cl1, hB1, hF1, hc1⟩ := id hG1
        refine e_stI ?_
        refine e_ldA (lvg_ne l2 rfl (by decide)) ?_
        refine e_ldA (lvg_ne l0 rfl (by decide)) ?_
        refine e_ldI (lvg_ne l4 rfl (by decide)) ?_
        refine e_cN 1 rfl ?_
        refine e_add ?_
        refine e_sld (show ((5 * i) + 1) < L by omega) hL0 ?_
        refine e_ldA (lvg_ne l0 rfl (by decide)) ?_
        refine e_ldI (lvg_ne l4 rfl (by decide)) ?_
        refine e_cN 2 rfl ?_
        refine e_add ?_
        refine e_sld (show ((5 * i) + 2) < L by omega) hL0 ?_
        refine e_ldA (lvg_ne l0 rfl (by decide)) ?_
        refine e_ldI (lvg_ne l4 rfl (by decide)) ?_
        refine e_cN 3 rfl ?_
        refine e_add ?_
        refine e_sld (show ((5 * i) + 3) < L by omega) hL0 ?_
        refine ⟨fun _ => ?_, fun z => absurd h2 z⟩
        obtain ⟨f14, rfl⟩ : ∃ q, f7 = q + 1 := ⟨f7 - 1, by omega⟩
        refine u_L_325 ?_
        unfold bL_law_325
        refine e_cN 0 rfl ?_
        obtain ⟨f15, rfl⟩ : ∃ q, f14 = q + 1 := ⟨f14 - 1, by omega⟩
        refine u_L_326 ?_
        unfold bL_law_326
        refine e_ldA (lvg_ne l0 rfl (by decide)) ?_
        refine e_ldI (lvg_ne l4 rfl (by decide)) ?_
        refine e_cN 4 rfl ?_
        refine e_add ?_
        refine e_sld (show ((5 * i) + 4) < L by omega) hL0 ?_
        refine ⟨fun _ => ?_, fun z => absurd h5 z⟩
        obtain ⟨f16, rfl⟩ : ∃ q, f15 = q + 1 := ⟨f15 - 1, by omega⟩
        refine u_L_339 ?_
        unfold bL_law_339
        refine e_cN 0 rfl ?_
        obtain ⟨f17, rfl⟩ : ∃ q, f16 = q + 1 := ⟨f16 - 1, by omega⟩
        refine u_L_340 ?_
        unfold bL_law_340
        refine And.intro hM1.1 (And.intro ⟨by omega, by omega⟩ (z_Mmanner hM1 hB1.1.1 (by decide) (by decide) (fun z => absurd z hp8) (fun _ S2 s2 im2 v2 => ?_)))
        have hG2 := GI_r hG1 s2 (BI_SM hB1 hM1 s2 im2 (by decide)) (by omega) (by omega)
        have hS2 := CRel_r hS1 hG1 s2 (by decide)
        obtain ⟨hT2, ir2, kx2, p2, q2, hM2, nt2, F2, cl2, hB2, hF2, hc2⟩ := id hG2
        obtain ⟨f18, rfl⟩ : ∃ q, f17 = q + 1 := ⟨f17 - 1, by omega⟩
        refine u_L_855 ?_
        unfold bL_law_855
        exact e_inc5 (lvg_ne l4 rfl (by decide)) (K f18 _ _ _ _ (by omega) (lvg_ne (lvg_ne l0 rfl (by decide)) rfl (by decide)) (lvg_ne (lvg_ne l1 rfl (by decide)) rfl (by decide)) (lvg_ne (lvg_ne l2 rfl (by decide)) rfl (by decide)) (lvg_ne (lvg_ne l3 rfl (by decide)) rfl (by decide)) lvg_self hG2 hS2 (by omega) (by omega))
    · refine e_cN 1 rfl ?_
      obtain ⟨f19, rfl⟩ : ∃ q, f4 = q + 1 := ⟨f4 - 1, by omega⟩
      refine u_L_294 ?_
      unfold bL_law_294
      refine And.intro ⟨by omega, by omega⟩ (l_manner  (by decide) (by decide) hT0 ir0 kx0 (fun hp20 => ?_) (fun hp20 S1 t1 i1 g1 => ?_))
      · refine e_stI ?_
        refine e_ldA (lvg_ne l2 rfl (by decide)) ?_
        refine e_ldA (lvg_ne l0 rfl (by decide)) ?_
        refine e_ldI (lvg_ne l4 rfl (by decide)) ?_
        refine e_cN 1 rfl ?_
        refine e_add ?_
        refine e_sld (show ((5 * i) + 1) < L by omega) hL0 ?_
        refine e_ldA (lvg_ne l0 rfl (by decide)) ?_
        refine e_ldI (lvg_ne l4 rfl (by decide)) ?_
        refine e_cN 2 rfl ?_
        refine e_add ?_
        refine e_sld (show ((5 * i) + 2) < L by omega) hL0 ?_
        refine e_ldA (lvg_ne l0 rfl (by decide)) ?_
        refine e_ldI (lvg_ne l4 rfl (by decide)) ?_
        refine e_cN 3 rfl ?_
        refine e_add ?_
        refine e_sld (show ((5 * i) + 3) < L by omega) hL0 ?_
        refine ⟨fun _ => ?_, fun z => absurd h2 z⟩
        obtain ⟨f21, rfl⟩ : ∃ q, f19 = q + 1 := ⟨f19 - 1, by omega⟩
        refine u_L_325 ?_
        unfold bL_law_325
        refine e_cN 0 rfl ?_
        obtain ⟨f22, rfl⟩ : ∃ q, f21 = q + 1 := ⟨f21 - 1, by omega⟩
        refine u_L_326 ?_
        unfold bL_law_326
        refine e_ldA (lvg_ne l0 rfl (by decide)) ?_
        refine e_ldI (lvg_ne l4 rfl (by decide)) ?_
        refine e_cN 4 rfl ?_
        refine e_add ?_
        refine e_sld (show ((5 * i) + 4) < L by omega) hL0 ?_
        refine ⟨fun z => absurd z h5, fun _ => ?_⟩
        refine e_cN 1 rfl ?_
        obtain ⟨f23, rfl⟩ : ∃ q, f22 = q + 1 := ⟨f22 - 1, by omega⟩
        refine u_L_340 ?_
        unfold bL_law_340
        refine And.intro hM0.1 (And.intro ⟨by omega, by omega⟩ (z_Mmanner hM0 hB0.1.1 (by decide) (by decide) (fun _ S1 s1 im1 v1 => ?_) (fun z => absurd hp20 z)))
        have hG1 := GI_r hG s1 (BI_SM hB0 hM0 s1 im1 (by decide)) (by omega) (by omega)
        have hS1 := CRel_r hS hG s1 (by decide)
        obtain ⟨hT1, ir1, kx1, p1, q1, hM1, nt1, F1, cl1, hB1, hF1, hc1⟩ := id hG1
        obtain ⟨f24, rfl⟩ : ∃ q, f23 = q + 1 := ⟨f23 - 1, by omega⟩
        refine u_L_855 ?_
        unfold bL_law_855
        exact e_inc5 (lvg_ne l4 rfl (by decide)) (K f24 _ _ _ _ (by omega) (lvg_ne (lvg_ne l0 rfl (by decide)) rfl (by decide)) (lvg_ne (lvg_ne l1 rfl (by decide)) rfl (by decide)) (lvg_ne (lvg_ne l2 rfl (by decide)) rfl (by decide)) (lvg_ne (lvg_ne l3 rfl (by decide)) rfl (by decide)) lvg_self hG1 hS1 (by omega) (by omega))
      · have hG1 := GI_c hG t1 i1 g1
        have hS1 := CRel_c hS hG g1 (by decide)
        obtain ⟨hT1, ir1, kx1, p1, q1, hM1, nt1, F1, cl1, hB1, hF1, hc1⟩ := id hG1
        refine e_stI ?_
        refine e_ldA (lvg_ne l2 rfl (by decide)) ?_
        refine e_ldA (lvg_ne l0 rfl (by decide)) ?_
        refine e_ldI (lvg_ne l4 rfl (by decide)) ?_
        refine e_cN 1 rfl ?_
        refine e_add ?_
        refine e_sld (show ((5 * i) + 1) < L by omega) hL0 ?_
        refine e_ldA (lvg_ne l0 rfl (by decide)) ?_
        refine e_ldI (lvg_ne l4 rfl (by decide)) ?_
        refine e_cN 2 rfl ?_
        refine e_add ?_
        refine e_sld (show ((5 * i) + 2) < L by omega) hL0 ?_
        refine e_ldA (lvg_ne l0 rfl (by decide)) ?_
        refine e_ldI (lvg_ne l4 rfl (by decide)) ?_
        refine e_cN 3 rfl ?_
        refine e_add ?_
        refine e_sld (show ((5 * i) + 3) < L by omega) hL0 ?_
        refine ⟨fun _ => ?_, fun z => absurd h2 z⟩
        obtain ⟨f25, rfl⟩ : ∃ q, f19 = q + 1 := ⟨f19 - 1, by omega⟩
        refine u_L_325 ?_
        unfold bL_law_325
        refine e_cN 0 rfl ?_
        obtain ⟨f26, rfl⟩ : ∃ q, f25 = q + 1 := ⟨f25 - 1, by omega⟩
        refine u_L_326 ?_
        unfold bL_law_326
        refine e_ldA (lvg_ne l0 rfl (by decide)) ?_
        refine e_ldI (lvg_ne l4 rfl (by decide)) ?_
        refine e_cN 4 rfl ?_
        refine e_add ?_
        refine e_sld (show ((5 * i) + 4) < L by omega) hL0 ?_
        refine ⟨fun z => absurd z h5, fun _ => ?_⟩
        refine e_cN 1 rfl ?_
        obtain ⟨f27, rfl⟩ : ∃ q, f26 = q + 1 := ⟨f26 - 1, by omega⟩
        refine u_L_340 ?_
        unfold bL_law_340
        refine And.intro hM1.1 (And.intro ⟨by omega, by omega⟩ (z_Mmanner hM1 hB1.1.1 (by decide) (by decide) (fun z => absurd z hp20) (fun _ S2 s2 im2 v2 => ?_)))
        have hG2 := GI_r hG1 s2 (BI_SM hB1 hM1 s2 im2 (by decide)) (by omega) (by omega)
        have hS2 := CRel_r hS1 hG1 s2 (by decide)
        obtain ⟨hT2, ir2, kx2, p2, q2, hM2, nt2, F2, cl2, hB2, hF2, hc2⟩ := id hG2
        obtain ⟨f28, rfl⟩ : ∃ q, f27 = q + 1 := ⟨f27 - 1, by omega⟩
        refine u_L_855 ?_
        unfold bL_law_855
        exact e_inc5 (lvg_ne l4 rfl (by decide)) (K f28 _ _ _ _ (by omega) (lvg_ne (lvg_ne l0 rfl (by decide)) rfl (by decide)) (lvg_ne (lvg_ne l1 rfl (by decide)) rfl (by decide)) (lvg_ne (lvg_ne l2 rfl (by decide)) rfl (by decide)) (lvg_ne (lvg_ne l3 rfl (by decide)) rfl (by decide)) lvg_self hG2 hS2 (by omega) (by omega))
  · refine e_cN 1 rfl ?_
    obtain ⟨f29, rfl⟩ : ∃ q, f1 = q + 1 := ⟨f1 - 1, by omega⟩
    refine u_L_280 ?_
    unfold bL_law_280
    refine e_ldA l0 ?_
    refine e_ldI l4 ?_
    refine e_cN 4 rfl ?_
    refine e_add ?_
    refine e_sld (show ((5 * i) + 4) < L by omega) hL0 ?_
    refine ⟨fun h30 => ?_, fun h30 => ?_⟩
    · obtain ⟨f31, rfl⟩ : ∃ q, f29 = q + 1 := ⟨f29 - 1, by omega⟩
      refine u_L_293 ?_
      unfold bL_law_293
      refine e_cN 0 rfl ?_
      obtain ⟨f32, rfl⟩ : ∃ q, f31 = q + 1 := ⟨f31 - 1, by omega⟩
      refine u_L_294 ?_
      unfold bL_law_294
      refine And.intro ⟨by omega, by omega⟩ (l_manner  (by decide) (by decide) hT0 ir0 kx0 (fun hp33 => ?_) (fun hp33 S1 t1 i1 g1 => ?_))
      · refine e_stI ?_
        refine e_ldA (lvg_ne l2 rfl (by decide)) ?_
        refine e_ldA (lvg_ne l0 rfl (by decide)) ?_
        refine e_ldI (lvg_ne l4 rfl (by decide)) ?_
        refine e_cN 1 rfl ?_
        refine e_add ?_
        refine e_sld (show ((5 * i) + 1) < L by omega) hL0 ?_
        refine e_ldA (lvg_ne l0 rfl (by decide)) ?_
        refine e_ldI (lvg_ne l4 rfl (by decide)) ?_
        refine e_cN 2 rfl ?_
        refine e_add ?_
        refine e_sld (show ((5 * i) + 2) < L by omega) hL0 ?_
        refine e_ldA (lvg_ne l0 rfl (by decide)) ?_
        refine e_ldI (lvg_ne l4 rfl (by decide)) ?_
        refine e_cN 3 rfl ?_
        refine e_add ?_
        refine e_sld (show ((5 * i) + 3) < L by omega) hL0 ?_
        refine ⟨fun z => absurd z h2, fun _ => ?_⟩
        refine e_cN 1 rfl ?_
        obtain ⟨f34, rfl⟩ : ∃ q, f32 = q + 1 := ⟨f32 - 1, by omega⟩
        refine u_L_326 ?_
        unfold bL_law_326
        refine e_ldA (lvg_ne l0 rfl (by decide)) ?_
        refine e_ldI (lvg_ne l4 rfl (by decide)) ?_
        refine e_cN 4 rfl ?_
        refine e_add ?_
        refine e_sld (show ((5 * i) + 4) < L by omega) hL0 ?_
        refine ⟨fun _ => ?_, fun z => absurd h30 z⟩
        obtain ⟨f35, rfl⟩ : ∃ q, f34 = q + 1 := ⟨f34 - 1, by omega⟩
        refine u_L_339 ?_
        unfold bL_law_339
        refine e_cN 0 rfl ?_
        obtain ⟨f36, rfl⟩ : ∃ q, f35 = q + 1 := ⟨f35 - 1, by omega⟩
        refine u_L_340 ?_
        unfold bL_law_340
        refine And.intro hM0.1 (And.intro ⟨by omega, by omega⟩ (z_Mmanner hM0 hB0.1.1 (by decide) (by decide) (fun _ S1 s1 im1 v1 => ?_) (fun z => absurd hp33 z)))
        have hG1 := GI_r hG s1 (BI_SM hB0 hM0 s1 im1 (by decide)) (by omega) (by omega)
        have hS1 := CRel_r hS hG s1 (by decide)
        obtain ⟨hT1, ir1, kx1, p1, q1, hM1, nt1, F1, cl1, hB1, hF1, hc1⟩ := id hG1
        obtain ⟨f37, rfl⟩ : ∃ q, f36 = q + 1 := ⟨f36 - 1, by omega⟩
        refine u_L_855 ?_
        unfold bL_law_855
        exact e_inc5 (lvg_ne l4 rfl (by decide)) (K f37 _ _ _ _ (by omega) (lvg_ne (lvg_ne l0 rfl (by decide)) rfl (by decide)) (lvg_ne (lvg_ne l1 rfl (by decide)) rfl (by decide)) (lvg_ne (lvg_ne l2 rfl (by decide)) rfl (by decide)) (lvg_ne (lvg_ne l3 rfl (by decide)) rfl (by decide)) lvg_self hG1 hS1 (by omega) (by omega))
      · have hG1 := GI_c hG t1 i1 g1
        have hS1 := CRel_c hS hG g1 (by decide)
        obtain ⟨hT1, ir1, kx1, p1, q1, hM1, nt1, F1, cl1, hB1, hF1, hc1⟩ := id hG1
        refine e_stI ?_
        refine e_ldA (lvg_ne l2 rfl (by decide)) ?_
        refine e_ldA (lvg_ne l0 rfl (by decide)) ?_
        refine e_ldI (lvg_ne l4 rfl (by decide)) ?_
        refine e_cN 1 rfl ?_
        refine e_add ?_
        refine e_sld (show ((5 * i) + 1) < L by omega) hL0 ?_
        refine e_ldA (lvg_ne l0 rfl (by decide)) ?_
        refine e_ldI (lvg_ne l4 rfl (by decide)) ?_
        refine e_cN 2 rfl ?_
        refine e_add ?_
        refine e_sld (show ((5 * i) + 2) < L by omega) hL0 ?_
        refine e_ldA (lvg_ne l0 rfl (by decide)) ?_
        refine e_ldI (lvg_ne l4 rfl (by decide)) ?_
        refine e_cN 3 rfl ?_
        refine e_add ?_
        refine e_sld (show ((5 * i) + 3) < L by omega) hL0 ?_
        refine ⟨fun z => absurd z h2, fun _ => ?_⟩
        refine e_cN 1 rfl ?_
        obtain ⟨f38, rfl⟩ : ∃ q, f32 = q + 1 := ⟨f32 - 1, by omega⟩
        refine u_L_326 ?_
        unfold bL_law_326
        refine e_ldA (lvg_ne l0 rfl (by decide)) ?_
        refine e_ldI (lvg_ne l4 rfl (by decide)) ?_
        refine e_cN 4 rfl ?_
        refine e_add ?_
        refine e_sld (show ((5 * i) + 4) < L by omega) hL0 ?_
        refine ⟨fun _ => ?_, fun z => absurd h30 z⟩
        obtain ⟨f39, rfl⟩ : ∃ q, f38 = q + 1 := ⟨f38 - 1, by omega⟩
        refine u_L_339 ?_
        unfold bL_law_339
        refine e_cN 0 rfl ?_
        obtain ⟨f40, rfl⟩ : ∃ q, f39 = q + 1 := ⟨f39 - 1, by omega⟩
        refine u_L_340 ?_
        unfold bL_law_340
        refine And.intro hM1.1 (And.intro ⟨by omega, by omega⟩ (z_Mmanner hM1 hB1.1.1 (by decide) (by decide) (fun z => absurd z hp33) (fun _ S2 s2 im2 v2 => ?_)))
        have hG2 := GI_r hG1 s2 (BI_SM hB1 hM1 s2 im2 (by decide)) (by omega) (by omega)
        have hS2 := CRel_r hS1 hG1 s2 (by decide)
        obtain ⟨hT2, ir2, kx2, p2, q2, hM2, nt2, F2, cl2, hB2, hF2, hc2⟩ := id hG2
        obtain ⟨f41, rfl⟩ : ∃ q, f40 = q + 1 := ⟨f40 - 1, by omega⟩
        refine u_L_855 ?_
        unfold bL_law_855
        exact e_inc5 (lvg_ne l4 rfl (by decide)) (K f41 _ _ _ _ (by omega) (lvg_ne (lvg_ne l0 rfl (by decide)) rfl (by decide)) (lvg_ne (lvg_ne l1 rfl (by decide)) rfl (by decide)) (lvg_ne (lvg_ne l2 rfl (by decide)) rfl (by decide)) (lvg_ne (lvg_ne l3 rfl (by decide)) rfl (by decide)) lvg_self hG2 hS2 (by omega) (by omega))
    · refine e_cN 1 rfl ?_
      obtain ⟨f42, rfl⟩ : ∃ q, f29 = q + 1 := ⟨f29 - 1, by omega⟩
      refine u_L_294 ?_
      unfold bL_law_294
      refine And.intro ⟨by omega, by omega⟩ (l_manner  (by decide) (by decide) hT0 ir0 kx0 (fun hp43 => ?_) (fun hp43 S1 t1 i1 g1 => ?_))
      · refine e_stI ?_
        refine e_ldA (lvg_ne l2 rfl (by decide)) ?_
        refine e_ldA (lvg_ne l0 rfl (by decide)) ?_
        refine e_ldI (lvg_ne l4 rfl (by decide)) ?_
        refine e_cN 1 rfl ?_
        refine e_add ?_
        refine e_sld (show ((5 * i) + 1) < L by omega) hL0 ?_
        refine e_ldA (lvg_ne l0 rfl (by decide)) ?_
        refine e_ldI (lvg_ne l4 rfl (by decide)) ?_
        refine e_cN 2 rfl ?_
        refine e_add ?_
        refine e_sld (show ((5 * i) + 2) < L by omega) hL0 ?_
        refine e_ldA (lvg_ne l0 rfl (by decide)) ?_
        refine e_ldI (lvg_ne l4 rfl (by decide)) ?_
        refine e_cN 3 rfl ?_
        refine e_add ?_
        refine e_sld (show ((5 * i) + 3) < L by omega) hL0 ?_
        refine ⟨fun z => absurd z h2, fun _ => ?_⟩
        refine e_cN 1 rfl ?_
        obtain ⟨f44, rfl⟩ : ∃ q, f42 = q + 1 := ⟨f42 - 1, by omega⟩
        refine u_L_326 ?_
        unfold bL_law_326
        refine e_ldA (lvg_ne l0 rfl (by decide)) ?_
        refine e_ldI (lvg_ne l4 rfl (by decide)) ?_
        refine e_cN 4 rfl ?_
        refine e_add ?_
        refine e_sld (show ((5 * i) + 4) < L by omega) hL0 ?_
        refine ⟨fun z => absurd z h30, fun _ => ?_⟩
        refine e_cN 1 rfl ?_
        obtain ⟨f45, rfl⟩ : ∃ q, f44 = q + 1 := ⟨f44 - 1, by omega⟩
        refine u_L_340 ?_
        unfold bL_law_340
        refine And.intro hM0.1 (And.intro ⟨by omega, by omega⟩ (z_Mmanner hM0 hB0.1.1 (by decide) (by decide) (fun _ S1 s1 im1 v1 => ?_) (fun z => absurd hp43 z)))
        have hG1 := GI_r hG s1 (BI_SM hB0 hM0 s1 im1 (by decide)) (by omega) (by omega)
        have hS1 := CRel_r hS hG s1 (by decide)
        obtain ⟨hT1, ir1, kx1, p1, q1, hM1, nt1, F1, cl1, hB1, hF1, hc1⟩ := id hG1
        obtain ⟨f46, rfl⟩ : ∃ q, f45 = q + 1 := ⟨f45 - 1, by omega⟩
        refine u_L_855 ?_
        unfold bL_law_855
        exact e_inc5 (lvg_ne l4 rfl (by decide)) (K f46 _ _ _ _ (by omega) (lvg_ne (lvg_ne l0 rfl (by decide)) rfl (by decide)) (lvg_ne (lvg_ne l1 rfl (by decide)) rfl (by decide)) (lvg_ne (lvg_ne l2 rfl (by decide)) rfl (by decide)) (lvg_ne (lvg_ne l3 rfl (by decide)) rfl (by decide)) lvg_self hG1 hS1 (by omega) (by omega))
      · have hG1 := GI_c hG t1 i1 g1
        have hS1 := CRel_c hS hG g1 (by decide)
        obtain ⟨hT1, ir1, kx1, p1, q1, hM1, nt1, F1, cl1, hB1, hF1, hc1⟩ := id hG1
        refine e_stI ?_
        refine e_ldA (lvg_ne l2 rfl (by decide)) ?_
        refine e_ldA (lvg_ne l0 rfl (by decide)) ?_
        refine e_ldI (lvg_ne l4 rfl (by decide)) ?_
        refine e_cN 1 rfl ?_
        refine e_add ?_
        refine e_sld (show ((5 * i) + 1) < L by omega) hL0 ?_
        refine e_ldA (lvg_ne l0 rfl (by decide)) ?_
        refine e_ldI (lvg_ne l4 rfl (by decide)) ?_
        refine e_cN 2 rfl ?_
        refine e_add ?_
        refine e_sld (show ((5 * i) + 2) < L by omega) hL0 ?_
        refine e_ldA (lvg_ne l0 rfl (by decide)) ?_
        refine e_ldI (lvg_ne l4 rfl (by decide)) ?_
        refine e_cN 3 rfl ?_
        refine e_add ?_
        refine e_sld (show ((5 * i) + 3) < L by omega) hL0 ?_
        refine ⟨fun z => absurd z h2, fun _ => ?_⟩
        refine e_cN 1 rfl ?_
        obtain ⟨f47, rfl⟩ : ∃ q, f42 = q + 1 := ⟨f42 - 1, by omega⟩
        refine u_L_326 ?_
        unfold bL_law_326
        refine e_ldA (lvg_ne l0 rfl (by decide)) ?_
        refine e_ldI (lvg_ne l4 rfl (by decide)) ?_
        refine e_cN 4 rfl ?_
        refine e_add ?_
        refine e_sld (show ((5 * i) + 4) < L by omega) hL0 ?_
        refine ⟨fun z => absurd z h30, fun _ => ?_⟩
        refine e_cN 1 rfl ?_
        obtain ⟨f48, rfl⟩ : ∃ q, f47 = q + 1 := ⟨f47 - 1, by omega⟩
        refine u_L_340 ?_
        unfold bL_law_340
        refine And.intro hM1.1 (And.intro ⟨by omega, by omega⟩ (z_Mmanner hM1 hB1.1.1 (by decide) (by decide) (fun z => absurd z hp43) (fun _ S2 s2 im2 v2 => ?_)))
        have hG2 := GI_r hG1 s2 (BI_SM hB1 hM1 s2 im2 (by decide)) (by omega) (by omega)
        have hS2 := CRel_r hS1 hG1 s2 (by decide)
        obtain ⟨hT2, ir2, kx2, p2, q2, hM2, nt2, F2, cl2, hB2, hF2, hc2⟩ := id hG2
        obtain ⟨f49, rfl⟩ : ∃ q, f48 = q + 1 := ⟨f48 - 1, by omega⟩
        refine u_L_855 ?_
        unfold bL_law_855
        exact e_inc5 (lvg_ne l4 rfl (by decide)) (K f49 _ _ _ _ (by omega) (lvg_ne (lvg_ne l0 rfl (by decide)) rfl (by decide)) (lvg_ne (lvg_ne l1 rfl (by decide)) rfl (by decide)) (lvg_ne (lvg_ne l2 rfl (by decide)) rfl (by decide)) (lvg_ne (lvg_ne l3 rfl (by decide)) rfl (by decide)) lvg_self hG2 hS2 (by omega) (by omega))
theorem law_c4 {b L f i : Nat} {xs : Nat → Int32} {lv : Lv} {S : MM} {x m out c z : Nat} {A ca pp : Nat → Nat} {pt : Nat → Nat → Nat} (hJ : CInj ca pp pt) (hL0 : L ≤ 2560) (hi : 5 * i + 5 ≤ L) (hc0 : c ≤ 600 + 2 * i) (hz0 : z ≤ 90000 + 13 * i) (hf : 14 ≤ f) (hG : GI S x m out A i) (hS : CRel S x A ca pp pt) (l0 : lvg lv 0 = some (.ref b)) (l1 : lvg lv 1 = some (.ref x)) (l2 : lvg lv 2 = some (.ref m)) (l3 : lvg lv 3 = some (.ref out)) (l4 : lvg lv 4 = some (.int (nI (5 * i)))) (K : ∀ f' lv' S' c' z', f ≤ f' + 14 → lvg lv' 0 = some (.ref b) → lvg lv' 1 = some (.ref x) → lvg lv' 2 = some (.ref m) → lvg lv' 3 = some (.ref out) → lvg lv' 4 = some (.int (nI (5 * (i + 1)))) → GI S' x m out A (i + 1) → CRel S' x A ca pp pt → c' ≤ c + 2 → z' ≤ z + 13 → wpn (kL_law b L xs) f' 23 lv' [] S' c' z') : wpn (kL_law b L xs) f 346 lv [] S c z := by
  obtain ⟨hT0, ir0, kx0, p0, q0, hM0, nt0, F0, cl0, hB0, hF0, hc0⟩ := id hG
  obtain ⟨f1, rfl⟩ : ∃ q, f = q + 1 := ⟨f - 1, by omega⟩
  refine u_L_346 ?_
  unfold bL_law_346
  refine e_ldA l1 ?_
  refine e_ldA l0 ?_
  refine e_ldI l4 ?_
  refine e_cN 1 rfl ?_
  refine e_add ?_
  refine e_sld (show ((5 * i) + 1) < L by omega) hL0 ?_
  refine e_ldA l0 ?_
  refine e_ldI l4 ?_
  refine e_cN 2 rfl ?_
  refine e_add ?_
  refine e_sld (show ((5 * i) + 2) < L by omega) hL0 ?_
  refine e_ldA l0 ?_
  refine e_ldI l4 ?_
  refine e_cN 3 rfl ?_
  refine e_add ?_
  refine e_sld (show ((5 * i) + 3) < L by omega) hL0 ?_
  refine e_ldA l0 ?_
  refine e_ldI l4 ?_
  refine e_cN 4 rfl ?_
  refine e_add ?_
  refine e_sld (show ((5 * i) + 4) < L by omega) hL0 ?_
  refine And.intro ⟨by omega, by omega⟩ (l_plug_x hT0 ir0 kx0 hS.1 hS.2.1 (fun i k hi hk z => absurd (hJ.2.2 0 i 1 k (by decide) hi (by decide) hk z).1 (by decide)) (fun hb9 => ?_) (fun c9 a9 b9 hc9 ha9 hx9 ec9 ea9 eb9 nb9 hn9 => ?_) (fun c9 a9 b9 S1 hc9 ha9 hx9 ec9 ea9 eb9 nb9 xa9 xb9 t1 i1 cc9 => ?_))
  · refine e_stI ?_
    refine e_ldA (lvg_ne l2 rfl (by decide)) ?_
    refine e_ldA (lvg_ne l0 rfl (by decide)) ?_
    refine e_ldI (lvg_ne l4 rfl (by decide)) ?_
    refine e_cN 1 rfl ?_
    refine e_add ?_
    refine e_sld (show ((5 * i) + 1) < L by omega) hL0 ?_
    refine e_ldA (lvg_ne l0 rfl (by decide)) ?_
    refine e_ldI (lvg_ne l4 rfl (by decide)) ?_
    refine e_cN 2 rfl ?_
    refine e_add ?_
    refine e_sld (show ((5 * i) + 2) < L by omega) hL0 ?_
    refine e_ldA (lvg_ne l0 rfl (by decide)) ?_
    refine e_ldI (lvg_ne l4 rfl (by decide)) ?_
    refine e_cN 3 rfl ?_
    refine e_add ?_
    refine e_sld (show ((5 * i) + 3) < L by omega) hL0 ?_
    refine e_ldA (lvg_ne l0 rfl (by decide)) ?_
    refine e_ldI (lvg_ne l4 rfl (by decide)) ?_
    refine e_cN 4 rfl ?_
    refine e_add ?_
    refine e_sld (show ((5 * i) + 4) < L by omega) hL0 ?_
    refine And.intro hM0.1 (And.intro ⟨by omega, by omega⟩ (x_Mplug hM0 hB0.1 (fun _ S1 n9 flt9 l9 s1 iv1 tl1 z1 v1 => ?_) (fun c a b hc ha hb ec ea eb nb h => absurd hb9 nb) (fun c a b hc ha hb ec ea eb nb xa xb => absurd hb9 nb)))
    have hG1 := GI_r hG s1 (BI_flt hB0 hM0 s1 iv1 tl1 (by decide)) (by omega) (by omega)
    have hS1 := CRel_r hS hG z1 (by decide)
    obtain ⟨hT1, ir1, kx1, p1, q1, hM1, nt1, F1, cl1, hB1, hF1, hc1⟩ := id hG1
    obtain ⟨f2, rfl⟩ : ∃ q, f1 = q + 1 := ⟨f1 - 1, by omega⟩
    refine u_L_404 ?_
    unfold bL_law_404
    obtain ⟨f3, rfl⟩ : ∃ q, f2 = q + 1 := ⟨f2 - 1, by omega⟩
    refine u_L_855 ?_
    unfold bL_law_855
    exact e_inc5 (lvg_ne l4 rfl (by decide)) (K f3 _ _ _ _ (by omega) (lvg_ne (lvg_ne l0 rfl (by decide)) rfl (by decide)) (lvg_ne (lvg_ne l1 rfl (by decide)) rfl (by decide)) (lvg_ne (lvg_ne l2 rfl (by decide)) rfl (by decide)) (lvg_ne (lvg_ne l3 rfl (by decide)) rfl (by decide)) lvg_self hG1 hS1 (by omega) (by omega))
  · refine e_stI ?_
    refine e_ldA (lvg_ne l2 rfl (by decide)) ?_
    refine e_ldA (lvg_ne l0 rfl (by decide)) ?_
    refine e_ldI (lvg_ne l4 rfl (by decide)) ?_
    refine e_cN 1 rfl ?_
    refine e_add ?_
    refine e_sld (show ((5 * i) + 1) < L by omega) hL0 ?_
    refine e_ldA (lvg_ne l0 rfl (by decide)) ?_
    refine e_ldI (lvg_ne l4 rfl (by decide)) ?_
    refine e_cN 2 rfl ?_
    refine e_add ?_
    refine e_sld (show ((5 * i) + 2) < L by omega) hL0 ?_
    refine e_ldA (lvg_ne l0 rfl (by decide)) ?_
    refine e_ldI (lvg_ne l4 rfl (by decide)) ?_
    refine e_cN 3 rfl ?_
    refine e_add ?_
    refine e_sld (show ((5 * i) + 3) < L by omega) hL0 ?_
    refine e_ldA (lvg_ne l0 rfl (by decide)) ?_
    refine e_ldI (lvg_ne l4 rfl (by decide)) ?_
    refine e_cN 4 rfl ?_
    refine e_add ?_
    refine e_sld (show ((5 * i) + 4) < L by omega) hL0 ?_
    refine And.intro hM0.1 (And.intro ⟨by omega, by omega⟩ (x_Mplug hM0 hB0.1 (fun z => absurd z nb9) (fun c a b hc ha hb ec ea eb nb h S1 n9 flt9 l9 s1 iv1 tl1 z1 v1 => ?_) (fun c a b hc ha hb ec ea eb nb xa xb => absurd (show _ from by have e1 := nI_inj (by omega) (by omega) (ec.symm.trans ec9); have e2 := nI_inj (by omega) (by omega) (ea.symm.trans ea9); have e3 := nI_inj (by omega) (by omega) (eb.symm.trans eb9); subst e1 e2 e3; rw [CRel_a hS ha, CRel_b hS hb]; exact ⟨xa, xb⟩) hn9)))
    have hG1 := GI_r hG s1 (BI_flt hB0 hM0 s1 iv1 tl1 (by decide)) (by omega) (by omega)
    have hS1 := CRel_r hS hG z1 (by decide)
    obtain ⟨hT1, ir1, kx1, p1, q1, hM1, nt1, F1, cl1, hB1, hF1, hc1⟩ := id hG1
    obtain ⟨f4, rfl⟩ : ∃ q, f1 = q + 1 := ⟨f1 - 1, by omega⟩
    refine u_L_404 ?_
    unfold bL_law_404
    obtain ⟨f5, rfl⟩ : ∃ q, f4 = q + 1 := ⟨f4 - 1, by omega⟩
    refine u_L_855 ?_
    unfold bL_law_855
    exact e_inc5 (lvg_ne l4 rfl (by decide)) (K f5 _ _ _ _ (by omega) (lvg_ne (lvg_ne l0 rfl (by decide)) rfl (by decide)) (lvg_ne (lvg_ne l1 rfl (by decide)) rfl (by decide)) (lvg_ne (lvg_ne l2 rfl (by decide)) rfl (by decide)) (lvg_ne (lvg_ne l3 rfl (by decide)) rfl (by decide)) lvg_self hG1 hS1 (by omega) (by omega))
  · have kp9 := cak hT0 kx0 hS.1 hc9
    have g1 := GJ_plug kp9.2.1 kp9.2.2 cc9
    have hG1 := GI_c hG t1 i1 g1
    have ek9 := (MS_GJ hM0 g1).2.2
    obtain ⟨hT1, ir1, kx1, p1, q1, hM1, nt1, F1, cl1, hB1, hF1, hc1⟩ := id hG1
    refine e_stI ?_
    refine e_ldA (lvg_ne l2 rfl (by decide)) ?_
    refine e_ldA (lvg_ne l0 rfl (by decide)) ?_
    refine e_ldI (lvg_ne l4 rfl (by decide)) ?_
    refine e_cN 1 rfl ?_
    refine e_add ?_
    refine e_sld (show ((5 * i) + 1) < L by omega) hL0 ?_
    refine e_ldA (lvg_ne l0 rfl (by decide)) ?_
    refine e_ldI (lvg_ne l4 rfl (by decide)) ?_
    refine e_cN 2 rfl ?_
    refine e_add ?_
    refine e_sld (show ((5 * i) + 2) < L by omega) hL0 ?_
    refine e_ldA (lvg_ne l0 rfl (by decide)) ?_
    refine e_ldI (lvg_ne l4 rfl (by decide)) ?_
    refine e_cN 3 rfl ?_
    refine e_add ?_
    refine e_sld (show ((5 * i) + 3) < L by omega) hL0 ?_
    refine e_ldA (lvg_ne l0 rfl (by decide)) ?_
    refine e_ldI (lvg_ne l4 rfl (by decide)) ?_
    refine e_cN 4 rfl ?_
    refine e_add ?_
    refine e_sld (show ((5 * i) + 4) < L by omega) hL0 ?_
    refine And.intro hM1.1 (And.intro ⟨by omega, by omega⟩ (x_Mplug hM1 hB1.1 (fun z => absurd z nb9) (fun c a b hc ha hb ec ea eb nb h => absurd (show _ from by have e1 := nI_inj (by omega) (by omega) (ec.symm.trans ec9); have e2 := nI_inj (by omega) (by omega) (ea.symm.trans ea9); have e3 := nI_inj (by omega) (by omega) (eb.symm.trans eb9); subst e1 e2 e3; rw [ek9, ← CRel_a hS ha, ← CRel_b hS hb]; exact ⟨xa9, xb9⟩) h) (fun c a b hc ha hb ec ea eb nb xa xb S2 n9 flt9 l9 s2 iv2 tl2 v2 pl9 => ?_)))
    have e1 := nI_inj (by omega) (by omega) (ec.symm.trans ec9)
    have e2 := nI_inj (by omega) (by omega) (ea.symm.trans ea9)
    have e3 := nI_inj (by omega) (by omega) (eb.symm.trans eb9)
    subst e1 e2 e3
    have hG2 := GI_r hG1 s2 (BI_flt hB1 hM1 s2 iv2 tl2 (by decide)) (by omega) (by omega)
    have hS2 := CRel_plug hS hJ hG hc ha hb cc9 t1 hM1 ek9 s2 pl9
    obtain ⟨hT2, ir2, kx2, p2, q2, hM2, nt2, F2, cl2, hB2, hF2, hc2⟩ := id hG2
    obtain ⟨f6, rfl⟩ : ∃ q, f1 = q + 1 := ⟨f1 - 1, by omega⟩
    refine u_L_404 ?_
    unfold bL_law_404
    obtain ⟨f7, rfl⟩ : ∃ q, f6 = q + 1 := ⟨f6 - 1, by omega⟩
    refine u_L_855 ?_
    unfold bL_law_855
    exact e_inc5 (lvg_ne l4 rfl (by decide)) (K f7 _ _ _ _ (by omega) (lvg_ne (lvg_ne l0 rfl (by decide)) rfl (by decide)) (lvg_ne (lvg_ne l1 rfl (by decide)) rfl (by decide)) (lvg_ne (lvg_ne l2 rfl (by decide)) rfl (by decide)) (lvg_ne (lvg_ne l3 rfl (by decide)) rfl (by decide)) lvg_self hG2 hS2 (by omega) (by omega))
theorem law_c5 {b L f i : Nat} {xs : Nat → Int32} {lv : Lv} {S : MM} {x m out c z : Nat} {A ca pp : Nat → Nat} {pt : Nat → Nat → Nat} (hJ : CInj ca pp pt) (hL0 : L ≤ 2560) (hi : 5 * i + 5 ≤ L) (hc0 : c ≤ 600 + 2 * i) (hz0 : z ≤ 90000 + 13 * i) (hf : 14 ≤ f) (hG : GI S x m out A i) (hS : CRel S x A ca pp pt) (l0 : lvg lv 0 = some (.ref b)) (l1 : lvg lv 1 = some (.ref x)) (l2 : lvg lv 2 = some (.ref m)) (l3 : lvg lv 3 = some (.ref out)) (l4 : lvg lv 4 = some (.int (nI (5 * i)))) (K : ∀ f' lv' S' c' z', f ≤ f' + 14 → lvg lv' 0 = some (.ref b) → lvg lv' 1 = some (.ref x) → lvg lv' 2 = some (.ref m) → lvg lv' 3 = some (.ref out) → lvg lv' 4 = some (.int (nI (5 * (i + 1)))) → GI S' x m out A (i + 1) → CRel S' x A ca pp pt → c' ≤ c + 2 → z' ≤ z + 13 → wpn (kL_law b L xs) f' 23 lv' [] S' c' z') : wpn (kL_law b L xs) f 407 lv [] S c z := by
  obtain ⟨hT0, ir0, kx0, p0, q0, hM0, nt0, F0, cl0, hB0, hF0, hc0⟩ := id hG
  obtain ⟨f1, rfl⟩ : ∃ q, f = q + 1 := ⟨f - 1, by omega⟩
  refine u_L_407 ?_
  unfold bL_law_407
  refine e_ldA l1 ?_
  refine e_ldA l0 ?_
  refine e_ldI l4 ?_
  refine e_cN 1 rfl ?_
  refine e_add ?_
  refine e_sld (show ((5 * i) + 1) < L by omega) hL0 ?_
  refine And.intro ⟨by omega, by omega⟩ (l_pull_x hT0 ir0 kx0 hS.1 (fun hb9 => ?_) (fun c9 hc9 ec9 hn9 => ?_) (fun c9 p9 q9 S1 hc9 ec9 r9 s9 t1 i1 cc9 => ?_))
  · refine e_stI ?_
    refine e_ldA (lvg_ne l2 rfl (by decide)) ?_
    refine e_ldA (lvg_ne l0 rfl (by decide)) ?_
    refine e_ldI (lvg_ne l4 rfl (by decide)) ?_
    refine e_cN 1 rfl ?_
    refine e_add ?_
    refine e_sld (show ((5 * i) + 1) < L by omega) hL0 ?_
    refine And.intro hM0.1 (And.intro ⟨by omega, by omega⟩ (x_Mpull hM0 hB0.1 (fun _ S1 n9 flt9 l9 s1 iv1 tl1 z1 v1 => ?_) (fun c hc ec h => absurd hb9 (by rw [ec]; exact nb8 hc)) (fun c hc ec h => absurd hb9 (by rw [ec]; exact nb8 hc))))
    have hG1 := GI_r hG s1 (BI_flt hB0 hM0 s1 iv1 tl1 (by decide)) (by omega) (by omega)
    have hS1 := CRel_r hS hG z1 (by decide)
    obtain ⟨hT1, ir1, kx1, p1, q1, hM1, nt1, F1, cl1, hB1, hF1, hc1⟩ := id hG1
    obtain ⟨f2, rfl⟩ : ∃ q, f1 = q + 1 := ⟨f1 - 1, by omega⟩
    refine u_L_855 ?_
    unfold bL_law_855
    exact e_inc5 (lvg_ne l4 rfl (by decide)) (K f2 _ _ _ _ (by omega) (lvg_ne (lvg_ne l0 rfl (by decide)) rfl (by decide)) (lvg_ne (lvg_ne l1 rfl (by decide)) rfl (by decide)) (lvg_ne (lvg_ne l2 rfl (by decide)) rfl (by decide)) (lvg_ne (lvg_ne l3 rfl (by decide)) rfl (by decide)) lvg_self hG1 hS1 (by omega) (by omega))
  · refine e_stI ?_
    refine e_ldA (lvg_ne l2 rfl (by decide)) ?_
    refine e_ldA (lvg_ne l0 rfl (by decide)) ?_
    refine e_ldI (lvg_ne l4 rfl (by decide)) ?_
    refine e_cN 1 rfl ?_
    refine e_add ?_
    refine e_sld (show ((5 * i) + 1) < L by omega) hL0 ?_
    refine And.intro hM0.1 (And.intro ⟨by omega, by omega⟩ (x_Mpull hM0 hB0.1 (fun z => absurd z (by rw [ec9]; exact nb8 hc9)) (fun c hc ec h S1 n9 flt9 l9 s1 iv1 tl1 z1 v1 => ?_) (fun c hc ec h => absurd (by rw [nI_inj (by omega) (by omega) (ec.symm.trans ec9)]; exact CRel_none hS hc9 hn9) h)))
    have hG1 := GI_r hG s1 (BI_flt hB0 hM0 s1 iv1 tl1 (by decide)) (by omega) (by omega)
    have hS1 := CRel_r hS hG z1 (by decide)
    obtain ⟨hT1, ir1, kx1, p1, q1, hM1, nt1, F1, cl1, hB1, hF1, hc1⟩ := id hG1
    obtain ⟨f3, rfl⟩ : ∃ q, f1 = q + 1 := ⟨f1 - 1, by omega⟩
    refine u_L_855 ?_
    unfold bL_law_855
    exact e_inc5 (lvg_ne l4 rfl (by decide)) (K f3 _ _ _ _ (by omega) (lvg_ne (lvg_ne l0 rfl (by decide)) rfl (by decide)) (lvg_ne (lvg_ne l1 rfl (by decide)) rfl (by decide)) (lvg_ne (lvg_ne l2 rfl (by decide)) rfl (by decide)) (lvg_ne (lvg_ne l3 rfl (by decide)) rfl (by decide)) lvg_self hG1 hS1 (by omega) (by omega))
  · have kp9 := cak hT0 kx0 hS.1 hc9
    have g1 := GJ_CCh cc9 kp9.2.1 kp9.2.2
    have hG1 := GI_c hG t1 i1 g1
    have ek9 := (MS_GJ hM0 g1).2.2
    obtain ⟨hT1, ir1, kx1, p1, q1, hM1, nt1, F1, cl1, hB1, hF1, hc1⟩ := id hG1
    refine e_stI ?_
    refine e_ldA (lvg_ne l2 rfl (by decide)) ?_
    refine e_ldA (lvg_ne l0 rfl (by decide)) ?_
    refine e_ldI (lvg_ne l4 rfl (by decide)) ?_
    refine e_cN 1 rfl ?_
    refine e_add ?_
    refine e_sld (show ((5 * i) + 1) < L by omega) hL0 ?_
    refine And.intro hM1.1 (And.intro ⟨by omega, by omega⟩ (x_Mpull hM1 hB1.1 (fun z => absurd z (by rw [ec9]; exact nb8 hc9)) (fun c hc ec h => absurd (by rw [ek9, nI_inj (by omega) (by omega) (ec.symm.trans ec9)] at h; exact h) (CRel_refs hS hc9 r9 s9).1) (fun c hc ec h S2 n9 flt9 l9 s2 iv2 tl2 v2 pl9 => ?_)))
    have e1 := nI_inj (by omega) (by omega) (ec.symm.trans ec9)
    subst e1
    have hG2 := GI_r hG1 s2 (BI_flt hB1 hM1 s2 iv2 tl2 (by decide)) (by omega) (by omega)
    have hS2 := CRel_pull hS hJ hG hc r9 s9 cc9 t1 hM1 s2 pl9
    obtain ⟨hT2, ir2, kx2, p2, q2, hM2, nt2, F2, cl2, hB2, hF2, hc2⟩ := id hG2
    obtain ⟨f4, rfl⟩ : ∃ q, f1 = q + 1 := ⟨f1 - 1, by omega⟩
    refine u_L_855 ?_
    unfold bL_law_855
    exact e_inc5 (lvg_ne l4 rfl (by decide)) (K f4 _ _ _ _ (by omega) (lvg_ne (lvg_ne l0 rfl (by decide)) rfl (by decide)) (lvg_ne (lvg_ne l1 rfl (by decide)) rfl (by decide)) (lvg_ne (lvg_ne l2 rfl (by decide)) rfl (by decide)) (lvg_ne (lvg_ne l3 rfl (by decide)) rfl (by decide)) lvg_self hG2 hS2 (by omega) (by omega))
theorem law_c6 {b L f i : Nat} {xs : Nat → Int32} {lv : Lv} {S : MM} {x m out c z : Nat} {A ca pp : Nat → Nat} {pt : Nat → Nat → Nat} (hJ : CInj ca pp pt) (hL0 : L ≤ 2560) (hi : 5 * i + 5 ≤ L) (hc0 : c ≤ 600 + 2 * i) (hz0 : z ≤ 90000 + 13 * i) (hf : 14 ≤ f) (hG : GI S x m out A i) (hS : CRel S x A ca pp pt) (l0 : lvg lv 0 = some (.ref b)) (l1 : lvg lv 1 = some (.ref x)) (l2 : lvg lv 2 = some (.ref m)) (l3 : lvg lv 3 = some (.ref out)) (l4 : lvg lv 4 = some (.int (nI (5 * i)))) (K : ∀ f' lv' S' c' z', f ≤ f' + 14 → lvg lv' 0 = some (.ref b) → lvg lv' 1 = some (.ref x) → lvg lv' 2 = some (.ref m) → lvg lv' 3 = some (.ref out) → lvg lv' 4 = some (.int (nI (5 * (i + 1)))) → GI S' x m out A (i + 1) → CRel S' x A ca pp pt → c' ≤ c + 2 → z' ≤ z + 13 → wpn (kL_law b L xs) f' 23 lv' [] S' c' z') : wpn (kL_law b L xs) f 432 lv [] S c z := by
  obtain ⟨hT0, ir0, kx0, p0, q0, hM0, nt0, F0, cl0, hB0, hF0, hc0⟩ := id hG
  obtain ⟨f1, rfl⟩ : ∃ q, f = q + 1 := ⟨f - 1, by omega⟩
  refine u_L_432 ?_
  unfold bL_law_432
  refine e_ldA l1 ?_
  refine e_ldA l0 ?_
  refine e_ldI l4 ?_
  refine e_cN 1 rfl ?_
  refine e_add ?_
  refine e_sld (show ((5 * i) + 1) < L by omega) hL0 ?_
  refine e_ldA l0 ?_
  refine e_ldI l4 ?_
  refine e_cN 2 rfl ?_
  refine e_add ?_
  refine e_sld (show ((5 * i) + 2) < L by omega) hL0 ?_
  refine ⟨fun h2 => ?_, fun h2 => ?_⟩
  · obtain ⟨f3, rfl⟩ : ∃ q, f1 = q + 1 := ⟨f1 - 1, by omega⟩
    refine u_L_452 ?_
    unfold bL_law_452
    refine e_cN 0 rfl ?_
    obtain ⟨f4, rfl⟩ : ∃ q, f3 = q + 1 := ⟨f3 - 1, by omega⟩
    refine u_L_453 ?_
    unfold bL_law_453
    refine And.intro ⟨by omega, by omega⟩ (l_light_x (by decide) hT0 ir0 kx0 hS.1 (fun hb9 => ?_) (fun c9 hc9 ec9 hn9 => ?_) (fun c9 p9 q9 S1 hc9 ec9 r9 s9 nu9 t1 i1 cc9 => ?_))
    · refine e_stI ?_
      refine e_ldA (lvg_ne l2 rfl (by decide)) ?_
      refine e_ldA (lvg_ne l0 rfl (by decide)) ?_
      refine e_ldI (lvg_ne l4 rfl (by decide)) ?_
      refine e_cN 1 rfl ?_
      refine e_add ?_
      refine e_sld (show ((5 * i) + 1) < L by omega) hL0 ?_
      refine e_ldA (lvg_ne l0 rfl (by decide)) ?_
      refine e_ldI (lvg_ne l4 rfl (by decide)) ?_
      refine e_cN 2 rfl ?_
      refine e_add ?_
      refine e_sld (show ((5 * i) + 2) < L by omega) hL0 ?_
      refine ⟨fun _ => ?_, fun z => absurd h2 z⟩
      obtain ⟨f5, rfl⟩ : ∃ q, f4 = q + 1 := ⟨f4 - 1, by omega⟩
      refine u_L_478 ?_
      unfold bL_law_478
      refine e_cN 0 rfl ?_
      obtain ⟨f6, rfl⟩ : ∃ q, f5 = q + 1 := ⟨f5 - 1, by omega⟩
      refine u_L_479 ?_
      unfold bL_law_479
      refine And.intro hM0.1 (And.intro ⟨by omega, by omega⟩ (x_Mlight (by decide) hM0 hB0.1 (fun _ S1 n9 flt9 l9 s1 iv1 tl1 z1 v1 => ?_) (fun c hc ec h => absurd hb9 (by rw [ec]; exact nb8 hc)) (fun c hc ec h h2 => absurd hb9 (by rw [ec]; exact nb8 hc))))
      have hG1 := GI_r hG s1 (BI_flt hB0 hM0 s1 iv1 tl1 (by decide)) (by omega) (by omega)
      have hS1 := CRel_r hS hG z1 (by decide)
      obtain ⟨hT1, ir1, kx1, p1, q1, hM1, nt1, F1, cl1, hB1, hF1, hc1⟩ := id hG1
      refine e_ldA (lvg_ne l2 rfl (by decide)) ?_
      refine And.intro hM1.1 (And.intro ⟨by omega, by omega⟩ (z_thrown (v := nI 1) hM1.1 v1 ?_))
      refine e_ldI lvg_self ?_
      refine ⟨fun _ => ?_, fun z => absurd rfl z⟩
      obtain ⟨f7, rfl⟩ : ∃ q, f6 = q + 1 := ⟨f6 - 1, by omega⟩
      refine u_L_493 ?_
      unfold bL_law_493
      obtain ⟨f8, rfl⟩ : ∃ q, f7 = q + 1 := ⟨f7 - 1, by omega⟩
      refine u_L_855 ?_
      unfold bL_law_855
      exact e_inc5 (lvg_ne l4 rfl (by decide)) (K f8 _ _ _ _ (by omega) (lvg_ne (lvg_ne l0 rfl (by decide)) rfl (by decide)) (lvg_ne (lvg_ne l1 rfl (by decide)) rfl (by decide)) (lvg_ne (lvg_ne l2 rfl (by decide)) rfl (by decide)) (lvg_ne (lvg_ne l3 rfl (by decide)) rfl (by decide)) lvg_self hG1 hS1 (by omega) (by omega))
    · refine e_stI ?_
      refine e_ldA (lvg_ne l2 rfl (by decide)) ?_
      refine e_ldA (lvg_ne l0 rfl (by decide)) ?_
      refine e_ldI (lvg_ne l4 rfl (by decide)) ?_
      refine e_cN 1 rfl ?_
      refine e_add ?_
      refine e_sld (show ((5 * i) + 1) < L by omega) hL0 ?_
      refine e_ldA (lvg_ne l0 rfl (by decide)) ?_
      refine e_ldI (lvg_ne l4 rfl (by decide)) ?_
      refine e_cN 2 rfl ?_
      refine e_add ?_
      refine e_sld (show ((5 * i) + 2) < L by omega) hL0 ?_
      refine ⟨fun _ => ?_, fun z => absurd h2 z⟩
      obtain ⟨f9, rfl⟩ : ∃ q, f4 = q + 1 := ⟨f4 - 1, by omega⟩
      refine u_L_478 ?_
      unfold bL_law_478
      refine e_cN 0 rfl ?_
      obtain ⟨f10, rfl⟩ : ∃ q, f9 = q + 1 := ⟨f9 - 1, by omega⟩
      refine u_L_479 ?_
      unfold bL_law_479
      refine And.intro hM0.1 (And.intro ⟨by omega, by omega⟩ (x_Mlight (by decide) hM0 hB0.1 (fun z => absurd z (by rw [ec9]; exact nb8 hc9)) (fun c hc ec h S1 n9 flt9 l9 s1 iv1 tl1 z1 v1 => ?_) (fun c hc ec h h2 => absurd (show False from by have e1 := nI_inj (by omega) (by omega) (ec.symm.trans ec9); subst e1; exact hn9.elim (fun z => h (CRel_none hS hc z)) (fun z => h2 ((hS.2.2.1 c hc).symm.trans z))) id)))
      have hG1 := GI_r hG s1 (BI_flt hB0 hM0 s1 iv1 tl1 (by decide)) (by omega) (by omega)
      have hS1 := CRel_r hS hG z1 (by decide)
      obtain ⟨hT1, ir1, kx1, p1, q1, hM1, nt1, F1, cl1, hB1, hF1, hc1⟩ := id hG1
      refine e_ldA (lvg_ne l2 rfl (by decide)) ?_
      refine And.intro hM1.1 (And.intro ⟨by omega, by omega⟩ (z_thrown (v := nI 2) hM1.1 v1 ?_))
      refine e_ldI lvg_self ?_
      refine ⟨fun _ => ?_, fun z => absurd rfl z⟩
      obtain ⟨f11, rfl⟩ : ∃ q, f10 = q + 1 := ⟨f10 - 1, by omega⟩
      refine u_L_493 ?_
      unfold bL_law_493
      obtain ⟨f12, rfl⟩ : ∃ q, f11 = q + 1 := ⟨f11 - 1, by omega⟩
      refine u_L_855 ?_
      unfold bL_law_855
      exact e_inc5 (lvg_ne l4 rfl (by decide)) (K f12 _ _ _ _ (by omega) (lvg_ne (lvg_ne l0 rfl (by decide)) rfl (by decide)) (lvg_ne (lvg_ne l1 rfl (by decide)) rfl (by decide)) (lvg_ne (lvg_ne l2 rfl (by decide)) rfl (by decide)) (lvg_ne (lvg_ne l3 rfl (by decide)) rfl (by decide)) lvg_self hG1 hS1 (by omega) (by omega))
    · have kp9 := cak hT0 kx0 hS.1 hc9
      have g1 := GJ_LCh cc9
      have hG1 := GI_c hG t1 i1 g1
      have ek9 := (MS_GJ hM0 g1).2.2
      obtain ⟨hT1, ir1, kx1, p1, q1, hM1, nt1, F1, cl1, hB1, hF1, hc1⟩ := id hG1
      refine e_stI ?_
      refine e_ldA (lvg_ne l2 rfl (by decide)) ?_
      refine e_ldA (lvg_ne l0 rfl (by decide)) ?_
      refine e_ldI (lvg_ne l4 rfl (by decide)) ?_
      refine e_cN 1 rfl ?_
      refine e_add ?_
      refine e_sld (show ((5 * i) + 1) < L by omega) hL0 ?_
      refine e_ldA (lvg_ne l0 rfl (by decide)) ?_
      refine e_ldI (lvg_ne l4 rfl (by decide)) ?_
      refine e_cN 2 rfl ?_
      refine e_add ?_
      refine e_sld (show ((5 * i) + 2) < L by omega) hL0 ?_
      refine ⟨fun _ => ?_, fun z => absurd h2 z⟩
      obtain ⟨f13, rfl⟩ : ∃ q, f4 = q + 1 := ⟨f4 - 1, by omega⟩
      refine u_L_478 ?_
      unfold bL_law_478
      refine e_cN 0 rfl ?_
      obtain ⟨f14, rfl⟩ : ∃ q, f13 = q + 1 := ⟨f13 - 1, by omega⟩
      refine u_L_479 ?_
      unfold bL_law_479
      refine And.intro hM1.1 (And.intro ⟨by omega, by omega⟩ (x_Mlight (by decide) hM1 hB1.1 (fun z => absurd z (by rw [ec9]; exact nb8 hc9)) (fun c hc ec h => absurd (show False from by rw [ek9, ek9, nI_inj (by omega) (by omega) (ec.symm.trans ec9)] at h; exact h.elim (CRel_refs hS hc9 r9 s9).1 (fun z => nu9 ((hS.2.2.1 c9 hc9).trans z))) id) (fun c hc ec h h2 S2 n9 flt9 l9 s2 iv2 tl2 v2 pl9 => ?_)))
      have e1 := nI_inj (by omega) (by omega) (ec.symm.trans ec9)
      subst e1
      have hG2 := GI_r hG1 s2 (BI_flt hB1 hM1 s2 iv2 tl2 (by decide)) (by omega) (by omega)
      have hS2 := CRel_light hS hJ hG hc cc9 t1 hM1 s2 pl9
      obtain ⟨hT2, ir2, kx2, p2, q2, hM2, nt2, F2, cl2, hB2, hF2, hc2⟩ := id hG2
      refine e_ldA (lvg_ne l2 rfl (by decide)) ?_
      refine And.intro hM2.1 (And.intro ⟨by omega, by omega⟩ (z_thrown (v := nI 0) hM2.1 v2 ?_))
      refine e_ldI lvg_self ?_
      refine ⟨fun _ => ?_, fun z => absurd rfl z⟩
      obtain ⟨f15, rfl⟩ : ∃ q, f14 = q + 1 := ⟨f14 - 1, by omega⟩
      refine u_L_493 ?_
      unfold bL_law_493
      obtain ⟨f16, rfl⟩ : ∃ q, f15 = q + 1 := ⟨f15 - 1, by omega⟩
      refine u_L_855 ?_
      unfold bL_law_855
      exact e_inc5 (lvg_ne l4 rfl (by decide)) (K f16 _ _ _ _ (by omega) (lvg_ne (lvg_ne l0 rfl (by decide)) rfl (by decide)) (lvg_ne (lvg_ne l1 rfl (by decide)) rfl (by decide)) (lvg_ne (lvg_ne l2 rfl (by decide)) rfl (by decide)) (lvg_ne (lvg_ne l3 rfl (by decide)) rfl (by decide)) lvg_self hG2 hS2 (by omega) (by omega))
  · refine e_cN 1 rfl ?_
    obtain ⟨f17, rfl⟩ : ∃ q, f1 = q + 1 := ⟨f1 - 1, by omega⟩
    refine u_L_453 ?_
    unfold bL_law_453
    refine And.intro ⟨by omega, by omega⟩ (l_light_x (by decide) hT0 ir0 kx0 hS.1 (fun hb9 => ?_) (fun c9 hc9 ec9 hn9 => ?_) (fun c9 p9 q9 S1 hc9 ec9 r9 s9 nu9 t1 i1 cc9 => ?_))
    · refine e_stI ?_
      refine e_ldA (lvg_ne l2 rfl (by decide)) ?_
      refine e_ldA (lvg_ne l0 rfl (by decide)) ?_
      refine e_ldI (lvg_ne l4 rfl (by decide)) ?_
      refine e_cN 1 rfl ?_
      refine e_add ?_
      refine e_sld (show ((5 * i) + 1) < L by omega) hL0 ?_
      refine e_ldA (lvg_ne l0 rfl (by decide)) ?_
      refine e_ldI (lvg_ne l4 rfl (by decide)) ?_
      refine e_cN 2 rfl ?_
      refine e_add ?_
      refine e_sld (show ((5 * i) + 2) < L by omega) hL0 ?_
      refine ⟨fun z => absurd z h2, fun _ => ?_⟩
      refine e_cN 1 rfl ?_
      obtain ⟨f18, rfl⟩ : ∃ q, f17 = q + 1 := ⟨f17 - 1, by omega⟩
      refine u_L_479 ?_
      unfold bL_law_479
      refine And.intro hM0.1 (And.intro ⟨by omega, by omega⟩ (x_Mlight (by decide) hM0 hB0.1 (fun _ S1 n9 flt9 l9 s1 iv1 tl1 z1 v1 => ?_) (fun c hc ec h => absurd hb9 (by rw [ec]; exact nb8 hc)) (fun c hc ec h h2 => absurd hb9 (by rw [ec]; exact nb8 hc))))
      have hG1 := GI_r hG s1 (BI_flt hB0 hM0 s1 iv1 tl1 (by decide)) (by omega) (by omega)
      have hS1 := CRel_r hS hG z1 (by decide)
      obtain ⟨hT1, ir1, kx1, p1, q1, hM1, nt1, F1, cl1, hB1, hF1, hc1⟩ := id hG1
      refine e_ldA (lvg_ne l2 rfl (by decide)) ?_
      refine And.intro hM1.1 (And.intro ⟨by omega, by omega⟩ (z_thrown (v := nI 1) hM1.1 v1 ?_))
      refine e_ldI lvg_self ?_
      refine ⟨fun _ => ?_, fun z => absurd rfl z⟩
      obtain ⟨f19, rfl⟩ : ∃ q, f18 = q + 1 := ⟨f18 - 1, by omega⟩
      refine u_L_493 ?_
      unfold bL_law_493
      obtain ⟨f20, rfl⟩ : ∃ q, f19 = q + 1 := ⟨f19 - 1, by omega⟩
      refine u_L_855 ?_
      unfold bL_law_855
      exact e_inc5 (lvg_ne l4 rfl (by decide)) (K f20 _ _ _ _ (by omega) (lvg_ne (lvg_ne l0 rfl (by decide)) rfl (by decide)) (lvg_ne (lvg_ne l1 rfl (by decide)) rfl (by decide)) (lvg_ne (lvg_ne l2 rfl (by decide)) rfl (by decide)) (lvg_ne (lvg_ne l3 rfl (by decide)) rfl (by decide)) lvg_self hG1 hS1 (by omega) (by omega))
    · refine e_stI ?_
      refine e_ldA (lvg_ne l2 rfl (by decide)) ?_
      refine e_ldA (lvg_ne l0 rfl (by decide)) ?_
      refine e_ldI (lvg_ne l4 rfl (by decide)) ?_
      refine e_cN 1 rfl ?_
      refine e_add ?_
      refine e_sld (show ((5 * i) + 1) < L by omega) hL0 ?_
      refine e_ldA (lvg_ne l0 rfl (by decide)) ?_
      refine e_ldI (lvg_ne l4 rfl (by decide)) ?_
      refine e_cN 2 rfl ?_
      refine e_add ?_
      refine e_sld (show ((5 * i) + 2) < L by omega) hL0 ?_
      refine ⟨fun z => absurd z h2, fun _ => ?_⟩
      refine e_cN 1 rfl ?_
      obtain ⟨f21, rfl⟩ : ∃ q, f17 = q + 1 := ⟨f17 - 1, by omega⟩
      refine u_L_479 ?_
      unfold bL_law_479
      refine And.intro hM0.1 (And.intro ⟨by omega, by omega⟩ (x_Mlight (by decide) hM0 hB0.1 (fun z => absurd z (by rw [ec9]; exact nb8 hc9)) (fun c hc ec h S1 n9 flt9 l9 s1 iv1 tl1 z1 v1 => ?_) (fun c hc ec h h2 => absurd (show False from by have e1 := nI_inj (by omega) (by omega) (ec.symm.trans ec9); subst e1; exact hn9.elim (fun z => h (CRel_none hS hc z)) (fun z => h2 ((hS.2.2.1 c hc).symm.trans z))) id)))
      have hG1 := GI_r hG s1 (BI_flt hB0 hM0 s1 iv1 tl1 (by decide)) (by omega) (by omega)
      have hS1 := CRel_r hS hG z1 (by decide)
      obtain ⟨hT1, ir1, kx1, p1, q1, hM1, nt1, F1, cl1, hB1, hF1, hc1⟩ := id hG1
      refine e_ldA (lvg_ne l2 rfl (by decide)) ?_
      refine And.intro hM1.1 (And.intro ⟨by omega, by omega⟩ (z_thrown (v := nI 2) hM1.1 v1 ?_))
      refine e_ldI lvg_self ?_
      refine ⟨fun _ => ?_, fun z => absurd rfl z⟩
      obtain ⟨f22, rfl⟩ : ∃ q, f21 = q + 1 := ⟨f21 - 1, by omega⟩
      refine u_L_493 ?_
      unfold bL_law_493
      obtain ⟨f23, rfl⟩ : ∃ q, f22 = q + 1 := ⟨f22 - 1, by omega⟩
      refine u_L_855 ?_
      unfold bL_law_855
      exact e_inc5 (lvg_ne l4 rfl (by decide)) (K f23 _ _ _ _ (by omega) (lvg_ne (lvg_ne l0 rfl (by decide)) rfl (by decide)) (lvg_ne (lvg_ne l1 rfl (by decide)) rfl (by decide)) (lvg_ne (lvg_ne l2 rfl (by decide)) rfl (by decide)) (lvg_ne (lvg_ne l3 rfl (by decide)) rfl (by decide)) lvg_self hG1 hS1 (by omega) (by omega))
    · have kp9 := cak hT0 kx0 hS.1 hc9
      have g1 := GJ_LCh cc9
      have hG1 := GI_c hG t1 i1 g1
      have ek9 := (MS_GJ hM0 g1).2.2
      obtain ⟨hT1, ir1, kx1, p1, q1, hM1, nt1, F1, cl1, hB1, hF1, hc1⟩ := id hG1
      refine e_stI ?_
      refine e_ldA (lvg_ne l2 rfl (by decide)) ?_
      refine e_ldA (lvg_ne l0 rfl (by decide)) ?_
      refine e_ldI (lvg_ne l4 rfl (by decide)) ?_
      refine e_cN 1 rfl ?_
      refine e_add ?_
      refine e_sld (show ((5 * i) + 1) < L by omega) hL0 ?_
      refine e_ldA (lvg_ne l0 rfl (by decide)) ?_
      refine e_ldI (lvg_ne l4 rfl (by decide)) ?_
      refine e_cN 2 rfl ?_
      refine e_add ?_
      refine e_sld (show ((5 * i) + 2) < L by omega) hL0 ?_
      refine ⟨fun z => absurd z h2, fun _ => ?_⟩
      refine e_cN 1 rfl ?_
      obtain ⟨f24, rfl⟩ : ∃ q, f17 = q + 1 := ⟨f17 - 1, by omega⟩
      refine u_L_479 ?_
      unfold bL_law_479
      refine And.intro hM1.1 (And.intro ⟨by omega, by omega⟩ (x_Mlight (by decide) hM1 hB1.1 (fun z => absurd z (by rw [ec9]; exact nb8 hc9)) (fun c hc ec h => absurd (show False from by rw [ek9, ek9, nI_inj (by omega) (by omega) (ec.symm.trans ec9)] at h; exact h.elim (CRel_refs hS hc9 r9 s9).1 (fun z => nu9 ((hS.2.2.1 c9 hc9).trans z))) id) (fun c hc ec h h2 S2 n9 flt9 l9 s2 iv2 tl2 v2 pl9 => ?_)))
      have e1 := nI_inj (by omega) (by omega) (ec.symm.trans ec9)
      subst e1
      have hG2 := GI_r hG1 s2 (BI_flt hB1 hM1 s2 iv2 tl2 (by decide)) (by omega) (by omega)
      have hS2 := CRel_light hS hJ hG hc cc9 t1 hM1 s2 pl9
      obtain ⟨hT2, ir2, kx2, p2, q2, hM2, nt2, F2, cl2, hB2, hF2, hc2⟩ := id hG2
      refine e_ldA (lvg_ne l2 rfl (by decide)) ?_
      refine And.intro hM2.1 (And.intro ⟨by omega, by omega⟩ (z_thrown (v := nI 0) hM2.1 v2 ?_))
      refine e_ldI lvg_self ?_
      refine ⟨fun _ => ?_, fun z => absurd rfl z⟩
      obtain ⟨f25, rfl⟩ : ∃ q, f24 = q + 1 := ⟨f24 - 1, by omega⟩
      refine u_L_493 ?_
      unfold bL_law_493
      obtain ⟨f26, rfl⟩ : ∃ q, f25 = q + 1 := ⟨f25 - 1, by omega⟩
      refine u_L_855 ?_
      unfold bL_law_855
      exact e_inc5 (lvg_ne l4 rfl (by decide)) (K f26 _ _ _ _ (by omega) (lvg_ne (lvg_ne l0 rfl (by decide)) rfl (by decide)) (lvg_ne (lvg_ne l1 rfl (by decide)) rfl (by decide)) (lvg_ne (lvg_ne l2 rfl (by decide)) rfl (by decide)) (lvg_ne (lvg_ne l3 rfl (by decide)) rfl (by decide)) lvg_self hG2 hS2 (by omega) (by omega))
theorem law_c7 {b L f i : Nat} {xs : Nat → Int32} {lv : Lv} {S : MM} {x m out c z : Nat} {A ca pp : Nat → Nat} {pt : Nat → Nat → Nat} (hJ : CInj ca pp pt) (hL0 : L ≤ 2560) (hi : 5 * i + 5 ≤ L) (hc0 : c ≤ 600 + 2 * i) (hz0 : z ≤ 90000 + 13 * i) (hf : 14 ≤ f) (hG : GI S x m out A i) (hS : CRel S x A ca pp pt) (l0 : lvg lv 0 = some (.ref b)) (l1 : lvg lv 1 = some (.ref x)) (l2 : lvg lv 2 = some (.ref m)) (l3 : lvg lv 3 = some (.ref out)) (l4 : lvg lv 4 = some (.int (nI (5 * i)))) (K : ∀ f' lv' S' c' z', f ≤ f' + 14 → lvg lv' 0 = some (.ref b) → lvg lv' 1 = some (.ref x) → lvg lv' 2 = some (.ref m) → lvg lv' 3 = some (.ref out) → lvg lv' 4 = some (.int (nI (5 * (i + 1)))) → GI S' x m out A (i + 1) → CRel S' x A ca pp pt → c' ≤ c + 2 → z' ≤ z + 13 → wpn (kL_law b L xs) f' 23 lv' [] S' c' z') : wpn (kL_law b L xs) f 496 lv [] S c z := by
  obtain ⟨hT0, ir0, kx0, p0, q0, hM0, nt0, F0, cl0, hB0, hF0, hc0⟩ := id hG
  obtain ⟨f1, rfl⟩ : ∃ q, f = q + 1 := ⟨f - 1, by omega⟩
  refine u_L_496 ?_
  unfold bL_law_496
  refine e_ldA l1 ?_
  refine e_ldA l0 ?_
  refine e_ldI l4 ?_
  refine e_cN 1 rfl ?_
  refine e_add ?_
  refine e_sld (show ((5 * i) + 1) < L by omega) hL0 ?_
  refine e_ldA l0 ?_
  refine e_ldI l4 ?_
  refine e_cN 2 rfl ?_
  refine e_add ?_
  refine e_sld (show ((5 * i) + 2) < L by omega) hL0 ?_
  refine e_ldA l0 ?_
  refine e_ldI l4 ?_
  refine e_cN 3 rfl ?_
  refine e_add ?_
  refine e_sld (show ((5 * i) + 3) < L by omega) hL0 ?_
  refine And.intro ⟨by omega, by omega⟩ (l_lose  hT0 ir0 kx0 (fun hp2 => ?_) (fun hp2 S1 t1 i1 g1 => ?_))
  · refine e_stI ?_
    refine e_ldA (lvg_ne l2 rfl (by decide)) ?_
    refine e_ldA (lvg_ne l0 rfl (by decide)) ?_
    refine e_ldI (lvg_ne l4 rfl (by decide)) ?_
    refine e_cN 1 rfl ?_
    refine e_add ?_
    refine e_sld (show ((5 * i) + 1) < L by omega) hL0 ?_
    refine e_ldA (lvg_ne l0 rfl (by decide)) ?_
    refine e_ldI (lvg_ne l4 rfl (by decide)) ?_
    refine e_cN 2 rfl ?_
    refine e_add ?_
    refine e_sld (show ((5 * i) + 2) < L by omega) hL0 ?_
    refine e_ldA (lvg_ne l0 rfl (by decide)) ?_
    refine e_ldI (lvg_ne l4 rfl (by decide)) ?_
    refine e_cN 3 rfl ?_
    refine e_add ?_
    refine e_sld (show ((5 * i) + 3) < L by omega) hL0 ?_
    refine And.intro hM0.1 (And.intro ⟨by omega, by omega⟩ (z_Mlose hM0 hB0.1.1 (fun _ S1 s1 im1 v1 => ?_) (fun z => absurd hp2 z)))
    have hG1 := GI_r hG s1 (BI_SM hB0 hM0 s1 im1 (by decide)) (by omega) (by omega)
    have hS1 := CRel_r hS hG s1 (by decide)
    obtain ⟨hT1, ir1, kx1, p1, q1, hM1, nt1, F1, cl1, hB1, hF1, hc1⟩ := id hG1
    obtain ⟨f3, rfl⟩ : ∃ q, f1 = q + 1 := ⟨f1 - 1, by omega⟩
    refine u_L_855 ?_
    unfold bL_law_855
    exact e_inc5 (lvg_ne l4 rfl (by decide)) (K f3 _ _ _ _ (by omega) (lvg_ne (lvg_ne l0 rfl (by decide)) rfl (by decide)) (lvg_ne (lvg_ne l1 rfl (by decide)) rfl (by decide)) (lvg_ne (lvg_ne l2 rfl (by decide)) rfl (by decide)) (lvg_ne (lvg_ne l3 rfl (by decide)) rfl (by decide)) lvg_self hG1 hS1 (by omega) (by omega))
  · have hG1 := GI_c hG t1 i1 g1
    have hS1 := CRel_c hS hG g1 (by decide)
    obtain ⟨hT1, ir1, kx1, p1, q1, hM1, nt1, F1, cl1, hB1, hF1, hc1⟩ := id hG1
    refine e_stI ?_
    refine e_ldA (lvg_ne l2 rfl (by decide)) ?_
    refine e_ldA (lvg_ne l0 rfl (by decide)) ?_
    refine e_ldI (lvg_ne l4 rfl (by decide)) ?_
    refine e_cN 1 rfl ?_
    refine e_add ?_
    refine e_sld (show ((5 * i) + 1) < L by omega) hL0 ?_
    refine e_ldA (lvg_ne l0 rfl (by decide)) ?_
    refine e_ldI (lvg_ne l4 rfl (by decide)) ?_
    refine e_cN 2 rfl ?_
    refine e_add ?_
    refine e_sld (show ((5 * i) + 2) < L by omega) hL0 ?_
    refine e_ldA (lvg_ne l0 rfl (by decide)) ?_
    refine e_ldI (lvg_ne l4 rfl (by decide)) ?_
    refine e_cN 3 rfl ?_
    refine e_add ?_
    refine e_sld (show ((5 * i) + 3) < L by omega) hL0 ?_
    refine And.intro hM1.1 (And.intro ⟨by omega, by omega⟩ (z_Mlose hM1 hB1.1.1 (fun z => absurd z hp2) (fun _ S2 s2 im2 v2 => ?_)))
    have hG2 := GI_r hG1 s2 (BI_SM hB1 hM1 s2 im2 (by decide)) (by omega) (by omega)
    have hS2 := CRel_r hS1 hG1 s2 (by decide)
    obtain ⟨hT2, ir2, kx2, p2, q2, hM2, nt2, F2, cl2, hB2, hF2, hc2⟩ := id hG2
    obtain ⟨f4, rfl⟩ : ∃ q, f1 = q + 1 := ⟨f1 - 1, by omega⟩
    refine u_L_855 ?_
    unfold bL_law_855
    exact e_inc5 (lvg_ne l4 rfl (by decide)) (K f4 _ _ _ _ (by omega) (lvg_ne (lvg_ne l0 rfl (by decide)) rfl (by decide)) (lvg_ne (lvg_ne l1 rfl (by decide)) rfl (by decide)) (lvg_ne (lvg_ne l2 rfl (by decide)) rfl (by decide)) (lvg_ne (lvg_ne l3 rfl (by decide)) rfl (by decide)) lvg_self hG2 hS2 (by omega) (by omega))
theorem law_c8 {b L f i : Nat} {xs : Nat → Int32} {lv : Lv} {S : MM} {x m out c z : Nat} {A ca pp : Nat → Nat} {pt : Nat → Nat → Nat} (hJ : CInj ca pp pt) (hL0 : L ≤ 2560) (hi : 5 * i + 5 ≤ L) (hc0 : c ≤ 600 + 2 * i) (hz0 : z ≤ 90000 + 13 * i) (hf : 14 ≤ f) (hG : GI S x m out A i) (hS : CRel S x A ca pp pt) (l0 : lvg lv 0 = some (.ref b)) (l1 : lvg lv 1 = some (.ref x)) (l2 : lvg lv 2 = some (.ref m)) (l3 : lvg lv 3 = some (.ref out)) (l4 : lvg lv 4 = some (.int (nI (5 * i)))) (K : ∀ f' lv' S' c' z', f ≤ f' + 14 → lvg lv' 0 = some (.ref b) → lvg lv' 1 = some (.ref x) → lvg lv' 2 = some (.ref m) → lvg lv' 3 = some (.ref out) → lvg lv' 4 = some (.int (nI (5 * (i + 1)))) → GI S' x m out A (i + 1) → CRel S' x A ca pp pt → c' ≤ c + 2 → z' ≤ z + 13 → wpn (kL_law b L xs) f' 23 lv' [] S' c' z') : wpn (kL_law b L xs) f 545 lv [] S c z := by
  obtain ⟨hT0, ir0, kx0, p0, q0, hM0, nt0, F0, cl0, hB0, hF0, hc0⟩ := id hG
  obtain ⟨f1, rfl⟩ : ∃ q, f = q + 1 := ⟨f - 1, by omega⟩
  refine u_L_545 ?_
  unfold bL_law_545
  refine e_ldA l1 ?_
  refine e_ldA l0 ?_
  refine e_ldI l4 ?_
  refine e_cN 1 rfl ?_
  refine e_add ?_
  refine e_sld (show ((5 * i) + 1) < L by omega) hL0 ?_
  refine e_ldA l3 ?_
  refine And.intro ⟨by omega, by omega⟩ (l_tick  hT0 ir0 kx0 p0 q0 (fun k1 S1 t1 i1 g1 => ?_))
  have hG1 := GI_c hG t1 i1 g1
  have hS1 := CRel_c hS hG g1 (by decide)
  obtain ⟨hT1, ir1, kx1, p1, q1, hM1, nt1, F1, cl1, hB1, hF1, hc1⟩ := id hG1
  refine e_stI ?_
  refine e_ldA (lvg_ne l2 rfl (by decide)) ?_
  refine e_ldA (lvg_ne l0 rfl (by decide)) ?_
  refine e_ldI (lvg_ne l4 rfl (by decide)) ?_
  refine e_cN 1 rfl ?_
  refine e_add ?_
  refine e_sld (show ((5 * i) + 1) < L by omega) hL0 ?_
  refine And.intro hM1.1 (And.intro ⟨by omega, by omega⟩ (z_b_tick_ hM1 hB1 (by omega) (by omega) (fun r2 S2 nt9 cl9 hc9 s2 hB9 => ?_)))
  have hG2 := GI_r hG1 s2 hB9 (by omega) (by omega)
  have hS2 := CRel_r hS1 hG1 s2 (by decide)
  obtain ⟨hT2, ir2, kx2, p2, q2, hM2, nt2, F2, cl2, hB2, hF2, hc2⟩ := id hG2
  refine e_stI ?_
  obtain ⟨f2, rfl⟩ : ∃ q, f1 = q + 1 := ⟨f1 - 1, by omega⟩
  refine u_L_855 ?_
  unfold bL_law_855
  exact e_inc5 (lvg_ne (lvg_ne l4 rfl (by decide)) rfl (by decide)) (K f2 _ _ _ _ (by omega) (lvg_ne (lvg_ne (lvg_ne l0 rfl (by decide)) rfl (by decide)) rfl (by decide)) (lvg_ne (lvg_ne (lvg_ne l1 rfl (by decide)) rfl (by decide)) rfl (by decide)) (lvg_ne (lvg_ne (lvg_ne l2 rfl (by decide)) rfl (by decide)) rfl (by decide)) (lvg_ne (lvg_ne (lvg_ne l3 rfl (by decide)) rfl (by decide)) rfl (by decide)) lvg_self hG2 hS2 (by omega) (by omega))
theorem law_c9 {b L f i : Nat} {xs : Nat → Int32} {lv : Lv} {S : MM} {x m out c z : Nat} {A ca pp : Nat → Nat} {pt : Nat → Nat → Nat} (hJ : CInj ca pp pt) (hL0 : L ≤ 2560) (hi : 5 * i + 5 ≤ L) (hc0 : c ≤ 600 + 2 * i) (hz0 : z ≤ 90000 + 13 * i) (hf : 14 ≤ f) (hG : GI S x m out A i) (hS : CRel S x A ca pp pt) (l0 : lvg lv 0 = some (.ref b)) (l1 : lvg lv 1 = some (.ref x)) (l2 : lvg lv 2 = some (.ref m)) (l3 : lvg lv 3 = some (.ref out)) (l4 : lvg lv 4 = some (.int (nI (5 * i)))) (K : ∀ f' lv' S' c' z', f ≤ f' + 14 → lvg lv' 0 = some (.ref b) → lvg lv' 1 = some (.ref x) → lvg lv' 2 = some (.ref m) → lvg lv' 3 = some (.ref out) → lvg lv' 4 = some (.int (nI (5 * (i + 1)))) → GI S' x m out A (i + 1) → CRel S' x A ca pp pt → c' ≤ c + 2 → z' ≤ z + 13 → wpn (kL_law b L xs) f' 23 lv' [] S' c' z') : wpn (kL_law b L xs) f 573 lv [] S c z := by
  obtain ⟨hT0, ir0, kx0, p0, q0, hM0, nt0, F0, cl0, hB0, hF0, hc0⟩ := id hG
  obtain ⟨f1, rfl⟩ : ∃ q, f = q + 1 := ⟨f - 1, by omega⟩
  refine u_L_573 ?_
  unfold bL_law_573
  refine e_ldA l1 ?_
  refine e_ldA l0 ?_
  refine e_ldI l4 ?_
  refine e_cN 1 rfl ?_
  refine e_add ?_
  refine e_sld (show ((5 * i) + 1) < L by omega) hL0 ?_
  refine e_ldA l0 ?_
  refine e_ldI l4 ?_
  refine e_cN 2 rfl ?_
  refine e_add ?_
  refine e_sld (show ((5 * i) + 2) < L by omega) hL0 ?_
  refine e_ldA l0 ?_
  refine e_ldI l4 ?_
  refine e_cN 3 rfl ?_
  refine e_add ?_
  refine e_sld (show ((5 * i) + 3) < L by omega) hL0 ?_
  refine e_ldA l0 ?_
  refine e_ldI l4 ?_
  refine e_cN 4 rfl ?_
  refine e_add ?_
  refine e_sld (show ((5 * i) + 4) < L by omega) hL0 ?_
  refine e_ldA l3 ?_
  refine And.intro ⟨by omega, by omega⟩ (l_give  hT0 ir0 kx0 p0 q0 (fun k1 S1 t1 i1 g1 => ?_))
  have hG1 := GI_c hG t1 i1 g1
  have hS1 := CRel_c hS hG g1 (by decide)
  obtain ⟨hT1, ir1, kx1, p1, q1, hM1, nt1, F1, cl1, hB1, hF1, hc1⟩ := id hG1
  refine e_stI ?_
  refine e_ldA (lvg_ne l2 rfl (by decide)) ?_
  refine e_ldA (lvg_ne l0 rfl (by decide)) ?_
  refine e_ldI (lvg_ne l4 rfl (by decide)) ?_
  refine e_cN 1 rfl ?_
  refine e_add ?_
  refine e_sld (show ((5 * i) + 1) < L by omega) hL0 ?_
  refine e_ldA (lvg_ne l0 rfl (by decide)) ?_
  refine e_ldI (lvg_ne l4 rfl (by decide)) ?_
  refine e_cN 2 rfl ?_
  refine e_add ?_
  refine e_sld (show ((5 * i) + 2) < L by omega) hL0 ?_
  refine e_ldA (lvg_ne l0 rfl (by decide)) ?_
  refine e_ldI (lvg_ne l4 rfl (by decide)) ?_
  refine e_cN 3 rfl ?_
  refine e_add ?_
  refine e_sld (show ((5 * i) + 3) < L by omega) hL0 ?_
  refine e_ldA (lvg_ne l0 rfl (by decide)) ?_
  refine e_ldI (lvg_ne l4 rfl (by decide)) ?_
  refine e_cN 4 rfl ?_
  refine e_add ?_
  refine e_sld (show ((5 * i) + 4) < L by omega) hL0 ?_
  obtain ⟨f2, rfl⟩ : ∃ q, f1 = q + 1 := ⟨f1 - 1, by omega⟩
  refine u_L_629 ?_
  unfold bL_law_629
  refine And.intro hM1.1 (And.intro ⟨by omega, by omega⟩ (z_b_give hM1 hB1 (by omega) (by omega) (fun r2 S2 nt9 F9 hF9 s2 hB9 => ?_)))
  have hG2 := GI_r hG1 s2 hB9 (by omega) (by omega)
  have hS2 := CRel_r hS1 hG1 s2 (by decide)
  obtain ⟨hT2, ir2, kx2, p2, q2, hM2, nt2, F2, cl2, hB2, hF2, hc2⟩ := id hG2
  refine e_stI ?_
  obtain ⟨f3, rfl⟩ : ∃ q, f2 = q + 1 := ⟨f2 - 1, by omega⟩
  refine u_L_855 ?_
  unfold bL_law_855
  exact e_inc5 (lvg_ne (lvg_ne l4 rfl (by decide)) rfl (by decide)) (K f3 _ _ _ _ (by omega) (lvg_ne (lvg_ne (lvg_ne l0 rfl (by decide)) rfl (by decide)) rfl (by decide)) (lvg_ne (lvg_ne (lvg_ne l1 rfl (by decide)) rfl (by decide)) rfl (by decide)) (lvg_ne (lvg_ne (lvg_ne l2 rfl (by decide)) rfl (by decide)) rfl (by decide)) (lvg_ne (lvg_ne (lvg_ne l3 rfl (by decide)) rfl (by decide)) rfl (by decide)) lvg_self hG2 hS2 (by omega) (by omega))
theorem law_c10 {b L f i : Nat} {xs : Nat → Int32} {lv : Lv} {S : MM} {x m out c z : Nat} {A ca pp : Nat → Nat} {pt : Nat → Nat → Nat} (hJ : CInj ca pp pt) (hL0 : L ≤ 2560) (hi : 5 * i + 5 ≤ L) (hc0 : c ≤ 600 + 2 * i) (hz0 : z ≤ 90000 + 13 * i) (hf : 14 ≤ f) (hG : GI S x m out A i) (hS : CRel S x A ca pp pt) (l0 : lvg lv 0 = some (.ref b)) (l1 : lvg lv 1 = some (.ref x)) (l2 : lvg lv 2 = some (.ref m)) (l3 : lvg lv 3 = some (.ref out)) (l4 : lvg lv 4 = some (.int (nI (5 * i)))) (K : ∀ f' lv' S' c' z', f ≤ f' + 14 → lvg lv' 0 = some (.ref b) → lvg lv' 1 = some (.ref x) → lvg lv' 2 = some (.ref m) → lvg lv' 3 = some (.ref out) → lvg lv' 4 = some (.int (nI (5 * (i + 1)))) → GI S' x m out A (i + 1) → CRel S' x A ca pp pt → c' ≤ c + 2 → z' ≤ z + 13 → wpn (kL_law b L xs) f' 23 lv' [] S' c' z') : wpn (kL_law b L xs) f 637 lv [] S c z := by
  obtain ⟨hT0, ir0, kx0, p0, q0, hM0, nt0, F0, cl0, hB0, hF0, hc0⟩ := id hG
  obtain ⟨f1, rfl⟩ : ∃ q, f = q + 1 := ⟨f - 1, by omega⟩
  refine u_L_637 ?_
  unfold bL_law_637
  refine e_ldA l1 ?_
  refine e_ldA l0 ?_
  refine e_ldI l4 ?_
  refine e_cN 1 rfl ?_
  refine e_add ?_
  refine e_sld (show ((5 * i) + 1) < L by omega) hL0 ?_
  refine e_ldA l0 ?_
  refine e_ldI l4 ?_
  refine e_cN 2 rfl ?_
  refine e_add ?_
  refine e_sld (show ((5 * i) + 2) < L by omega) hL0 ?_
  refine e_ldA l0 ?_
  refine e_ldI l4 ?_
  refine e_cN 3 rfl ?_
  refine e_add ?_
  refine e_sld (show ((5 * i) + 3) < L by omega) hL0 ?_
  refine e_ldA l3 ?_
  refine And.intro ⟨by omega, by omega⟩ (l_came  hT0 ir0 kx0 p0 q0 (fun k1 S1 t1 i1 g1 => ?_))
  have hG1 := GI_c hG t1 i1 g1
  have hS1 := CRel_c hS hG g1 (by decide)
  obtain ⟨hT1, ir1, kx1, p1, q1, hM1, nt1, F1, cl1, hB1, hF1, hc1⟩ := id hG1
  refine e_stI ?_
  refine e_ldA (lvg_ne l2 rfl (by decide)) ?_
  refine e_ldA (lvg_ne l0 rfl (by decide)) ?_
  refine e_ldI (lvg_ne l4 rfl (by decide)) ?_
  refine e_cN 1 rfl ?_
  refine e_add ?_
  refine e_sld (show ((5 * i) + 1) < L by omega) hL0 ?_
  refine e_ldA (lvg_ne l0 rfl (by decide)) ?_
  refine e_ldI (lvg_ne l4 rfl (by decide)) ?_
  refine e_cN 2 rfl ?_
  refine e_add ?_
  refine e_sld (show ((5 * i) + 2) < L by omega) hL0 ?_
  refine e_ldA (lvg_ne l0 rfl (by decide)) ?_
  refine e_ldI (lvg_ne l4 rfl (by decide)) ?_
  refine e_cN 3 rfl ?_
  refine e_add ?_
  refine e_sld (show ((5 * i) + 3) < L by omega) hL0 ?_
  refine And.intro hM1.1 (And.intro ⟨by omega, by omega⟩ (z_f_came hM1 (BI_42 hB1 (by omega)) hB1.1.1 (fun r2 S2 s2 im2 => ?_)))
  have hG2 := GI_r hG1 s2 (BI_SM hB1 hM1 s2 im2 (by decide)) (by omega) (by omega)
  have hS2 := CRel_r hS1 hG1 s2 (by decide)
  obtain ⟨hT2, ir2, kx2, p2, q2, hM2, nt2, F2, cl2, hB2, hF2, hc2⟩ := id hG2
  refine e_stI ?_
  obtain ⟨f2, rfl⟩ : ∃ q, f1 = q + 1 := ⟨f1 - 1, by omega⟩
  refine u_L_855 ?_
  unfold bL_law_855
  exact e_inc5 (lvg_ne (lvg_ne l4 rfl (by decide)) rfl (by decide)) (K f2 _ _ _ _ (by omega) (lvg_ne (lvg_ne (lvg_ne l0 rfl (by decide)) rfl (by decide)) rfl (by decide)) (lvg_ne (lvg_ne (lvg_ne l1 rfl (by decide)) rfl (by decide)) rfl (by decide)) (lvg_ne (lvg_ne (lvg_ne l2 rfl (by decide)) rfl (by decide)) rfl (by decide)) (lvg_ne (lvg_ne (lvg_ne l3 rfl (by decide)) rfl (by decide)) rfl (by decide)) lvg_self hG2 hS2 (by omega) (by omega))
theorem law_c11 {b L f i : Nat} {xs : Nat → Int32} {lv : Lv} {S : MM} {x m out c z : Nat} {A ca pp : Nat → Nat} {pt : Nat → Nat → Nat} (hJ : CInj ca pp pt) (hL0 : L ≤ 2560) (hi : 5 * i + 5 ≤ L) (hc0 : c ≤ 600 + 2 * i) (hz0 : z ≤ 90000 + 13 * i) (hf : 14 ≤ f) (hG : GI S x m out A i) (hS : CRel S x A ca pp pt) (l0 : lvg lv 0 = some (.ref b)) (l1 : lvg lv 1 = some (.ref x)) (l2 : lvg lv 2 = some (.ref m)) (l3 : lvg lv 3 = some (.ref out)) (l4 : lvg lv 4 = some (.int (nI (5 * i)))) (K : ∀ f' lv' S' c' z', f ≤ f' + 14 → lvg lv' 0 = some (.ref b) → lvg lv' 1 = some (.ref x) → lvg lv' 2 = some (.ref m) → lvg lv' 3 = some (.ref out) → lvg lv' 4 = some (.int (nI (5 * (i + 1)))) → GI S' x m out A (i + 1) → CRel S' x A ca pp pt → c' ≤ c + 2 → z' ≤ z + 13 → wpn (kL_law b L xs) f' 23 lv' [] S' c' z') : wpn (kL_law b L xs) f 689 lv [] S c z := by
  obtain ⟨hT0, ir0, kx0, p0, q0, hM0, nt0, F0, cl0, hB0, hF0, hc0⟩ := id hG
  obtain ⟨f1, rfl⟩ : ∃ q, f = q + 1 := ⟨f - 1, by omega⟩
  refine u_L_689 ?_
  unfold bL_law_689
  refine e_ldA l1 ?_
  refine e_ldA l0 ?_
  refine e_ldI l4 ?_
  refine e_cN 1 rfl ?_
  refine e_add ?_
  refine e_sld (show ((5 * i) + 1) < L by omega) hL0 ?_
  refine e_ldA l0 ?_
  refine e_ldI l4 ?_
  refine e_cN 2 rfl ?_
  refine e_add ?_
  refine e_sld (show ((5 * i) + 2) < L by omega) hL0 ?_
  refine e_ldA l0 ?_
  refine e_ldI l4 ?_
  refine e_cN 3 rfl ?_
  refine e_add ?_
  refine e_sld (show ((5 * i) + 3) < L by omega) hL0 ?_
  refine e_ldA l3 ?_
  refine And.intro ⟨by omega, by omega⟩ (l_look  hT0 ir0 kx0 p0 q0 (fun k1 S1 t1 i1 g1 => ?_))
  have hG1 := GI_c hG t1 i1 g1
  have hS1 := CRel_c hS hG g1 (by decide)
  obtain ⟨hT1, ir1, kx1, p1, q1, hM1, nt1, F1, cl1, hB1, hF1, hc1⟩ := id hG1
  refine e_stI ?_
  refine e_ldA (lvg_ne l2 rfl (by decide)) ?_
  refine e_ldA (lvg_ne l0 rfl (by decide)) ?_
  refine e_ldI (lvg_ne l4 rfl (by decide)) ?_
  refine e_cN 1 rfl ?_
  refine e_add ?_
  refine e_sld (show ((5 * i) + 1) < L by omega) hL0 ?_
  refine e_ldA (lvg_ne l0 rfl (by decide)) ?_
  refine e_ldI (lvg_ne l4 rfl (by decide)) ?_
  refine e_cN 2 rfl ?_
  refine e_add ?_
  refine e_sld (show ((5 * i) + 2) < L by omega) hL0 ?_
  refine e_ldA (lvg_ne l0 rfl (by decide)) ?_
  refine e_ldI (lvg_ne l4 rfl (by decide)) ?_
  refine e_cN 3 rfl ?_
  refine e_add ?_
  refine e_sld (show ((5 * i) + 3) < L by omega) hL0 ?_
  refine And.intro hM1.1 (And.intro ⟨by omega, by omega⟩ (z_X8_look hM1 hB1.1.1 (fun r2 S2 s2 im2 => ?_)))
  have hG2 := GI_r hG1 s2 (BI_SM hB1 hM1 s2 im2 (by decide)) (by omega) (by omega)
  have hS2 := CRel_r hS1 hG1 s2 (by decide)
  obtain ⟨hT2, ir2, kx2, p2, q2, hM2, nt2, F2, cl2, hB2, hF2, hc2⟩ := id hG2
  refine e_stI ?_
  obtain ⟨f2, rfl⟩ : ∃ q, f1 = q + 1 := ⟨f1 - 1, by omega⟩
  refine u_L_855 ?_
  unfold bL_law_855
  exact e_inc5 (lvg_ne (lvg_ne l4 rfl (by decide)) rfl (by decide)) (K f2 _ _ _ _ (by omega) (lvg_ne (lvg_ne (lvg_ne l0 rfl (by decide)) rfl (by decide)) rfl (by decide)) (lvg_ne (lvg_ne (lvg_ne l1 rfl (by decide)) rfl (by decide)) rfl (by decide)) (lvg_ne (lvg_ne (lvg_ne l2 rfl (by decide)) rfl (by decide)) rfl (by decide)) (lvg_ne (lvg_ne (lvg_ne l3 rfl (by decide)) rfl (by decide)) rfl (by decide)) lvg_self hG2 hS2 (by omega) (by omega))
theorem law_c12 {b L f i : Nat} {xs : Nat → Int32} {lv : Lv} {S : MM} {x m out c z : Nat} {A ca pp : Nat → Nat} {pt : Nat → Nat → Nat} (hJ : CInj ca pp pt) (hL0 : L ≤ 2560) (hi : 5 * i + 5 ≤ L) (hc0 : c ≤ 600 + 2 * i) (hz0 : z ≤ 90000 + 13 * i) (hf : 14 ≤ f) (hG : GI S x m out A i) (hS : CRel S x A ca pp pt) (l0 : lvg lv 0 = some (.ref b)) (l1 : lvg lv 1 = some (.ref x)) (l2 : lvg lv 2 = some (.ref m)) (l3 : lvg lv 3 = some (.ref out)) (l4 : lvg lv 4 = some (.int (nI (5 * i)))) (K : ∀ f' lv' S' c' z', f ≤ f' + 14 → lvg lv' 0 = some (.ref b) → lvg lv' 1 = some (.ref x) → lvg lv' 2 = some (.ref m) → lvg lv' 3 = some (.ref out) → lvg lv' 4 = some (.int (nI (5 * (i + 1)))) → GI S' x m out A (i + 1) → CRel S' x A ca pp pt → c' ≤ c + 2 → z' ≤ z + 13 → wpn (kL_law b L xs) f' 23 lv' [] S' c' z') : wpn (kL_law b L xs) f 741 lv [] S c z := by
  obtain ⟨hT0, ir0, kx0, p0, q0, hM0, nt0, F0, cl0, hB0, hF0, hc0⟩ := id hG
  obtain ⟨f1, rfl⟩ : ∃ q, f = q + 1 := ⟨f - 1, by omega⟩
  refine u_L_741 ?_
  unfold bL_law_741
  refine e_ldA l1 ?_
  refine e_ldA l0 ?_
  refine e_ldI l4 ?_
  refine e_cN 1 rfl ?_
  refine e_add ?_
  refine e_sld (show ((5 * i) + 1) < L by omega) hL0 ?_
  refine e_ldA l0 ?_
  refine e_ldI l4 ?_
  refine e_cN 2 rfl ?_
  refine e_add ?_
  refine e_sld (show ((5 * i) + 2) < L by omega) hL0 ?_
  refine e_ldA l3 ?_
  refine And.intro ⟨by omega, by omega⟩ (l_cable  hT0 ir0 kx0 p0 q0 (fun k1 S1 t1 i1 g1 => ?_))
  have hG1 := GI_c hG t1 i1 g1
  have hS1 := CRel_c hS hG g1 (by decide)
  obtain ⟨hT1, ir1, kx1, p1, q1, hM1, nt1, F1, cl1, hB1, hF1, hc1⟩ := id hG1
  refine e_stI ?_
  refine e_ldA (lvg_ne l2 rfl (by decide)) ?_
  refine e_ldA (lvg_ne l0 rfl (by decide)) ?_
  refine e_ldI (lvg_ne l4 rfl (by decide)) ?_
  refine e_cN 1 rfl ?_
  refine e_add ?_
  refine e_sld (show ((5 * i) + 1) < L by omega) hL0 ?_
  refine e_ldA (lvg_ne l0 rfl (by decide)) ?_
  refine e_ldI (lvg_ne l4 rfl (by decide)) ?_
  refine e_cN 2 rfl ?_
  refine e_add ?_
  refine e_sld (show ((5 * i) + 2) < L by omega) hL0 ?_
  refine And.intro hM1.1 (And.intro ⟨by omega, by omega⟩ (z_X8_cable hM1 hB1.1.1 (fun r2 S2 s2 im2 => ?_)))
  have hG2 := GI_r hG1 s2 (BI_SM hB1 hM1 s2 im2 (by decide)) (by omega) (by omega)
  have hS2 := CRel_r hS1 hG1 s2 (by decide)
  obtain ⟨hT2, ir2, kx2, p2, q2, hM2, nt2, F2, cl2, hB2, hF2, hc2⟩ := id hG2
  refine e_stI ?_
  obtain ⟨f2, rfl⟩ : ∃ q, f1 = q + 1 := ⟨f1 - 1, by omega⟩
  refine u_L_855 ?_
  unfold bL_law_855
  exact e_inc5 (lvg_ne (lvg_ne l4 rfl (by decide)) rfl (by decide)) (K f2 _ _ _ _ (by omega) (lvg_ne (lvg_ne (lvg_ne l0 rfl (by decide)) rfl (by decide)) rfl (by decide)) (lvg_ne (lvg_ne (lvg_ne l1 rfl (by decide)) rfl (by decide)) rfl (by decide)) (lvg_ne (lvg_ne (lvg_ne l2 rfl (by decide)) rfl (by decide)) rfl (by decide)) (lvg_ne (lvg_ne (lvg_ne l3 rfl (by decide)) rfl (by decide)) rfl (by decide)) lvg_self hG2 hS2 (by omega) (by omega))
theorem law_c13 {b L f i : Nat} {xs : Nat → Int32} {lv : Lv} {S : MM} {x m out c z : Nat} {A ca pp : Nat → Nat} {pt : Nat → Nat → Nat} (hJ : CInj ca pp pt) (hL0 : L ≤ 2560) (hi : 5 * i + 5 ≤ L) (hc0 : c ≤ 600 + 2 * i) (hz0 : z ≤ 90000 + 13 * i) (hf : 14 ≤ f) (hG : GI S x m out A i) (hS : CRel S x A ca pp pt) (l0 : lvg lv 0 = some (.ref b)) (l1 : lvg lv 1 = some (.ref x)) (l2 : lvg lv 2 = some (.ref m)) (l3 : lvg lv 3 = some (.ref out)) (l4 : lvg lv 4 = some (.int (nI (5 * i)))) (K : ∀ f' lv' S' c' z', f ≤ f' + 14 → lvg lv' 0 = some (.ref b) → lvg lv' 1 = some (.ref x) → lvg lv' 2 = some (.ref m) → lvg lv' 3 = some (.ref out) → lvg lv' 4 = some (.int (nI (5 * (i + 1)))) → GI S' x m out A (i + 1) → CRel S' x A ca pp pt → c' ≤ c + 2 → z' ≤ z + 13 → wpn (kL_law b L xs) f' 23 lv' [] S' c' z') : wpn (kL_law b L xs) f 781 lv [] S c z := by
  obtain ⟨hT0, ir0, kx0, p0, q0, hM0, nt0, F0, cl0, hB0, hF0, hc0⟩ := id hG
  obtain ⟨f1, rfl⟩ : ∃ q, f = q + 1 := ⟨f - 1, by omega⟩
  refine u_L_781 ?_
  unfold bL_law_781
  refine e_ldA l1 ?_
  refine e_ldA l0 ?_
  refine e_ldI l4 ?_
  refine e_cN 1 rfl ?_
  refine e_add ?_
  refine e_sld (show ((5 * i) + 1) < L by omega) hL0 ?_
  refine e_ldA l0 ?_
  refine e_ldI l4 ?_
  refine e_cN 2 rfl ?_
  refine e_add ?_
  refine e_sld (show ((5 * i) + 2) < L by omega) hL0 ?_
  refine e_ldA l0 ?_
  refine e_ldI l4 ?_
  refine e_cN 3 rfl ?_
  refine e_add ?_
  refine e_sld (show ((5 * i) + 3) < L by omega) hL0 ?_
  refine And.intro kx0 (And.intro ⟨by omega, by omega⟩ (z_X7_note hT0 ir0 kx0 (fun r1 S1 s1 i1 => ?_)))
  have t1 := TY_SH hT0 s1
  have g1 : GJ V0 _ _ := GJ.sh s1 (by decide)
  have hG1 := GI_c hG t1 i1 g1
  have hS1 := CRel_c hS hG g1 (by decide)
  obtain ⟨hT1, ir1, kx1, p1, q1, hM1, nt1, F1, cl1, hB1, hF1, hc1⟩ := id hG1
  refine e_po ?_
  refine e_ldA l2 ?_
  refine e_ldA l0 ?_
  refine e_ldI l4 ?_
  refine e_cN 1 rfl ?_
  refine e_add ?_
  refine e_sld (show ((5 * i) + 1) < L by omega) hL0 ?_
  refine e_ldA l0 ?_
  refine e_ldI l4 ?_
  refine e_cN 2 rfl ?_
  refine e_add ?_
  refine e_sld (show ((5 * i) + 2) < L by omega) hL0 ?_
  refine e_ldA l0 ?_
  refine e_ldI l4 ?_
  refine e_cN 3 rfl ?_
  refine e_add ?_
  refine e_sld (show ((5 * i) + 3) < L by omega) hL0 ?_
  refine And.intro hM1.1 (And.intro ⟨by omega, by omega⟩ (z_X8_note hM1 hB1.1.1 (fun r2 S2 s2 im2 => ?_)))
  have hG2 := GI_r hG1 s2 (BI_SM hB1 hM1 s2 im2 (by decide)) (by omega) (by omega)
  have hS2 := CRel_r hS1 hG1 s2 (by decide)
  obtain ⟨hT2, ir2, kx2, p2, q2, hM2, nt2, F2, cl2, hB2, hF2, hc2⟩ := id hG2
  refine e_po ?_
  obtain ⟨f2, rfl⟩ : ∃ q, f1 = q + 1 := ⟨f1 - 1, by omega⟩
  refine u_L_855 ?_
  unfold bL_law_855
  exact e_inc5 l4 (K f2 _ _ _ _ (by omega) (lvg_ne l0 rfl (by decide)) (lvg_ne l1 rfl (by decide)) (lvg_ne l2 rfl (by decide)) (lvg_ne l3 rfl (by decide)) lvg_self hG2 hS2 (by omega) (by omega))
theorem law_c14 {b L f i : Nat} {xs : Nat → Int32} {lv : Lv} {S : MM} {x m out c z : Nat} {A ca pp : Nat → Nat} {pt : Nat → Nat → Nat} (hJ : CInj ca pp pt) (hL0 : L ≤ 2560) (hi : 5 * i + 5 ≤ L) (hc0 : c ≤ 600 + 2 * i) (hz0 : z ≤ 90000 + 13 * i) (hf : 14 ≤ f) (hG : GI S x m out A i) (hS : CRel S x A ca pp pt) (l0 : lvg lv 0 = some (.ref b)) (l1 : lvg lv 1 = some (.ref x)) (l2 : lvg lv 2 = some (.ref m)) (l3 : lvg lv 3 = some (.ref out)) (l4 : lvg lv 4 = some (.int (nI (5 * i)))) (K : ∀ f' lv' S' c' z', f ≤ f' + 14 → lvg lv' 0 = some (.ref b) → lvg lv' 1 = some (.ref x) → lvg lv' 2 = some (.ref m) → lvg lv' 3 = some (.ref out) → lvg lv' 4 = some (.int (nI (5 * (i + 1)))) → GI S' x m out A (i + 1) → CRel S' x A ca pp pt → c' ≤ c + 2 → z' ≤ z + 13 → wpn (kL_law b L xs) f' 23 lv' [] S' c' z') : wpn (kL_law b L xs) f 830 lv [] S c z := by
  obtain ⟨hT0, ir0, kx0, p0, q0, hM0, nt0, F0, cl0, hB0, hF0, hc0⟩ := id hG
  obtain ⟨f1, rfl⟩ : ∃ q, f = q + 1 := ⟨f - 1, by omega⟩
  refine u_L_830 ?_
  unfold bL_law_830
  refine e_ldA l1 ?_
  refine e_ldA l0 ?_
  refine e_ldI l4 ?_
  refine e_cN 1 rfl ?_
  refine e_add ?_
  refine e_sld (show ((5 * i) + 1) < L by omega) hL0 ?_
  refine And.intro kx0 (And.intro ⟨by omega, by omega⟩ (z_X7_count hT0 ir0 kx0 (fun r1 S1 s1 i1 => ?_)))
  have t1 := TY_SH hT0 s1
  have g1 : GJ V0 _ _ := GJ.sh s1 (by decide)
  have hG1 := GI_c hG t1 i1 g1
  have hS1 := CRel_c hS hG g1 (by decide)
  obtain ⟨hT1, ir1, kx1, p1, q1, hM1, nt1, F1, cl1, hB1, hF1, hc1⟩ := id hG1
  refine e_po ?_
  refine e_ldA l2 ?_
  refine e_ldA l0 ?_
  refine e_ldI l4 ?_
  refine e_cN 1 rfl ?_
  refine e_add ?_
  refine e_sld (show ((5 * i) + 1) < L by omega) hL0 ?_
  refine And.intro hM1.1 (And.intro ⟨by omega, by omega⟩ (z_X8_count hM1 hB1.1.1 (fun r2 S2 s2 im2 => ?_)))
  have hG2 := GI_r hG1 s2 (BI_SM hB1 hM1 s2 im2 (by decide)) (by omega) (by omega)
  have hS2 := CRel_r hS1 hG1 s2 (by decide)
  obtain ⟨hT2, ir2, kx2, p2, q2, hM2, nt2, F2, cl2, hB2, hF2, hc2⟩ := id hG2
  refine e_po ?_
  obtain ⟨f2, rfl⟩ : ∃ q, f1 = q + 1 := ⟨f1 - 1, by omega⟩
  refine u_L_855 ?_
  unfold bL_law_855
  exact e_inc5 l4 (K f2 _ _ _ _ (by omega) (lvg_ne l0 rfl (by decide)) (lvg_ne l1 rfl (by decide)) (lvg_ne l2 rfl (by decide)) (lvg_ne l3 rfl (by decide)) lvg_self hG2 hS2 (by omega) (by omega))
theorem law_cd {b L f i : Nat} {xs : Nat → Int32} {lv : Lv} {S : MM} {x m out c z : Nat} {A ca pp : Nat → Nat} {pt : Nat → Nat → Nat} (hJ : CInj ca pp pt) (hL0 : L ≤ 2560) (hi : 5 * i + 5 ≤ L) (hc0 : c ≤ 600 + 2 * i) (hz0 : z ≤ 90000 + 13 * i) (hf : 14 ≤ f) (hG : GI S x m out A i) (hS : CRel S x A ca pp pt) (l0 : lvg lv 0 = some (.ref b)) (l1 : lvg lv 1 = some (.ref x)) (l2 : lvg lv 2 = some (.ref m)) (l3 : lvg lv 3 = some (.ref out)) (l4 : lvg lv 4 = some (.int (nI (5 * i)))) (K : ∀ f' lv' S' c' z', f ≤ f' + 14 → lvg lv' 0 = some (.ref b) → lvg lv' 1 = some (.ref x) → lvg lv' 2 = some (.ref m) → lvg lv' 3 = some (.ref out) → lvg lv' 4 = some (.int (nI (5 * (i + 1)))) → GI S' x m out A (i + 1) → CRel S' x A ca pp pt → c' ≤ c + 2 → z' ≤ z + 13 → wpn (kL_law b L xs) f' 23 lv' [] S' c' z') : wpn (kL_law b L xs) f 855 lv [] S c z := by
  obtain ⟨q, rfl⟩ : ∃ q, f = q + 1 := ⟨f - 1, by omega⟩
  refine u_L_855 ?_
  unfold bL_law_855
  have hG1 : GI S x m out A (i + 1) := by
    obtain ⟨h1, h2, h3, h4, h5, h6, nt, F, cl, h7, h8, h9⟩ := hG
    exact ⟨h1, h2, h3, h4, h5, h6, nt, F, cl, h7, by omega, by omega⟩
  exact e_inc5 l4 (K q _ _ _ _ (by omega) (lvg_ne l0 rfl (by decide)) (lvg_ne l1 rfl (by decide)) (lvg_ne l2 rfl (by decide)) (lvg_ne l3 rfl (by decide)) lvg_self hG1 hS (by omega) (by omega))
theorem and15 (v : Int32) : ∃ j : Nat, j ≤ 15 ∧ (v &&& 15).toInt = (j : Int) := by
  have h1 : (v &&& 15).toBitVec.toNat ≤ 15 := by
    rw [Int32.toBitVec_and, BitVec.toNat_and]
    exact Nat.and_le_right
  refine ⟨(v &&& 15).toBitVec.toNat, h1, ?_⟩
  rw [← Int32.toInt_toBitVec]
  exact BitVec.toInt_eq_toNat_of_lt (by omega)
theorem law_loop {b L : Nat} {xs : Nat → Int32} {x m out : Nat} {A ca pp : Nat → Nat} {pt : Nat → Nat → Nat} (hJ : CInj ca pp pt) (hL0 : L ≤ 2560) : ∀ (r i f : Nat) (lv : Lv) (S : MM) (c z : Nat), i + r = 512 → 15 * r + 2 ≤ f → lvg lv 0 = some (.ref b) → lvg lv 1 = some (.ref x) → lvg lv 2 = some (.ref m) → lvg lv 3 = some (.ref out) → lvg lv 4 = some (.int (nI (5 * i))) → GI S x m out A i → CRel S x A ca pp pt → c ≤ 600 + 2 * i → z ≤ 90000 + 13 * i → wpn (kL_law b L xs) f 23 lv [] S c z := by
  have exit : ∀ (i f : Nat) (lv : Lv) (S : MM) (c z : Nat), i ≤ 512 → ¬ 5 * i + 5 ≤ L → lvg lv 0 = some (.ref b) → lvg lv 4 = some (.int (nI (5 * i))) → wpn (kL_law b L xs) (f + 2) 23 lv [] S c z := fun i f lv S c z hi h l0 l4 => by
    refine u_L_23 ?_
    unfold bL_law_23
    refine e_ldI l4 (e_ldA l0 (And.intro rfl (e_cI ⟨fun _ => rfl, fun hn => absurd ?_ hn⟩)))
    show Int32.ofNat L - 5 < nI (5 * i)
    have e : Int32.ofNat L = nI L := rfl
    rw [Int32.lt_iff_toInt_lt, e, Int32.toInt_sub, nI_toInt (by omega), nI_toInt (by omega), show (5 : Int32).toInt = 5 from by decide, Int.bmod_eq_of_le (by omega) (by omega)]
    omega
  intro r
  induction r with
  | zero =>
    intro i f lv S c z hi hf l0 l1 l2 l3 l4 hG hS hc hz
    obtain ⟨g, rfl⟩ : ∃ g, f = g + 2 := ⟨f - 2, by omega⟩
    exact exit i g lv S c z (by omega) (by omega) l0 l4
  | succ r ih =>
    intro i f lv S c z hi hf l0 l1 l2 l3 l4 hG hS hc hz
    by_cases h5 : 5 * i + 5 ≤ L
    · obtain ⟨g, rfl⟩ : ∃ g, f = g + 1 := ⟨f - 1, by omega⟩
      have K : ∀ f' lv' S' c' z', g ≤ f' + 14 → lvg lv' 0 = some (.ref b) → lvg lv' 1 = some (.ref x) → lvg lv' 2 = some (.ref m) → lvg lv' 3 = some (.ref out) → lvg lv' 4 = some (.int (nI (5 * (i + 1)))) → GI S' x m out A (i + 1) → CRel S' x A ca pp pt → c' ≤ c + 2 → z' ≤ z + 13 → wpn (kL_law b L xs) f' 23 lv' [] S' c' z' := fun f' lv' S' c' z' q0 q1 q2 q3 q4 q5 q6 q9 q7 q8 => ih (i + 1) f' lv' S' c' z' (by omega) (by omega) q1 q2 q3 q4 q5 q6 q9 (by omega) (by omega)
      refine u_L_23 ?_
      unfold bL_law_23
      refine e_ldI l4 (e_ldA l0 (And.intro rfl (e_cI ⟨fun hn => absurd (show Int32.ofNat L - 5 < nI (5 * i) from hn) ?_, fun _ => e_ldA l0 (e_ldI l4 (e_sld (by omega) hL0 (e_cI ?_)))⟩)))
      · have e : Int32.ofNat L = nI L := rfl
        rw [Int32.lt_iff_toInt_lt, e, Int32.toInt_sub, nI_toInt (by omega), nI_toInt (by omega), show (5 : Int32).toInt = 5 from by decide, Int.bmod_eq_of_le (by omega) (by omega)]
        omega
      · obtain ⟨j, hj, ej⟩ := and15 (xs (5 * i))
        refine And.intro (fun _ => law_cd hJ hL0 h5 hc hz (by omega) hG hS l0 l1 l2 l3 l4 K) (fun k e hle => ?_)
        have e' : (xs (5 * i) &&& 15).toInt = 0 + (k : Int) := e
        have ek : k = j := by omega
        subst ek
        match k, hle with
        | 0, _ => exact law_c0 hJ hL0 h5 hc hz (by omega) hG hS l0 l1 l2 l3 l4 K
        | 1, _ => exact law_c1 hJ hL0 h5 hc hz (by omega) hG hS l0 l1 l2 l3 l4 K
        | 2, _ => exact law_c2 hJ hL0 h5 hc hz (by omega) hG hS l0 l1 l2 l3 l4 K
        | 3, _ => exact law_c3 hJ hL0 h5 hc hz (by omega) hG hS l0 l1 l2 l3 l4 K
        | 4, _ => exact law_c4 hJ hL0 h5 hc hz (by omega) hG hS l0 l1 l2 l3 l4 K
        | 5, _ => exact law_c5 hJ hL0 h5 hc hz (by omega) hG hS l0 l1 l2 l3 l4 K
        | 6, _ => exact law_c6 hJ hL0 h5 hc hz (by omega) hG hS l0 l1 l2 l3 l4 K
        | 7, _ => exact law_c7 hJ hL0 h5 hc hz (by omega) hG hS l0 l1 l2 l3 l4 K
        | 8, _ => exact law_c8 hJ hL0 h5 hc hz (by omega) hG hS l0 l1 l2 l3 l4 K
        | 9, _ => exact law_c9 hJ hL0 h5 hc hz (by omega) hG hS l0 l1 l2 l3 l4 K
        | 10, _ => exact law_c10 hJ hL0 h5 hc hz (by omega) hG hS l0 l1 l2 l3 l4 K
        | 11, _ => exact law_c11 hJ hL0 h5 hc hz (by omega) hG hS l0 l1 l2 l3 l4 K
        | 12, _ => exact law_c12 hJ hL0 h5 hc hz (by omega) hG hS l0 l1 l2 l3 l4 K
        | 13, _ => exact law_c13 hJ hL0 h5 hc hz (by omega) hG hS l0 l1 l2 l3 l4 K
        | 14, _ => exact law_c14 hJ hL0 h5 hc hz (by omega) hG hS l0 l1 l2 l3 l4 K
        | nn + 15, hh => exact absurd hh (by omega)
    · obtain ⟨g, rfl⟩ : ∃ g, f = g + 2 := ⟨f - 2, by omega⟩
      exact exit i g lv S c z (by omega) h5 l0 l4
/-! the start -/
theorem B0_ext {S S' : MM} {x aE aC e0 e1 : Nat} (h : B0 S x aE aC e0 e1) (st : ∀ a, sK S a ≠ 0 → RS S S' a) : B0 S' x aE aC e0 e1 := by
  obtain ⟨⟨b1, b2, b3, b4, b5, b6, b7, b8, b9, b10⟩, hz, hE0, hE1, hC⟩ := h
  have rx := st x (by rw [b1]; decide)
  have re := st aE (by rw [b4]; decide)
  have rc := st aC (by rw [b6]; decide)
  refine ⟨⟨by rw [rx.1]; exact b1, by rw [rx.2.2.2.1]; exact b2, by rw [rx.2.2.2.1]; exact b3, by rw [re.1]; exact b4, by rw [re.2.1]; exact b5, by rw [rc.1]; exact b6, by rw [rc.2.1]; exact b7, by rw [re.2.2.2.1]; exact b8, by rw [re.2.2.2.1]; exact b9, b10⟩, fun j => by rw [rx.2.2.1]; exact hz j, ?_, ?_, fun c hc => ?_⟩
  · exact E0_ext hE0 (st e0 (by rw [hE0.1.1]; decide)) (fun a ha => st a (by rcases ha with q | q | q; rw [q]; decide; rw [q]; decide; rw [q.1]; decide))
  · exact E0_ext hE1 (st e1 (by rw [hE1.1.1]; decide)) (fun a ha => st a (by rcases ha with q | q | q; rw [q]; decide; rw [q]; decide; rw [q.1]; decide))
  · obtain ⟨a, a1, a2⟩ := hC c hc
    exact ⟨a, by rw [rc.2.2.2.1]; exact a1, C0_ext a2 (st a (by rw [a2.1.1]; decide)) (fun a ha => st a (by rcases ha with q | q | q; rw [q]; decide; rw [q]; decide; rw [q.1]; decide))⟩
theorem MS_of {S0 S : MM} {m : Nat} (h : MI S0 S m DM (fM 16)) : ∃ A, MS S m A ∧ (∀ j, sI S m j = 0) ∧ ∀ k ∈ DM, ∀ j, sI S (A k) j = fM 16 k j := by
  obtain ⟨h1, h2, h3, h4, h5⟩ := h
  have at' : ∀ k ∈ DM, (if k ∈ DM then (sR S m k).getD m else m) = (sR S m k).getD m := fun k hk => if_pos hk
  refine ⟨fun k => if k ∈ DM then (sR S m k).getD m else m, ⟨h2, fun k hk => ?_, fun k hk k' hk' e => ?_, fun k hk => if_neg hk⟩, h3, fun k hk j => ?_⟩
  · obtain ⟨a, a1, a2, a3, a4, a5, a6⟩ := h4 k hk
    have ea : (if k ∈ DM then (sR S m k).getD m else m) = a := by rw [at' k hk, a1]; rfl
    exact ⟨by show sR S m k = some (if k ∈ DM then (sR S m k).getD m else m); rw [ea]; exact a1, by show sK S (if k ∈ DM then (sR S m k).getD m else m) = _; rw [ea]; exact a2, by show sN S (if k ∈ DM then (sR S m k).getD m else m) = _; rw [ea]; exact a3, by show (if k ∈ DM then (sR S m k).getD m else m) ≠ m; rw [ea]; exact a6⟩
  · have e' : (if k ∈ DM then (sR S m k).getD m else m) = (if k' ∈ DM then (sR S m k').getD m else m) := e
    rw [at' k hk, at' k' hk'] at e'
    obtain ⟨a, a1, -⟩ := h4 k hk
    obtain ⟨a', b1, -⟩ := h4 k' hk'
    rw [a1, b1] at e'
    have e2 : a = a' := e'
    exact h5 k hk k' hk' (by rw [a1, b1, e2])
  · obtain ⟨a, a1, a2, a3, a4, a5, a6⟩ := h4 k hk
    show sI S (if k ∈ DM then (sR S m k).getD m else m) j = _
    rw [at' k hk, a1]
    exact a4 j
theorem BI_0 {S : MM} {m : Nat} {A : Nat → Nat} (h0 : ∀ j, sI S m j = 0) (hk : ∀ k ∈ DM, ∀ j, sI S (A k) j = fM 16 k j) : BI S m A 0 0 0 := by
  have z : ∀ k ∈ DM, k ≠ 1 → k ≠ 2 → k ≠ 4 → k ≠ 11 → k ≠ 12 → k ≠ 21 → ∀ j, sI S (A k) j = 0 := fun k h1 h2 h3 h4 h5 h6 h7 j => by
    rw [hk k h1 j]
    unfold fM f0M
    rw [if_neg (fun z => h4 z.1), if_neg (fun z => by rcases z.1 with q | q | q <;> contradiction), if_neg h2, if_neg h3]
  refine ⟨⟨⟨fun k N hr j => ?_, fun j N hr => ⟨0, ?_, h0 j⟩, fun j => Or.inr ⟨0, by decide, z 30 (by decide) (by decide) (by decide) (by decide) (by decide) (by decide) (by decide) j⟩⟩, ⟨?_, ?_, ?_, ?_, ?_⟩, h0 32, by decide, fun q hq => absurd hq List.not_mem_nil⟩, h0 39, h0 43, ⟨fun q hq => absurd hq List.not_mem_nil, fun k hk => Nat.zero_le _⟩, 0, ⟨0, 0, z 42 (by decide) (by decide) (by decide) (by decide) (by decide) (by decide) (by decide) 0, z 42 (by decide) (by decide) (by decide) (by decide) (by decide) (by decide) (by decide) 1, by decide⟩, Nat.le_refl 0⟩
  · unfold ra at hr
    split at hr
    · cases hr; exact ⟨0, by decide, z 22 (by decide) (by decide) (by decide) (by decide) (by decide) (by decide) (by decide) j⟩
    · cases hr; exact ⟨0, by decide, z 27 (by decide) (by decide) (by decide) (by decide) (by decide) (by decide) (by decide) j⟩
    · cases hr; exact ⟨0, by decide, z 28 (by decide) (by decide) (by decide) (by decide) (by decide) (by decide) (by decide) j⟩
    · cases hr
  · unfold rs at hr
    split at hr
    · cases hr; decide
    · cases hr
  · exact fun c hc hu => absurd (z 25 (by decide) (by decide) (by decide) (by decide) (by decide) (by decide) (by decide) c) hu
  · exact fun c e p hc he hp hu => absurd (z 24 (by decide) (by decide) (by decide) (by decide) (by decide) (by decide) (by decide) c) hu
  · exact fun c hc hu => absurd (z 24 (by decide) (by decide) (by decide) (by decide) (by decide) (by decide) (by decide) c) hu
  · refine fun e p he hp => Or.inl ?_
    rw [hk 11 (by decide)]
    unfold fM
    rw [if_neg (fun z => absurd z.1 (by decide)), if_pos ⟨Or.inl rfl, by omega⟩]
  · refine fun e p he hp hu => ?_
    rcases hu with q | q
    · exact absurd (z 7 (by decide) (by decide) (by decide) (by decide) (by decide) (by decide) (by decide) _) q
    · rw [z 9 (by decide) (by decide) (by decide) (by decide) (by decide) (by decide) (by decide)] at q
      exact absurd q (by decide)
theorem law_00 {f b L : Nat} {xs : Nat → Int32} (h : ∀ (S : MM) (x aE aC e0 e1 m out c z : Nat) (A : Nat → Nat), GI S x m out A 0 → OC S → B0 S x aE aC e0 e1 → (∀ j, sI S m j = 0) → (∀ k ∈ DM, ∀ j, sI S (A k) j = fM 16 k j) → c ≤ 600 → z ≤ 90000 → wpn (kL_law b L xs) f 23 [(4, .int 0), (3, .ref out), (2, .ref m), (1, .ref x), (0, .ref b)] [] S c z) : wpn (kL_law b L xs) (f + 1) 0 [(0, .ref b)] [] M0 0 0 := by
  refine u_L_0 ?_
  unfold bL_law_0
  have u0 : TYU M0 (fun _ => False) := fun a _ => TC_tv rfl
  have oc0 : OC M0 := ⟨fun a a' j j' b h1 h2 h3 h4 h5 h6 => (nomatch (show (none : Option Nat) = some b from h5)), fun a j b h1 h2 => (nomatch (show (none : Option Nat) = some b from h2))⟩
  refine And.intro ⟨by decide, by decide⟩ (fun x hx => And.intro ⟨by decide, by decide⟩ ?_)
  refine t_bp0 (U := fun a => False ∨ a = x) (TYU_nw u0 hx) (Or.inr rfl) (OC_nw oc0 hx) (by rw [sK_nw, va_up_self]) (fun j => by rw [sI_nw, cl2_self]) (fun S1 aE aC e0 e1 hE hB t1 oc1 => ?_)
  have u1 : TYU S1 (fun _ => False) := TYU_weak t1 (fun a ha => ha.1.elim id (fun z => ha.2 z))
  refine And.intro ⟨by decide, by decide⟩ (fun m hm => And.intro ⟨by decide, by decide⟩ ?_)
  refine t_md0 (TYU_nwt u1 hm (show tv 9 = true from rfl)) (by rw [sK_nw, va_up_self]) (fun j => by rw [sI_nw, cl2_self]) (fun S2 hI => ?_)
  refine And.intro (by decide) (And.intro ⟨by decide, by decide, by decide⟩ (fun out ho => ?_))
  have u3 : TYU (nw S2 out 18 (Int32.toNatClampNeg 1)) (fun _ => False) := TYU_nwt hI.2.1 ho (show tv 18 = true from rfl)
  have o2 : ∀ a, sK S1 a ≠ 0 → RS S1 S2 a := fun a ha => by
    have hn : a ≠ m := fun z => ha (by rw [z]; exact hm)
    have r1 : RS S1 (nw S1 m 9 0) a := RS_nw hn
    exact r1.tr (hI.1.1 a (by rw [r1.1]; exact ha) hn)
  have o3 : ∀ a, sK S2 a ≠ 0 → RS S2 (nw S2 out 18 (Int32.toNatClampNeg 1)) a := fun a ha => RS_nw (fun z => ha (by rw [z]; exact ho))
  have hB3 := B0_ext hB (fun a ha => (o2 a ha).tr (o3 a (by rw [(o2 a ha).1]; exact ha)))
  obtain ⟨A, hM, hz, hv⟩ := MS_of hI.1
  have rm := o3 m (by rw [hM.1]; decide)
  have ra : ∀ k ∈ DM, RS S2 (nw S2 out 18 (Int32.toNatClampNeg 1)) (A k) := fun k hk => o3 (A k) (by rw [(hM.2.1 k hk).2.1]; exact kdM_0 k)
  have hM3 : MS (nw S2 out 18 (Int32.toNatClampNeg 1)) m A := ⟨rm.1.trans hM.1, fun k hk => ⟨by rw [rm.2.2.2.1]; exact (hM.2.1 k hk).1, (ra k hk).1.trans (hM.2.1 k hk).2.1, (ra k hk).2.1.trans (hM.2.1 k hk).2.2.1, (hM.2.1 k hk).2.2.2⟩, hM.2.2.1, hM.2.2.2⟩
  have z3 : ∀ j, sI (nw S2 out 18 (Int32.toNatClampNeg 1)) m j = 0 := fun j => by rw [rm.2.2.1]; exact hz j
  have v3 : ∀ k ∈ DM, ∀ j, sI (nw S2 out 18 (Int32.toNatClampNeg 1)) (A k) j = fM 16 k j := fun k hk j => by rw [(ra k hk).2.2.1]; exact hv k hk j
  have cls : ∀ a, cl (sK (nw S2 out 18 (Int32.toNatClampNeg 1)) a) = true → sK S1 a ≠ 0 ∧ RS S1 (nw S2 out 18 (Int32.toNatClampNeg 1)) a := fun a ha => by
    have no : a ≠ out := fun z => by rw [z, sK_nw, va_up_self] at ha; cases ha
    rw [sK_nw, va_up_ne _ _ no] at ha
    have nm : a ≠ m := fun z => by rw [z, hM.1] at ha; cases ha
    have n1 : sK S1 a ≠ 0 := fun z => by
      rcases hI.2.2 a (by rw [sK_nw, va_up_ne _ _ nm]; exact z) nm with q | q
      · rw [q] at ha; cases ha
      · unfold cl at ha
        rw [q] at ha
        simp at ha
    exact ⟨n1, (o2 a n1).tr (o3 a (by rw [(o2 a n1).1]; exact n1))⟩
  have rcE : ∀ a, RS S1 (nw S2 out 18 (Int32.toNatClampNeg 1)) a → rc (nw S2 out 18 (Int32.toNatClampNeg 1)) a = rc S1 a := fun a r => by unfold rc; rw [r.1, r.2.1]
  have oc3 : OC (nw S2 out 18 (Int32.toNatClampNeg 1)) := by
    refine ⟨fun a a' j j' b h1 h2 h3 h4 h5 h6 => ?_, fun a j b h1 h2 => ?_⟩
    · obtain ⟨n1, r1⟩ := cls a h1
      obtain ⟨n2, r2⟩ := cls a' h2
      exact oc1.1 a a' j j' b (by rw [← r1.1]; exact h1) (by rw [← r2.1]; exact h2) (by rw [← rcE a r1]; exact h3) (by rw [← rcE a' r2]; exact h4) (by rw [← r1.2.2.2.1]; exact h5) (by rw [← r2.2.2.2.1]; exact h6)
    · obtain ⟨n1, r1⟩ := cls a h1
      have nb := oc1.2 a j b (by rw [← r1.1]; exact h1) (by rw [← r1.2.2.2.1]; exact h2)
      rw [((o2 b nb).tr (o3 b (by rw [(o2 b nb).1]; exact nb))).1]
      exact nb
  obtain ⟨ty, ir⟩ := TYU_TY u3 (fun _ z => z)
  exact h _ x aE aC e0 e1 m out _ _ A ⟨ty, ir, hB3.1.1, by rw [sK_nw, va_up_self], by rw [sN_nw, va_up_self]; rfl, hM3, 0, 0, 0, BI_0 z3 v3, by decide, by decide⟩ oc3 hB3 z3 v3 (by decide) (by decide)
theorem law_any {b L : Nat} {xs : Nat → Int32} (hL : L ≤ 2560) : ∃ n, wpn (kL_law b L xs) n 0 [(0, .ref b)] [] M0 0 0 :=
  ⟨15 * 512 + 3, law_00 (fun S x aE aC e0 e1 m out c z A hG hO hB _ hv hc hz => by
    obtain ⟨ca, pp, pt, hJ, hR⟩ := CRel_0 hG.1 hO hB hv
    exact law_loop hJ hL 512 0 (15 * 512 + 2) _ S c z rfl (Nat.le_refl _) rfl rfl rfl rfl rfl hG hR hc hz)⟩
