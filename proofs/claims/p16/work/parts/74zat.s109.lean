/-! SIMULATION 109: count of both sides exactly, as a pair -/
def cnA (I : Mm) (R : Nat → Nat → Option Nat) (b : Nat) : Nat → Int32
  | 0 => I b 2
  | 1 => I b 3
  | 2 => I (En R b 0) 1
  | 3 => I (En R b 1) 1
  | 4 => I (En R b 0) 2
  | 5 => I (En R b 1) 2
  | 6 => I (En R b 0) 3
  | 7 => I (En R b 1) 3
  | 8 => I b 4
  | 9 => I b 5
  | 10 => I b 6
  | 11 => I b 7
  | 12 => I b 8
  | _ => -1
def cnM (J : Mm) (m : Nat) (A : Nat → Nat) : Nat → Int32
  | 0 => J m 43
  | 1 => J m 44
  | 2 => J (A 1) 0
  | 3 => J (A 1) 1
  | 4 => J (A 2) 0
  | 5 => J (A 2) 1
  | 6 => J (A 42) 0
  | 7 => J (A 42) 1
  | 8 => J m 45
  | 9 => J m 46
  | 10 => J m 47
  | 11 => J m 48
  | 12 => J m 49
  | _ => -1
theorem w_X7_count {Q : Option Value → MM → Prop} {S0 : MM} {x0 : Nat} {v : Int32} (hT : TY S0) (k0 : sK S0 x0 = 8) (KD : (v.toInt < 0 ∨ 12 < v.toInt) → Q (some (.int (-1))) S0) (K : ∀ j, j < 13 → v = nI j → Q (some (.int (cnA (sI S0) (sR S0) x0 j))) S0) : wX7_count [.ref x0, .int v] S0 Q := by
  have hL : LY S0 x0 := ⟨hT, k0⟩
  refine Exists.intro 40 (u_X7_count_0 ?_)
  unfold bX7_count_0
  refine e_ldI rfl (e_sw0x (by decide) (fun hd => u_X7_count_163 ?_) (fun j h15 e18 => ?_))
  · unfold bX7_count_163
    exact e_cI (e_rI (KD hd))
  match j, h15, e18 with
  | 0, _, e18 =>
    subst e18
    refine u_X7_count_68 ?_
    unfold bX7_count_68
    exact e_ldA rfl (e_gV (v := sI S0 x0 2) k0 rfl (e_rI (K 0 (by decide) rfl)))
  | 1, _, e18 =>
    subst e18
    refine u_X7_count_73 ?_
    unfold bX7_count_73
    exact e_ldA rfl (e_gV (v := sI S0 x0 3) k0 rfl (e_rI (K 1 (by decide) rfl)))
  | 2, _, e18 =>
    subst e18
    refine u_X7_count_78 ?_
    unfold bX7_count_78
    exact e_ldA rfl (e_gR k0 (ly_ea hL).1 (e_cN 0 rfl (e_aR (N := 2) (ly_ea hL).2.1 (ly_ea hL).2.2 (by decide) (by decide) (ly_E hL (show 0 < 2 by decide)).1 (e_gV (v := sI S0 (En (sR S0) x0 0) 1) (ly_E hL (show 0 < 2 by decide)).2.1 rfl (e_rI (K 2 (by decide) rfl))))))
  | 3, _, e18 =>
    subst e18
    refine u_X7_count_88 ?_
    unfold bX7_count_88
    exact e_ldA rfl (e_gR k0 (ly_ea hL).1 (e_cN 1 rfl (e_aR (N := 2) (ly_ea hL).2.1 (ly_ea hL).2.2 (by decide) (by decide) (ly_E hL (show 1 < 2 by decide)).1 (e_gV (v := sI S0 (En (sR S0) x0 1) 1) (ly_E hL (show 1 < 2 by decide)).2.1 rfl (e_rI (K 3 (by decide) rfl))))))
  | 4, _, e18 =>
    subst e18
    refine u_X7_count_98 ?_
    unfold bX7_count_98
    exact e_ldA rfl (e_gR k0 (ly_ea hL).1 (e_cN 0 rfl (e_aR (N := 2) (ly_ea hL).2.1 (ly_ea hL).2.2 (by decide) (by decide) (ly_E hL (show 0 < 2 by decide)).1 (e_gV (v := sI S0 (En (sR S0) x0 0) 2) (ly_E hL (show 0 < 2 by decide)).2.1 rfl (e_rI (K 4 (by decide) rfl))))))
  | 5, _, e18 =>
    subst e18
    refine u_X7_count_108 ?_
    unfold bX7_count_108
    exact e_ldA rfl (e_gR k0 (ly_ea hL).1 (e_cN 1 rfl (e_aR (N := 2) (ly_ea hL).2.1 (ly_ea hL).2.2 (by decide) (by decide) (ly_E hL (show 1 < 2 by decide)).1 (e_gV (v := sI S0 (En (sR S0) x0 1) 2) (ly_E hL (show 1 < 2 by decide)).2.1 rfl (e_rI (K 5 (by decide) rfl))))))
  | 6, _, e18 =>
    subst e18
    refine u_X7_count_118 ?_
    unfold bX7_count_118
    exact e_ldA rfl (e_gR k0 (ly_ea hL).1 (e_cN 0 rfl (e_aR (N := 2) (ly_ea hL).2.1 (ly_ea hL).2.2 (by decide) (by decide) (ly_E hL (show 0 < 2 by decide)).1 (e_gV (v := sI S0 (En (sR S0) x0 0) 3) (ly_E hL (show 0 < 2 by decide)).2.1 rfl (e_rI (K 6 (by decide) rfl))))))
  | 7, _, e18 =>
    subst e18
    refine u_X7_count_128 ?_
    unfold bX7_count_128
    exact e_ldA rfl (e_gR k0 (ly_ea hL).1 (e_cN 1 rfl (e_aR (N := 2) (ly_ea hL).2.1 (ly_ea hL).2.2 (by decide) (by decide) (ly_E hL (show 1 < 2 by decide)).1 (e_gV (v := sI S0 (En (sR S0) x0 1) 3) (ly_E hL (show 1 < 2 by decide)).2.1 rfl (e_rI (K 7 (by decide) rfl))))))
  | 8, _, e18 =>
    subst e18
    refine u_X7_count_138 ?_
    unfold bX7_count_138
    exact e_ldA rfl (e_gV (v := sI S0 x0 4) k0 rfl (e_rI (K 8 (by decide) rfl)))
  | 9, _, e18 =>
    subst e18
    refine u_X7_count_143 ?_
    unfold bX7_count_143
    exact e_ldA rfl (e_gV (v := sI S0 x0 5) k0 rfl (e_rI (K 9 (by decide) rfl)))
  | 10, _, e18 =>
    subst e18
    refine u_X7_count_148 ?_
    unfold bX7_count_148
    exact e_ldA rfl (e_gV (v := sI S0 x0 6) k0 rfl (e_rI (K 10 (by decide) rfl)))
  | 11, _, e18 =>
    subst e18
    refine u_X7_count_153 ?_
    unfold bX7_count_153
    exact e_ldA rfl (e_gV (v := sI S0 x0 7) k0 rfl (e_rI (K 11 (by decide) rfl)))
  | 12, _, e18 =>
    subst e18
    refine u_X7_count_158 ?_
    unfold bX7_count_158
    exact e_ldA rfl (e_gV (v := sI S0 x0 8) k0 rfl (e_rI (K 12 (by decide) rfl)))
  | nn + 13, hh, _ => exact absurd hh (by omega)
theorem w_X8_count {Q : Option Value → MM → Prop} {S0 : MM} {m : Nat} {A : Nat → Nat} {v : Int32} (hM : MS S0 m A) (im : IM S0 m A) (KD : (v.toInt < 0 ∨ 12 < v.toInt) → ∀ S1, SM [0] m A S0 S1 → IM S1 m A → Q (some (.int (-1))) S1) (K : ∀ j, j < 13 → v = nI j → ∀ S1, SM [0] m A S0 S1 → IM S1 m A → Q (some (.int (cnM (sI S1) m A j))) S1) : wX8_count [.ref m, .int v] S0 Q := by
  refine Exists.intro 60 (u_X8_count_0 ?_)
  unfold bX8_count_0
  refine e_ldA rfl (e_cN 0 rfl (y_mI (W := [0]) hM SM.rf im (by decide) (fun N e => nomatch (show (none : Option Nat) = some N from e)) (fun S1 he sh im1 => ?_)))
  have hM1 := MS_SM hM sh
  refine e_ldI rfl (e_sw0x (by decide) (fun hd => u_X8_count_135 ?_) (fun j h15 e18 => ?_))
  · unfold bX8_count_135
    exact e_cI (e_rI (KD hd S1 sh im1))
  match j, h15, e18 with
  | 0, _, e18 =>
    subst e18
    refine u_X8_count_72 ?_
    unfold bX8_count_72
    exact e_ldA rfl (e_gV (v := sI S1 m 43) hM1.1 rfl (e_rI (K 0 (by decide) rfl S1 sh im1)))
  | 1, _, e18 =>
    subst e18
    refine u_X8_count_77 ?_
    unfold bX8_count_77
    exact e_ldA rfl (e_gV (v := sI S1 m 44) hM1.1 rfl (e_rI (K 1 (by decide) rfl S1 sh im1)))
  | 2, _, e18 =>
    subst e18
    refine u_X8_count_82 ?_
    unfold bX8_count_82
    exact e_ldA rfl (e_gR hM1.1 (hM1.2.1 1 (by decide)).1 (e_ldI rfl (e_cN 2 rfl (e_sub (by omega) (e_aV (N := 2) (v := sI S1 (A 1) 0) (hM1.2.1 1 (by decide)).2.1 (hM1.2.1 1 (by decide)).2.2.1 (by decide) (by decide) rfl (e_rI (K 2 (by decide) rfl S1 sh im1)))))))
  | 3, _, e18 =>
    subst e18
    refine u_X8_count_82 ?_
    unfold bX8_count_82
    exact e_ldA rfl (e_gR hM1.1 (hM1.2.1 1 (by decide)).1 (e_ldI rfl (e_cN 2 rfl (e_sub (by omega) (e_aV (N := 2) (v := sI S1 (A 1) 1) (hM1.2.1 1 (by decide)).2.1 (hM1.2.1 1 (by decide)).2.2.1 (by decide) (by decide) rfl (e_rI (K 3 (by decide) rfl S1 sh im1)))))))
  | 4, _, e18 =>
    subst e18
    refine u_X8_count_91 ?_
    unfold bX8_count_91
    exact e_ldA rfl (e_gR hM1.1 (hM1.2.1 2 (by decide)).1 (e_ldI rfl (e_cN 4 rfl (e_sub (by omega) (e_aV (N := 2) (v := sI S1 (A 2) 0) (hM1.2.1 2 (by decide)).2.1 (hM1.2.1 2 (by decide)).2.2.1 (by decide) (by decide) rfl (e_rI (K 4 (by decide) rfl S1 sh im1)))))))
  | 5, _, e18 =>
    subst e18
    refine u_X8_count_91 ?_
    unfold bX8_count_91
    exact e_ldA rfl (e_gR hM1.1 (hM1.2.1 2 (by decide)).1 (e_ldI rfl (e_cN 4 rfl (e_sub (by omega) (e_aV (N := 2) (v := sI S1 (A 2) 1) (hM1.2.1 2 (by decide)).2.1 (hM1.2.1 2 (by decide)).2.2.1 (by decide) (by decide) rfl (e_rI (K 5 (by decide) rfl S1 sh im1)))))))
  | 6, _, e18 =>
    subst e18
    refine u_X8_count_100 ?_
    unfold bX8_count_100
    exact e_ldA rfl (e_gR hM1.1 (hM1.2.1 42 (by decide)).1 (e_ldI rfl (e_cN 6 rfl (e_sub (by omega) (e_aV (N := 2) (v := sI S1 (A 42) 0) (hM1.2.1 42 (by decide)).2.1 (hM1.2.1 42 (by decide)).2.2.1 (by decide) (by decide) rfl (e_rI (K 6 (by decide) rfl S1 sh im1)))))))
  | 7, _, e18 =>
    subst e18
    refine u_X8_count_100 ?_
    unfold bX8_count_100
    exact e_ldA rfl (e_gR hM1.1 (hM1.2.1 42 (by decide)).1 (e_ldI rfl (e_cN 6 rfl (e_sub (by omega) (e_aV (N := 2) (v := sI S1 (A 42) 1) (hM1.2.1 42 (by decide)).2.1 (hM1.2.1 42 (by decide)).2.2.1 (by decide) (by decide) rfl (e_rI (K 7 (by decide) rfl S1 sh im1)))))))
  | 8, _, e18 =>
    subst e18
    refine u_X8_count_110 ?_
    unfold bX8_count_110
    exact e_ldA rfl (e_gV (v := sI S1 m 45) hM1.1 rfl (e_rI (K 8 (by decide) rfl S1 sh im1)))
  | 9, _, e18 =>
    subst e18
    refine u_X8_count_115 ?_
    unfold bX8_count_115
    exact e_ldA rfl (e_gV (v := sI S1 m 46) hM1.1 rfl (e_rI (K 9 (by decide) rfl S1 sh im1)))
  | 10, _, e18 =>
    subst e18
    refine u_X8_count_120 ?_
    unfold bX8_count_120
    exact e_ldA rfl (e_gV (v := sI S1 m 47) hM1.1 rfl (e_rI (K 10 (by decide) rfl S1 sh im1)))
  | 11, _, e18 =>
    subst e18
    refine u_X8_count_125 ?_
    unfold bX8_count_125
    exact e_ldA rfl (e_gV (v := sI S1 m 48) hM1.1 rfl (e_rI (K 11 (by decide) rfl S1 sh im1)))
  | 12, _, e18 =>
    subst e18
    refine u_X8_count_130 ?_
    unfold bX8_count_130
    exact e_ldA rfl (e_gV (v := sI S1 m 49) hM1.1 rfl (e_rI (K 12 (by decide) rfl S1 sh im1)))
  | nn + 13, hh, _ => exact absurd hh (by omega)
theorem cn_eq {R : Nat → Nat → Option Nat} {b m cl nt F : Nat} {I J : Mm} {A : Nat → Nat} {φ : Nat → Nat} (h : NRl R b m A I J cl nt) (fr : FRl R b A I J cl nt) (xr : XRl R b m A I J nt F φ) : ∀ j, j < 13 → cnA I R b j = cnM J m A j := by
  have hc : I b 2 = J m 43 := h.2.2.2.1.1.trans h.2.2.2.1.2.1.symm
  have he := h.2.2.2.2.1
  have ar : ∀ e, e < 2 → I (En R b e) 3 = J (A 42) e := fun e he => by
    obtain ⟨s, q1, q2, _⟩ := fr.2.2 e he
    rw [q1.1, q2.1]
  obtain ⟨⟨x3, x4, x5, x6, x7, x8⟩, _⟩ := xr
  intro j hj
  match j, hj with
  | 0, _ => exact hc
  | 1, _ => exact x3
  | 2, _ => exact (he 0 (by decide)).1
  | 3, _ => exact (he 1 (by decide)).1
  | 4, _ => exact (he 0 (by decide)).2
  | 5, _ => exact (he 1 (by decide)).2
  | 6, _ => exact ar 0 (by decide)
  | 7, _ => exact ar 1 (by decide)
  | 8, _ => exact x4
  | 9, _ => exact x5
  | 10, _ => exact x6
  | 11, _ => exact x7
  | 12, _ => exact x8
  | nn + 13, hh => exact absurd hh (by omega)
/-- what count answers -/
def MDc (S : MM) (x : Nat) (v r : Int32) : Prop := ((v.toInt < 0 ∨ 12 < v.toInt) ∧ r = -1) ∨ ∃ j, j < 13 ∧ v = nI j ∧ r = cnA (sI S) (sR S) x j
theorem k_countx {Q : Option Value → MM → Prop} {S : MM} {x m out i : Nat} {A : Nat → Nat} {v : Int32} (hG : GN S x m out A i) (K : ∀ r, MDc S x v r → Q (some (.int r)) S) : wX7_count [.ref x, .int v] S Q := w_X7_count hG.1 hG.2.2.1 (fun hd => K _ (Or.inl ⟨hd, rfl⟩)) (fun j hj ev => K _ (Or.inr ⟨j, hj, ev, rfl⟩))
theorem h_countx {Q : Option Value → MM → Prop} {S : MM} {x m out i : Nat} {A : Nat → Nat} {v r : Int32} (hi : i < 3000) (hX : GX S x m out A i) (md : MDc S x v r) (K : ∀ S2, GX S2 x m out A (i + 1) → Q (some (.int r)) S2) : wX8_count [.ref m, .int v] S Q := by
  have hG := hX.1.1
  have ij : ∀ j, j < 13 → (nI j).toInt = j := fun j hj => nI_toInt (by omega)
  obtain ⟨g1, g2, g3, g4, g5, g6, g7, nt, F, cl, bi, n0, fr, hF, hc⟩ := id hG
  have hnt := bi.1.2.2.2.1
  refine w_X8_count g6 bi.1.1 (fun hd S1 sh im => ?_) (fun j hj ev S1 sh im => ?_)
  · rcases md with ⟨_, rfl⟩ | ⟨j, hj, ev, _⟩
    · exact K S1 (gx_bad hX (GH_0 hG) rfl rfl sh im)
    · subst ev
      rw [ij j hj] at hd
      omega
  · rcases md with ⟨hd, _⟩ | ⟨j', hj', ev', er⟩
    · subst ev
      rw [ij j hj] at hd
      omega
    · have ej : j = j' := nI_inj (by omega) (by omega) (ev.symm.trans ev')
      subst ej
      obtain ⟨φ, xr⟩ := XS_at hX n0 (by omega) bi.2.1 (by omega)
      have e1 := cn_eq n0 (FRs_at hX.1 n0 (by omega) (by omega)) xr j hj
      have e2 : cnM (sI S1) m A j = cnM (sI S) m A j := by
        match j, hj with
        | 0, _ => exact sh.2.2.2.2.2 43 (by decide)
        | 1, _ => exact sh.2.2.2.2.2 44 (by decide)
        | 2, _ => exact congrFun (SM_a sh g6 (k := 1) (by decide) (by decide)) 0
        | 3, _ => exact congrFun (SM_a sh g6 (k := 1) (by decide) (by decide)) 1
        | 4, _ => exact congrFun (SM_a sh g6 (k := 2) (by decide) (by decide)) 0
        | 5, _ => exact congrFun (SM_a sh g6 (k := 2) (by decide) (by decide)) 1
        | 6, _ => exact congrFun (SM_a sh g6 (k := 42) (by decide) (by decide)) 0
        | 7, _ => exact congrFun (SM_a sh g6 (k := 42) (by decide) (by decide)) 1
        | 8, _ => exact sh.2.2.2.2.2 45 (by decide)
        | 9, _ => exact sh.2.2.2.2.2 46 (by decide)
        | 10, _ => exact sh.2.2.2.2.2 47 (by decide)
        | 11, _ => exact sh.2.2.2.2.2 48 (by decide)
        | 12, _ => exact sh.2.2.2.2.2 49 (by decide)
        | nn + 13, hh => exact absurd hh (by omega)
      have kk := K S1 (gx_bad hX (GH_0 hG) rfl rfl sh im)
      rw [er, e1, ← e2] at kk
      exact kk
