def f_X6_byteAt (I : Nat → Nat → Int32) (a : Nat) (i : Nat) : Int32 := if 4 ≤ i then (if i = 10 then ((I a 4)) else (if 6 ≤ i then (if 8 ≤ i then (if (i % 2) = 0 then (((((I a 3).toUInt32 >>> ((nI 8).toUInt32 &&& Int32.toUInt32 31)).toInt32) &&& (nI 255))) else (((I a 3) &&& (nI 255)))) else (if (i % 2) = 0 then (((((I a 2).toUInt32 >>> ((nI 8).toUInt32 &&& Int32.toUInt32 31)).toInt32) &&& (nI 255))) else (((I a 2) &&& (nI 255))))) else (if (i % 2) = 0 then (((((I a 1).toUInt32 >>> ((nI 8).toUInt32 &&& Int32.toUInt32 31)).toInt32) &&& (nI 255))) else (((I a 1) &&& (nI 255)))))) else (((((I a 0).toUInt32 >>> (((nI 24) - (nI (8 * i))).toUInt32 &&& Int32.toUInt32 31)).toInt32) &&& (nI 255)))
theorem x_X6_byteAt {Q : Option Value → MM → Prop} {S : MM} {a : Nat} {i : Nat} (ka : sK S a = 7) (hi : i < 11)    (K : KP Q S (f_X6_byteAt (sI S) a i)) : wX6_byteAt [.ref a, .int (nI i)] S Q := by
  unfold f_X6_byteAt at K
  refine Exists.intro 8 (u_X6_byteAt_0 ?_)
  unfold bX6_byteAt_0
  refine e_ldI rfl ?_
  refine e_cN 4 rfl ?_
  refine e_ge (by omega) (by omega) (fun h1 => ?_) (fun h1 => ?_)
  · replace K := kx_p h1 K
    refine u_X6_byteAt_22 ?_
    unfold bX6_byteAt_22
    refine e_ldI rfl ?_
    refine e_cN 10 rfl ?_
    refine e_eq (by omega) (by omega) (fun h2 => ?_) (fun h2 => ?_)
    · replace K := kx_p h2 K
      refine e_ldA rfl ?_
      refine e_gE ka ?_
      exact e_rI K
    · replace K := kx_n (by omega) K
      refine u_X6_byteAt_33 ?_
      unfold bX6_byteAt_33
      refine e_ldI rfl ?_
      refine e_cN 6 rfl ?_
      refine e_ge (by omega) (by omega) (fun h3 => ?_) (fun h3 => ?_)
      · replace K := kx_p h3 K
        refine u_X6_byteAt_46 ?_
        unfold bX6_byteAt_46
        refine e_ldI rfl ?_
        refine e_cN 8 rfl ?_
        refine e_ge (by omega) (by omega) (fun h4 => ?_) (fun h4 => ?_)
        · replace K := kx_p h4 K
          refine u_X6_byteAt_59 ?_
          unfold bX6_byteAt_59
          refine e_ldA rfl ?_
          refine e_gE ka ?_
          refine u_X6_byteAt_63 ?_
          unfold bX6_byteAt_63
          refine e_stI ?_
          refine e_ldI (lvg_ne rfl rfl (by decide)) ?_
          refine e_cN 2 rfl ?_
          refine e_rem (by omega) (by decide) (by decide) ?_
          refine e_ifN (by omega) (fun h5 => ?_) (fun h5 => ?_)
          · replace K := kx_p h5 K
            refine e_ldI lvg_self ?_
            refine e_cN 8 rfl ?_
            refine e_bopE ?_
            refine u_X6_byteAt_78 ?_
            unfold bX6_byteAt_78
            refine e_cN 255 rfl ?_
            refine e_bopE ?_
            exact e_rI K
          · replace K := kx_n (by omega) K
            refine u_X6_byteAt_77 ?_
            unfold bX6_byteAt_77
            refine e_ldI lvg_self ?_
            refine u_X6_byteAt_78 ?_
            unfold bX6_byteAt_78
            refine e_cN 255 rfl ?_
            refine e_bopE ?_
            exact e_rI K
        · replace K := kx_n (by omega) K
          refine e_ldA rfl ?_
          refine e_gE ka ?_
          refine u_X6_byteAt_63 ?_
          unfold bX6_byteAt_63
          refine e_stI ?_
          refine e_ldI (lvg_ne rfl rfl (by decide)) ?_
          refine e_cN 2 rfl ?_
          refine e_rem (by omega) (by decide) (by decide) ?_
          refine e_ifN (by omega) (fun h6 => ?_) (fun h6 => ?_)
          · replace K := kx_p h6 K
            refine e_ldI lvg_self ?_
            refine e_cN 8 rfl ?_
            refine e_bopE ?_
            refine u_X6_byteAt_78 ?_
            unfold bX6_byteAt_78
            refine e_cN 255 rfl ?_
            refine e_bopE ?_
            exact e_rI K
          · replace K := kx_n (by omega) K
            refine u_X6_byteAt_77 ?_
            unfold bX6_byteAt_77
            refine e_ldI lvg_self ?_
            refine u_X6_byteAt_78 ?_
            unfold bX6_byteAt_78
            refine e_cN 255 rfl ?_
            refine e_bopE ?_
            exact e_rI K
      · replace K := kx_n (by omega) K
        refine e_ldA rfl ?_
        refine e_gE ka ?_
        refine u_X6_byteAt_63 ?_
        unfold bX6_byteAt_63
        refine e_stI ?_
        refine e_ldI (lvg_ne rfl rfl (by decide)) ?_
        refine e_cN 2 rfl ?_
        refine e_rem (by omega) (by decide) (by decide) ?_
        refine e_ifN (by omega) (fun h7 => ?_) (fun h7 => ?_)
        · replace K := kx_p h7 K
          refine e_ldI lvg_self ?_
          refine e_cN 8 rfl ?_
          refine e_bopE ?_
          refine u_X6_byteAt_78 ?_
          unfold bX6_byteAt_78
          refine e_cN 255 rfl ?_
          refine e_bopE ?_
          exact e_rI K
        · replace K := kx_n (by omega) K
          refine u_X6_byteAt_77 ?_
          unfold bX6_byteAt_77
          refine e_ldI lvg_self ?_
          refine u_X6_byteAt_78 ?_
          unfold bX6_byteAt_78
          refine e_cN 255 rfl ?_
          refine e_bopE ?_
          exact e_rI K
  · replace K := kx_n (by omega) K
    refine e_ldA rfl ?_
    refine e_gE ka ?_
    refine e_cN 24 rfl ?_
    refine e_cN 8 rfl ?_
    refine e_ldI rfl ?_
    refine e_mul ?_
    refine e_bopE ?_
    refine e_bopE ?_
    refine e_cN 255 rfl ?_
    refine e_bopE ?_
    exact e_rI K
def g_X7_note_26 (I : Nat → Nat → Int32) (R : Nat → Nat → Option Nat) (b : Nat) (e : Nat) (x : Nat) (i : Nat)   : Int32 := if 11 ≤ i then ((f_X6_byteAt I (Pa R b e x) (i - 11))) else ((f_X6_byteAt I (Ow R b e x) i))
theorem y_X7_note_26 {Q : Option Value → MM → Prop} {S : MM} {b : Nat} {e : Nat} {x : Nat} {i : Nat}   {n : Nat} {lv : Lv} (hL : LY S b) (he : e < 2) (hx : x < 8) (hi : i < 22) (ir : IR S)   (g0 : lvg lv 0 = some (.ref b)) (g1 : lvg lv 1 = some (.int (nI e))) (g2 : lvg lv 2 = some (.int (nI x))) (g3 : lvg lv 3 = some (.int (nI i)))  (hn : 3 ≤ n) (K : KP Q S (g_X7_note_26 (sI S) (sR S) b e x i  )) : wpn (kX7_note Q) n 26 lv [] S 0 0 := by
  obtain ⟨d, rfl⟩ : ∃ d, n = d + 3 := ⟨n - 3, by omega⟩
  unfold g_X7_note_26 at K
  refine u_X7_note_26 ?_
  unfold bX7_note_26
  refine e_ldA g0 ?_
  refine e_gR hL.2 (ly_ea hL).1 ?_
  refine e_ldI g1 ?_
  refine e_aR (N := 2) (ly_ea hL).2.1 (ly_ea hL).2.2 (by omega) (by decide) (ly_E hL (by omega)).1 ?_
  refine e_gR (ly_E hL (by omega)).2.1 (ly_pa hL (by omega)).1 ?_
  refine e_ldI g2 ?_
  refine e_aR (N := 8) (ly_pa hL (by omega)).2.1 (ly_pa hL (by omega)).2.2 (by omega) (by decide) (ly_P hL (by omega) (by omega)).1 ?_
  refine e_stA ?_
  refine e_ldI (lvg_ne g3 rfl (by decide)) ?_
  refine e_cN 11 rfl ?_
  refine e_ge (by omega) (by omega) (fun h1 => ?_) (fun h1 => ?_)
  · replace K := kx_p h1 K
    refine u_X7_note_57 ?_
    unfold bX7_note_57
    refine e_ldA lvg_self ?_
    refine e_gR (ly_P hL (by omega) (by omega)).2.1 (ly_Q hL (by omega) (by omega)).1 ?_
    refine e_ldI (lvg_ne g3 rfl (by decide)) ?_
    refine e_cN 11 rfl ?_
    refine e_sub (by omega) ?_
    refine And.intro (ly_Q hL (by omega) (by omega)).2.1 (And.intro ⟨by decide, by decide⟩ (x_X6_byteAt (ly_Q hL (by omega) (by omega)).2.1 (by omega) (KP_i ?_)))
    refine u_X7_note_69 ?_
    unfold bX7_note_69
    exact e_rI K
  · replace K := kx_n (by omega) K
    refine e_ldA lvg_self ?_
    refine e_gR (ly_P hL (by omega) (by omega)).2.1 (ly_O hL (by omega) (by omega)).1 ?_
    refine e_ldI (lvg_ne g3 rfl (by decide)) ?_
    refine And.intro (ly_O hL (by omega) (by omega)).2.1 (And.intro ⟨by decide, by decide⟩ (x_X6_byteAt (ly_O hL (by omega) (by omega)).2.1 (by omega) (KP_i ?_)))
    refine u_X7_note_69 ?_
    unfold bX7_note_69
    exact e_rI K
def f_ownk (I : Nat → Nat → Int32) (m : Nat) (A : Nat → Nat) (x : Nat) (k : Nat) : Int32 := if (nI k) = nI 0 then ((I (A 1) (x / 8))) else (if (nI k) = nI 1 then ((I (A 3) x)) else (if (nI k) = nI 2 then ((I (A 4) x)) else (if (nI k) = nI 3 then ((nI (x % 8))) else ((f_X8_bits I m A x)))))
theorem x_ownk {Q : Option Value → MM → Prop} {S : MM} {m : Nat} {A : Nat → Nat} {x : Nat} {k : Nat} (hM : MS S m A) (hx : x < 16) (hk : k < 5) (ir : IM S m A)   (K : KP Q S (f_ownk (sI S) m A x k)) : wX8_own [.ref m, .int (nI x), .int (nI k)] S Q := by
  unfold f_ownk at K
  refine Exists.intro 2 (u_X8_own_0 ?_)
  unfold bX8_own_0
  refine e_ldI rfl ?_
  refine e_sw4 (fun h1 => ?_) (fun h1 => ?_) (fun h1 => ?_) (fun h1 => ?_) (fun h1 => ?_)
  · skip
    replace K := kx_p h1 K
    refine u_X8_own_32 ?_
    unfold bX8_own_32
    refine e_ldA rfl ?_
    refine e_gR hM.1 (hM.2.1 1 (by decide)).1 ?_
    refine e_ldI rfl ?_
    refine e_cN 8 rfl ?_
    refine e_div (by omega) (by decide) (by decide) ?_
    refine e_aE (N := 2) (kdA (k := 1) hM (by decide) rfl) (lnA (k := 1) hM (by decide) rfl) (by omega) (by decide) ?_
    exact e_rI K
  · skip
    replace K := kx_n h1.1 K
    replace K := kx_p h1.2 K
    refine u_X8_own_42 ?_
    unfold bX8_own_42
    refine e_ldA rfl ?_
    refine e_gR hM.1 (hM.2.1 3 (by decide)).1 ?_
    refine e_ldI rfl ?_
    refine e_aE (N := 16) (kdA (k := 3) hM (by decide) rfl) (lnA (k := 3) hM (by decide) rfl) (by omega) (by decide) ?_
    exact e_rI K
  · skip
    replace K := kx_n h1.1 K
    replace K := kx_n h1.2.1 K
    replace K := kx_p h1.2.2 K
    refine u_X8_own_49 ?_
    unfold bX8_own_49
    refine e_ldA rfl ?_
    refine e_gR hM.1 (hM.2.1 4 (by decide)).1 ?_
    refine e_ldI rfl ?_
    refine e_aE (N := 16) (kdA (k := 4) hM (by decide) rfl) (lnA (k := 4) hM (by decide) rfl) (by omega) (by decide) ?_
    exact e_rI K
  · skip
    replace K := kx_n h1.1 K
    replace K := kx_n h1.2.1 K
    replace K := kx_n h1.2.2.1 K
    replace K := kx_p h1.2.2.2 K
    refine u_X8_own_56 ?_
    unfold bX8_own_56
    refine e_ldI rfl ?_
    refine e_cN 8 rfl ?_
    refine e_rem (by omega) (by decide) (by decide) ?_
    exact e_rI K
  · skip
    replace K := kx_n h1.1 K
    replace K := kx_n h1.2.1 K
    replace K := kx_n h1.2.2.1 K
    replace K := kx_n h1.2.2.2 K
    refine u_X8_own_61 ?_
    unfold bX8_own_61
    refine e_ldA rfl ?_
    refine e_ldI rfl ?_
    refine And.intro hM.1 (And.intro ⟨by decide, by decide⟩ (x_X8_bits hM (by omega) ir (KP_i ?_)))
    exact e_rI K
def g_X8_note_31 (I : Nat → Nat → Int32) (m : Nat) (A : Nat → Nat) (e : Nat) (p : Nat) (i : Nat)   : Int32 := if 4 ≤ (i % 11) then (if 10 ≤ (i % 11) then (if 11 ≤ i then (if 4 ≤ (i % 11) then (if 10 ≤ (i % 11) then ((((I (A 18) ((5 * ((8 * e) + p)) + 4)) >>> ((nI (8 * 0)) &&& 31)) &&& (nI 255))) else ((((I (A 18) ((5 * ((8 * e) + p)) + 4)) >>> ((nI (8 * (1 - ((i % 11) % 2)))) &&& 31)) &&& (nI 255)))) else ((((I (A 18) ((5 * ((8 * e) + p)) + 4)) >>> ((nI (8 * (3 - (i % 11)))) &&& 31)) &&& (nI 255)))) else (if 4 ≤ (i % 11) then (if 10 ≤ (i % 11) then ((((f_own4 I m A ((8 * e) + p)) >>> ((nI (8 * 0)) &&& 31)) &&& (nI 255))) else ((((f_own4 I m A ((8 * e) + p)) >>> ((nI (8 * (1 - ((i % 11) % 2)))) &&& 31)) &&& (nI 255)))) else ((((f_own4 I m A ((8 * e) + p)) >>> ((nI (8 * (3 - (i % 11)))) &&& 31)) &&& (nI 255))))) else (if 11 ≤ i then (if 4 ≤ (i % 11) then (if 10 ≤ (i % 11) then ((((I (A 18) ((5 * ((8 * e) + p)) + (((i % 11) / 2) - 1))) >>> ((nI (8 * 0)) &&& 31)) &&& (nI 255))) else ((((I (A 18) ((5 * ((8 * e) + p)) + (((i % 11) / 2) - 1))) >>> ((nI (8 * (1 - ((i % 11) % 2)))) &&& 31)) &&& (nI 255)))) else ((((I (A 18) ((5 * ((8 * e) + p)) + (((i % 11) / 2) - 1))) >>> ((nI (8 * (3 - (i % 11)))) &&& 31)) &&& (nI 255)))) else (if 4 ≤ (i % 11) then (if 10 ≤ (i % 11) then ((((f_ownk I m A ((8 * e) + p) (((i % 11) / 2) - 1)) >>> ((nI (8 * 0)) &&& 31)) &&& (nI 255))) else ((((f_ownk I m A ((8 * e) + p) (((i % 11) / 2) - 1)) >>> ((nI (8 * (1 - ((i % 11) % 2)))) &&& 31)) &&& (nI 255)))) else ((((f_ownk I m A ((8 * e) + p) (((i % 11) / 2) - 1)) >>> ((nI (8 * (3 - (i % 11)))) &&& 31)) &&& (nI 255)))))) else (if 11 ≤ i then (if 4 ≤ (i % 11) then (if 10 ≤ (i % 11) then ((((I (A 18) ((5 * ((8 * e) + p)) + 0)) >>> ((nI (8 * 0)) &&& 31)) &&& (nI 255))) else ((((I (A 18) ((5 * ((8 * e) + p)) + 0)) >>> ((nI (8 * (1 - ((i % 11) % 2)))) &&& 31)) &&& (nI 255)))) else ((((I (A 18) ((5 * ((8 * e) + p)) + 0)) >>> ((nI (8 * (3 - (i % 11)))) &&& 31)) &&& (nI 255)))) else (if 4 ≤ (i % 11) then (if 10 ≤ (i % 11) then ((((f_own0 I m A ((8 * e) + p)) >>> ((nI (8 * 0)) &&& 31)) &&& (nI 255))) else ((((f_own0 I m A ((8 * e) + p)) >>> ((nI (8 * (1 - ((i % 11) % 2)))) &&& 31)) &&& (nI 255)))) else ((((f_own0 I m A ((8 * e) + p)) >>> ((nI (8 * (3 - (i % 11)))) &&& 31)) &&& (nI 255)))))
theorem y_X8_note_31 {Q : Option Value → MM → Prop} {S : MM} {m : Nat} {A : Nat → Nat} {e : Nat} {p : Nat} {i : Nat}   {n : Nat} {lv : Lv} (hM : MS S m A) (he : e < 2) (hp : p < 8) (hi : i < 22) (ir : IM S m A)   (g0 : lvg lv 0 = some (.ref m)) (g1 : lvg lv 1 = some (.int (nI e))) (g2 : lvg lv 2 = some (.int (nI p))) (g3 : lvg lv 3 = some (.int (nI i)))  (hn : 9 ≤ n) (K : KP Q S (g_X8_note_31 (sI S) m A e p i  )) : wpn (kX8_note Q) n 31 lv [] S 0 0 := by
  obtain ⟨d, rfl⟩ : ∃ d, n = d + 9 := ⟨n - 9, by omega⟩
  unfold g_X8_note_31 at K
  refine u_X8_note_31 ?_
  unfold bX8_note_31
  refine e_cN 8 rfl ?_
  refine e_ldI g1 ?_
  refine e_mul ?_
  refine e_ldI g2 ?_
  refine e_add ?_
  refine e_stI ?_
  refine e_ldI (lvg_ne g3 rfl (by decide)) ?_
  refine e_cN 11 rfl ?_
  refine e_rem (by omega) (by decide) (by decide) ?_
  refine e_stI ?_
  refine e_ldI lvg_self ?_
  refine e_cN 4 rfl ?_
  refine e_ge (by omega) (by omega) (fun h1 => ?_) (fun h1 => ?_)
  · replace K := kx_p h1 K
    refine u_X8_note_55 ?_
    unfold bX8_note_55
    refine e_ldI lvg_self ?_
    refine e_cN 10 rfl ?_
    refine e_ge (by omega) (by omega) (fun h2 => ?_) (fun h2 => ?_)
    · replace K := kx_p h2 K
      refine u_X8_note_71 ?_
      unfold bX8_note_71
      refine e_cN 4 rfl ?_
      refine u_X8_note_72 ?_
      unfold bX8_note_72
      refine e_stI ?_
      refine e_ldI (lvg_ne (lvg_ne (lvg_ne g3 rfl (by decide)) rfl (by decide)) rfl (by decide)) ?_
      refine e_cN 11 rfl ?_
      refine e_ge (by omega) (by omega) (fun h3 => ?_) (fun h3 => ?_)
      · replace K := kx_p h3 K
        refine u_X8_note_91 ?_
        unfold bX8_note_91
        refine e_ldA (lvg_ne (lvg_ne (lvg_ne g0 rfl (by decide)) rfl (by decide)) rfl (by decide)) ?_
        refine e_gR hM.1 (hM.2.1 18 (by decide)).1 ?_
        refine e_cN 5 rfl ?_
        refine e_ldI (lvg_ne (lvg_ne lvg_self rfl (by decide)) rfl (by decide)) ?_
        refine e_mul ?_
        refine e_ldI lvg_self ?_
        refine e_add ?_
        refine e_aE (N := 80) (kdA (k := 18) hM (by decide) rfl) (lnA (k := 18) hM (by decide) rfl) (by omega) (by decide) ?_
        refine u_X8_note_103 ?_
        unfold bX8_note_103
        refine e_stI ?_
        refine e_ldI (lvg_ne (lvg_ne lvg_self rfl (by decide)) rfl (by decide)) ?_
        refine e_cN 4 rfl ?_
        refine e_ge (by omega) (by omega) (fun h4 => ?_) (fun h4 => ?_)
        · replace K := kx_p h4 K
          refine u_X8_note_118 ?_
          unfold bX8_note_118
          refine e_ldI (lvg_ne (lvg_ne lvg_self rfl (by decide)) rfl (by decide)) ?_
          refine e_cN 10 rfl ?_
          refine e_ge (by omega) (by omega) (fun h5 => ?_) (fun h5 => ?_)
          · replace K := kx_p h5 K
            refine u_X8_note_134 ?_
            unfold bX8_note_134
            refine e_cN 0 rfl ?_
            refine u_X8_note_135 ?_
            unfold bX8_note_135
            refine e_stI ?_
            refine e_ldI (lvg_ne lvg_self rfl (by decide)) ?_
            refine e_cN 8 rfl ?_
            refine e_ldI lvg_self ?_
            refine e_mul ?_
            refine e_bopE ?_
            refine e_cN 255 rfl ?_
            refine e_bopE ?_
            exact e_rI K
          · replace K := kx_n (by omega) K
            refine e_cN 1 rfl ?_
            refine e_ldI (lvg_ne (lvg_ne lvg_self rfl (by decide)) rfl (by decide)) ?_
            refine e_cN 2 rfl ?_
            refine e_rem (by omega) (by decide) (by decide) ?_
            refine e_sub (by omega) ?_
            refine u_X8_note_135 ?_
            unfold bX8_note_135
            refine e_stI ?_
            refine e_ldI (lvg_ne lvg_self rfl (by decide)) ?_
            refine e_cN 8 rfl ?_
            refine e_ldI lvg_self ?_
            refine e_mul ?_
            refine e_bopE ?_
            refine e_cN 255 rfl ?_
            refine e_bopE ?_
            exact e_rI K
        · replace K := kx_n (by omega) K
          refine e_cN 3 rfl ?_
          refine e_ldI (lvg_ne (lvg_ne lvg_self rfl (by decide)) rfl (by decide)) ?_
          refine e_sub (by omega) ?_
          refine u_X8_note_135 ?_
          unfold bX8_note_135
          refine e_stI ?_
          refine e_ldI (lvg_ne lvg_self rfl (by decide)) ?_
          refine e_cN 8 rfl ?_
          refine e_ldI lvg_self ?_
          refine e_mul ?_
          refine e_bopE ?_
          refine e_cN 255 rfl ?_
          refine e_bopE ?_
          exact e_rI K
      · replace K := kx_n (by omega) K
        refine e_ldA (lvg_ne (lvg_ne (lvg_ne g0 rfl (by decide)) rfl (by decide)) rfl (by decide)) ?_
        refine e_ldI (lvg_ne (lvg_ne lvg_self rfl (by decide)) rfl (by decide)) ?_
        refine e_ldI lvg_self ?_
        refine And.intro hM.1 (And.intro ⟨by decide, by decide⟩ (x_own4 hM (by omega) ir (KP_i ?_)))
        refine u_X8_note_103 ?_
        unfold bX8_note_103
        refine e_stI ?_
        refine e_ldI (lvg_ne (lvg_ne lvg_self rfl (by decide)) rfl (by decide)) ?_
        refine e_cN 4 rfl ?_
        refine e_ge (by omega) (by omega) (fun h6 => ?_) (fun h6 => ?_)
        · replace K := kx_p h6 K
          refine u_X8_note_118 ?_
          unfold bX8_note_118
          refine e_ldI (lvg_ne (lvg_ne lvg_self rfl (by decide)) rfl (by decide)) ?_
          refine e_cN 10 rfl ?_
          refine e_ge (by omega) (by omega) (fun h7 => ?_) (fun h7 => ?_)
          · replace K := kx_p h7 K
            refine u_X8_note_134 ?_
            unfold bX8_note_134
            refine e_cN 0 rfl ?_
            refine u_X8_note_135 ?_
            unfold bX8_note_135
            refine e_stI ?_
            refine e_ldI (lvg_ne lvg_self rfl (by decide)) ?_
            refine e_cN 8 rfl ?_
            refine e_ldI lvg_self ?_
            refine e_mul ?_
            refine e_bopE ?_
            refine e_cN 255 rfl ?_
            refine e_bopE ?_
            exact e_rI K
          · replace K := kx_n (by omega) K
            refine e_cN 1 rfl ?_
            refine e_ldI (lvg_ne (lvg_ne lvg_self rfl (by decide)) rfl (by decide)) ?_
            refine e_cN 2 rfl ?_
            refine e_rem (by omega) (by decide) (by decide) ?_
            refine e_sub (by omega) ?_
            refine u_X8_note_135 ?_
            unfold bX8_note_135
            refine e_stI ?_
            refine e_ldI (lvg_ne lvg_self rfl (by decide)) ?_
            refine e_cN 8 rfl ?_
            refine e_ldI lvg_self ?_
            refine e_mul ?_
            refine e_bopE ?_
            refine e_cN 255 rfl ?_
            refine e_bopE ?_
            exact e_rI K
        · replace K := kx_n (by omega) K
          refine e_cN 3 rfl ?_
          refine e_ldI (lvg_ne (lvg_ne lvg_self rfl (by decide)) rfl (by decide)) ?_
          refine e_sub (by omega) ?_
          refine u_X8_note_135 ?_
          unfold bX8_note_135
          refine e_stI ?_
          refine e_ldI (lvg_ne lvg_self rfl (by decide)) ?_
          refine e_cN 8 rfl ?_
          refine e_ldI lvg_self ?_
          refine e_mul ?_
          refine e_bopE ?_
          refine e_cN 255 rfl ?_
          refine e_bopE ?_
          exact e_rI K
    · replace K := kx_n (by omega) K
      refine e_ldI lvg_self ?_
      refine e_cN 2 rfl ?_
      refine e_div (by omega) (by decide) (by decide) ?_
      refine e_cN 1 rfl ?_
      refine e_sub (by omega) ?_
      refine u_X8_note_72 ?_
      unfold bX8_note_72
      refine e_stI ?_
      refine e_ldI (lvg_ne (lvg_ne (lvg_ne g3 rfl (by decide)) rfl (by decide)) rfl (by decide)) ?_
      refine e_cN 11 rfl ?_
      refine e_ge (by omega) (by omega) (fun h8 => ?_) (fun h8 => ?_)
      · replace K := kx_p h8 K
        refine u_X8_note_91 ?_
        unfold bX8_note_91
        refine e_ldA (lvg_ne (lvg_ne (lvg_ne g0 rfl (by decide)) rfl (by decide)) rfl (by decide)) ?_
        refine e_gR hM.1 (hM.2.1 18 (by decide)).1 ?_
        refine e_cN 5 rfl ?_
        refine e_ldI (lvg_ne (lvg_ne lvg_self rfl (by decide)) rfl (by decide)) ?_
        refine e_mul ?_
        refine e_ldI lvg_self ?_
        refine e_add ?_
        refine e_aE (N := 80) (kdA (k := 18) hM (by decide) rfl) (lnA (k := 18) hM (by decide) rfl) (by omega) (by decide) ?_
        refine u_X8_note_103 ?_
        unfold bX8_note_103
        refine e_stI ?_
        refine e_ldI (lvg_ne (lvg_ne lvg_self rfl (by decide)) rfl (by decide)) ?_
        refine e_cN 4 rfl ?_
        refine e_ge (by omega) (by omega) (fun h9 => ?_) (fun h9 => ?_)
        · replace K := kx_p h9 K
          refine u_X8_note_118 ?_
          unfold bX8_note_118
          refine e_ldI (lvg_ne (lvg_ne lvg_self rfl (by decide)) rfl (by decide)) ?_
          refine e_cN 10 rfl ?_
          refine e_ge (by omega) (by omega) (fun h10 => ?_) (fun h10 => ?_)
          · replace K := kx_p h10 K
            refine u_X8_note_134 ?_
            unfold bX8_note_134
            refine e_cN 0 rfl ?_
            refine u_X8_note_135 ?_
            unfold bX8_note_135
            refine e_stI ?_
            refine e_ldI (lvg_ne lvg_self rfl (by decide)) ?_
            refine e_cN 8 rfl ?_
            refine e_ldI lvg_self ?_
            refine e_mul ?_
            refine e_bopE ?_
            refine e_cN 255 rfl ?_
            refine e_bopE ?_
            exact e_rI K
          · replace K := kx_n (by omega) K
            refine e_cN 1 rfl ?_
            refine e_ldI (lvg_ne (lvg_ne lvg_self rfl (by decide)) rfl (by decide)) ?_
            refine e_cN 2 rfl ?_
            refine e_rem (by omega) (by decide) (by decide) ?_
            refine e_sub (by omega) ?_
            refine u_X8_note_135 ?_
            unfold bX8_note_135
            refine e_stI ?_
            refine e_ldI (lvg_ne lvg_self rfl (by decide)) ?_
            refine e_cN 8 rfl ?_
            refine e_ldI lvg_self ?_
            refine e_mul ?_
            refine e_bopE ?_
            refine e_cN 255 rfl ?_
            refine e_bopE ?_
            exact e_rI K
        · replace K := kx_n (by omega) K
          refine e_cN 3 rfl ?_
          refine e_ldI (lvg_ne (lvg_ne lvg_self rfl (by decide)) rfl (by decide)) ?_
          refine e_sub (by omega) ?_
          refine u_X8_note_135 ?_
          unfold bX8_note_135
          refine e_stI ?_
          refine e_ldI (lvg_ne lvg_self rfl (by decide)) ?_
          refine e_cN 8 rfl ?_
          refine e_ldI lvg_self ?_
          refine e_mul ?_
          refine e_bopE ?_
          refine e_cN 255 rfl ?_
          refine e_bopE ?_
          exact e_rI K
      · replace K := kx_n (by omega) K
        refine e_ldA (lvg_ne (lvg_ne (lvg_ne g0 rfl (by decide)) rfl (by decide)) rfl (by decide)) ?_
        refine e_ldI (lvg_ne (lvg_ne lvg_self rfl (by decide)) rfl (by decide)) ?_
        refine e_ldI lvg_self ?_
        refine And.intro hM.1 (And.intro ⟨by decide, by decide⟩ (x_ownk hM (by omega) (by omega) ir (KP_i ?_)))
        refine u_X8_note_103 ?_
        unfold bX8_note_103
        refine e_stI ?_
        refine e_ldI (lvg_ne (lvg_ne lvg_self rfl (by decide)) rfl (by decide)) ?_
        refine e_cN 4 rfl ?_
        refine e_ge (by omega) (by omega) (fun h11 => ?_) (fun h11 => ?_)
        · replace K := kx_p h11 K
          refine u_X8_note_118 ?_
          unfold bX8_note_118
          refine e_ldI (lvg_ne (lvg_ne lvg_self rfl (by decide)) rfl (by decide)) ?_
          refine e_cN 10 rfl ?_
          refine e_ge (by omega) (by omega) (fun h12 => ?_) (fun h12 => ?_)
          · replace K := kx_p h12 K
            refine u_X8_note_134 ?_
            unfold bX8_note_134
            refine e_cN 0 rfl ?_
            refine u_X8_note_135 ?_
            unfold bX8_note_135
            refine e_stI ?_
            refine e_ldI (lvg_ne lvg_self rfl (by decide)) ?_
            refine e_cN 8 rfl ?_
            refine e_ldI lvg_self ?_
            refine e_mul ?_
            refine e_bopE ?_
            refine e_cN 255 rfl ?_
            refine e_bopE ?_
            exact e_rI K
          · replace K := kx_n (by omega) K
            refine e_cN 1 rfl ?_
            refine e_ldI (lvg_ne (lvg_ne lvg_self rfl (by decide)) rfl (by decide)) ?_
            refine e_cN 2 rfl ?_
            refine e_rem (by omega) (by decide) (by decide) ?_
            refine e_sub (by omega) ?_
            refine u_X8_note_135 ?_
            unfold bX8_note_135
            refine e_stI ?_
            refine e_ldI (lvg_ne lvg_self rfl (by decide)) ?_
            refine e_cN 8 rfl ?_
            refine e_ldI lvg_self ?_
            refine e_mul ?_
            refine e_bopE ?_
            refine e_cN 255 rfl ?_
            refine e_bopE ?_
            exact e_rI K
        · replace K := kx_n (by omega) K
          refine e_cN 3 rfl ?_
          refine e_ldI (lvg_ne (lvg_ne lvg_self rfl (by decide)) rfl (by decide)) ?_
          refine e_sub (by omega) ?_
          refine u_X8_note_135 ?_
          unfold bX8_note_135
          refine e_stI ?_
          refine e_ldI (lvg_ne lvg_self rfl (by decide)) ?_
          refine e_cN 8 rfl ?_
          refine e_ldI lvg_self ?_
          refine e_mul ?_
          refine e_bopE ?_
          refine e_cN 255 rfl ?_
          refine e_bopE ?_
          exact e_rI K
  · replace K := kx_n (by omega) K
    refine e_cN 0 rfl ?_
    refine u_X8_note_72 ?_
    unfold bX8_note_72
    refine e_stI ?_
    refine e_ldI (lvg_ne (lvg_ne (lvg_ne g3 rfl (by decide)) rfl (by decide)) rfl (by decide)) ?_
    refine e_cN 11 rfl ?_
    refine e_ge (by omega) (by omega) (fun h13 => ?_) (fun h13 => ?_)
    · replace K := kx_p h13 K
      refine u_X8_note_91 ?_
      unfold bX8_note_91
      refine e_ldA (lvg_ne (lvg_ne (lvg_ne g0 rfl (by decide)) rfl (by decide)) rfl (by decide)) ?_
      refine e_gR hM.1 (hM.2.1 18 (by decide)).1 ?_
      refine e_cN 5 rfl ?_
      refine e_ldI (lvg_ne (lvg_ne lvg_self rfl (by decide)) rfl (by decide)) ?_
      refine e_mul ?_
      refine e_ldI lvg_self ?_
      refine e_add ?_
      refine e_aE (N := 80) (kdA (k := 18) hM (by decide) rfl) (lnA (k := 18) hM (by decide) rfl) (by omega) (by decide) ?_
      refine u_X8_note_103 ?_
      unfold bX8_note_103
      refine e_stI ?_
      refine e_ldI (lvg_ne (lvg_ne lvg_self rfl (by decide)) rfl (by decide)) ?_
      refine e_cN 4 rfl ?_
      refine e_ge (by omega) (by omega) (fun h14 => ?_) (fun h14 => ?_)
      · replace K := kx_p h14 K
        refine u_X8_note_118 ?_
        unfold bX8_note_118
        refine e_ldI (lvg_ne (lvg_ne lvg_self rfl (by decide)) rfl (by decide)) ?_
        refine e_cN 10 rfl ?_
        refine e_ge (by omega) (by omega) (fun h15 => ?_) (fun h15 => ?_)
        · replace K := kx_p h15 K
          refine u_X8_note_134 ?_
          unfold bX8_note_134
          refine e_cN 0 rfl ?_
          refine u_X8_note_135 ?_
          unfold bX8_note_135
          refine e_stI ?_
          refine e_ldI (lvg_ne lvg_self rfl (by decide)) ?_
          refine e_cN 8 rfl ?_
          refine e_ldI lvg_self ?_
          refine e_mul ?_
          refine e_bopE ?_
          refine e_cN 255 rfl ?_
          refine e_bopE ?_
          exact e_rI K
        · replace K := kx_n (by omega) K
          refine e_cN 1 rfl ?_
          refine e_ldI (lvg_ne (lvg_ne lvg_self rfl (by decide)) rfl (by decide)) ?_
          refine e_cN 2 rfl ?_
          refine e_rem (by omega) (by decide) (by decide) ?_
          refine e_sub (by omega) ?_
          refine u_X8_note_135 ?_
          unfold bX8_note_135
          refine e_stI ?_
          refine e_ldI (lvg_ne lvg_self rfl (by decide)) ?_
          refine e_cN 8 rfl ?_
          refine e_ldI lvg_self ?_
          refine e_mul ?_
          refine e_bopE ?_
          refine e_cN 255 rfl ?_
          refine e_bopE ?_
          exact e_rI K
      · replace K := kx_n (by omega) K
        refine e_cN 3 rfl ?_
        refine e_ldI (lvg_ne (lvg_ne lvg_self rfl (by decide)) rfl (by decide)) ?_
        refine e_sub (by omega) ?_
        refine u_X8_note_135 ?_
        unfold bX8_note_135
        refine e_stI ?_
        refine e_ldI (lvg_ne lvg_self rfl (by decide)) ?_
        refine e_cN 8 rfl ?_
        refine e_ldI lvg_self ?_
        refine e_mul ?_
        refine e_bopE ?_
        refine e_cN 255 rfl ?_
        refine e_bopE ?_
        exact e_rI K
    · replace K := kx_n (by omega) K
      refine e_ldA (lvg_ne (lvg_ne (lvg_ne g0 rfl (by decide)) rfl (by decide)) rfl (by decide)) ?_
      refine e_ldI (lvg_ne (lvg_ne lvg_self rfl (by decide)) rfl (by decide)) ?_
      refine e_ldI lvg_self ?_
      refine And.intro hM.1 (And.intro ⟨by decide, by decide⟩ (x_own0 hM (by omega) ir (KP_i ?_)))
      refine u_X8_note_103 ?_
      unfold bX8_note_103
      refine e_stI ?_
      refine e_ldI (lvg_ne (lvg_ne lvg_self rfl (by decide)) rfl (by decide)) ?_
      refine e_cN 4 rfl ?_
      refine e_ge (by omega) (by omega) (fun h16 => ?_) (fun h16 => ?_)
      · replace K := kx_p h16 K
        refine u_X8_note_118 ?_
        unfold bX8_note_118
        refine e_ldI (lvg_ne (lvg_ne lvg_self rfl (by decide)) rfl (by decide)) ?_
        refine e_cN 10 rfl ?_
        refine e_ge (by omega) (by omega) (fun h17 => ?_) (fun h17 => ?_)
        · replace K := kx_p h17 K
          refine u_X8_note_134 ?_
          unfold bX8_note_134
          refine e_cN 0 rfl ?_
          refine u_X8_note_135 ?_
          unfold bX8_note_135
          refine e_stI ?_
          refine e_ldI (lvg_ne lvg_self rfl (by decide)) ?_
          refine e_cN 8 rfl ?_
          refine e_ldI lvg_self ?_
          refine e_mul ?_
          refine e_bopE ?_
          refine e_cN 255 rfl ?_
          refine e_bopE ?_
          exact e_rI K
        · replace K := kx_n (by omega) K
          refine e_cN 1 rfl ?_
          refine e_ldI (lvg_ne (lvg_ne lvg_self rfl (by decide)) rfl (by decide)) ?_
          refine e_cN 2 rfl ?_
          refine e_rem (by omega) (by decide) (by decide) ?_
          refine e_sub (by omega) ?_
          refine u_X8_note_135 ?_
          unfold bX8_note_135
          refine e_stI ?_
          refine e_ldI (lvg_ne lvg_self rfl (by decide)) ?_
          refine e_cN 8 rfl ?_
          refine e_ldI lvg_self ?_
          refine e_mul ?_
          refine e_bopE ?_
          refine e_cN 255 rfl ?_
          refine e_bopE ?_
          exact e_rI K
      · replace K := kx_n (by omega) K
        refine e_cN 3 rfl ?_
        refine e_ldI (lvg_ne (lvg_ne lvg_self rfl (by decide)) rfl (by decide)) ?_
        refine e_sub (by omega) ?_
        refine u_X8_note_135 ?_
        unfold bX8_note_135
        refine e_stI ?_
        refine e_ldI (lvg_ne lvg_self rfl (by decide)) ?_
        refine e_cN 8 rfl ?_
        refine e_ldI lvg_self ?_
        refine e_mul ?_
        refine e_bopE ?_
        refine e_cN 255 rfl ?_
        refine e_bopE ?_
        exact e_rI K
