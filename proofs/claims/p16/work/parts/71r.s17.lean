/-! SIMULATION 17: the notes of a lane come (class) -/
theorem bn_0 {R : Nat → Nat → Option Nat} {b p c e r i : Nat} {I I5 : Mm} (h : f_X3_takeDueNote I R b c e (I b 2) = (I5, none)) : g_X7_bringNotes_2 R b p c e (r + 1) i I = I5 := by
  rw [g_X7_bringNotes_2]
  simp only [h, if_true]
theorem bn_1 {R : Nat → Nat → Option Nat} {b p c e r i nn : Nat} {I I5 : Mm} (h : f_X3_takeDueNote I R b c e (I b 2) = (I5, some nn)) : g_X7_bringNotes_2 R b p c e (r + 1) i I = g_X7_bringNotes_2 R b p c e r (i + 1) (f_X5_hear I5 p ((R p 0).getD 0) ((R p 1).getD 0) nn ((R nn 0).getD 0) ((R nn 1).getD 0)) := by
  rw [g_X7_bringNotes_2]
  simp only [h, reduceCtorEq, if_false, Option.getD_some]
def hrd (I : Mm) (R : Nat → Nat → Option Nat) (b c f s y : Nat) : Mm := f_X5_hear (popL I R b c f) (px R b y) (ox R b y) (qx R b y) (Nt R b c f s) (NtO R b c f s) (NtP R b c f s)
theorem hrd_o {S : MM} {b c f s y z : Nat} {I : Mm} (h1 : z ≠ qx (sR S) b y) (h2 : z ≠ px (sR S) b y) (h3 : z ≠ Ln (sR S) b c f) : hrd I (sR S) b c f s y z = I z := by
  unfold hrd
  rw [n_X5_hear h1 h2]
  unfold popL
  rw [up2_row h3, up2_row h3]
theorem hrd_l {S : MM} {b c f s y k : Nat} {I : Mm} (hL : LY S b) (hc : c < 8) (hf : f < 2) (hy : y < 16) : hrd I (sR S) b c f s y (Ln (sR S) b c f) k = popL I (sR S) b c f (Ln (sR S) b c f) k := by
  unfold hrd
  rw [n_X5_hear (ne_k (ly_N hL hc hf).2.1 (k_qx hL hy) (by decide)) (ne_k (ly_N hL hc hf).2.1 (k_px hL hy) (by decide))]
theorem pop_1 {I : Mm} {R : Nat → Nat → Option Nat} {b c f : Nat} : popL I R b c f (Ln R b c f) 1 = nI (((I (Ln R b c f) 1).toNatClampNeg + 1) % 8) := by
  unfold popL
  rw [up2_jn (by decide), up2_self]
theorem pop_2 {I : Mm} {R : Nat → Nat → Option Nat} {b c f : Nat} : popL I R b c f (Ln R b c f) 2 = nI ((I (Ln R b c f) 2).toNatClampNeg - 1) := by
  unfold popL
  rw [up2_self]
theorem pop_k {I : Mm} {R : Nat → Nat → Option Nat} {b c f k : Nat} (h1 : k ≠ 1) (h2 : k ≠ 2) : popL I R b c f (Ln R b c f) k = I (Ln R b c f) k := by
  unfold popL
  rw [up2_jn h2, up2_jn h1]
theorem CN_pop {S : MM} {b c f s y n : Nat} {I : Mm} (hL : LY S b) (hO : OC S) (hc : c < 8) (hf : f < 2) (hy : y < 16) (hn : n < 8) (en : I (Ln (sR S) b c f) 2 = nI (n + 1)) : CN (hrd I (sR S) b c f s y) (sR S) b c f = (List.range n).map (fun k => cnq I (sR S) b c f (sl I (sR S) b c f (k + 1))) := by
  unfold CN
  rw [hrd_l hL hc hf hy, pop_2, en, nI_cl (show n + 1 < 2 ^ 31 by omega), nI_cl (show n + 1 - 1 < 2 ^ 31 by omega), show n + 1 - 1 = n from rfl]
  refine List.map_congr_left (fun k hk => ?_)
  have es : sl (hrd I (sR S) b c f s y) (sR S) b c f k = sl I (sR S) b c f (k + 1) := by
    unfold sl
    rw [hrd_l hL hc hf hy, pop_1, nI_cl (by omega)]
    omega
  rw [es]
  have s8 : sl I (sR S) b c f (k + 1) < 8 := by unfold sl; omega
  generalize sl I (sR S) b c f (k + 1) = t at s8
  unfold cnq
  rw [hrd_o (ne_k (ly_T hL hc hf s8).2.1 (k_qx hL hy) (by decide)) (ne_k (ly_T hL hc hf s8).2.1 (k_px hL hy) (by decide)) (ne_k (ly_T hL hc hf s8).2.1 (ly_N hL hc hf).2.1 (by decide)), hrd_o (to_a hO (to_nO hL hc hf s8) (to_qx hL hy) (ne_k (ly_T hL hc hf s8).2.1 (k_px hL hy) (by decide))) (ne_k (ly_TO hL hc hf s8).2.1 (k_px hL hy) (by decide)) (ne_k (ly_TO hL hc hf s8).2.1 (ly_N hL hc hf).2.1 (by decide)), hrd_o (to_a hO (to_nP hL hc hf s8) (to_qx hL hy) (ne_k (ly_T hL hc hf s8).2.1 (k_px hL hy) (by decide))) (ne_k (ly_TP hL hc hf s8).2.1 (k_px hL hy) (by decide)) (ne_k (ly_TP hL hc hf s8).2.1 (ly_N hL hc hf).2.1 (by decide))]
theorem bn {S : MM} {b c f y cl B : Nat} {I : Mm} (hL : LY S b) (hO : OC S) (hc : c < 8) (hf : f < 2) (hy : y < 16) (hB : B < 2 ^ 31) (hcl : cl < 2 ^ 31) (vb : I b 2 = nI cl) (h1 : ∃ n, n < 8 ∧ I (Ln (sR S) b c f) 1 = nI n) (h2 : ∃ n, n < 9 ∧ I (Ln (sR S) b c f) 2 = nI n) (du : DU (CN I (sR S) b c f) cl B) : (∃ s L', s < 8 ∧ CN I (sR S) b c f = cnq I (sR S) b c f s :: L' ∧ I (Nt (sR S) b c f s) 2 = nI cl ∧ DU L' (cl + 1) B ∧ f_X7_bringNotes I (sR S) b (px (sR S) b y) c f = hrd I (sR S) b c f s y ∧ CN (hrd I (sR S) b c f s y) (sR S) b c f = L' ∧ (∃ n, n < 8 ∧ hrd I (sR S) b c f s y (Ln (sR S) b c f) 1 = nI n) ∧ ∃ n, n < 9 ∧ hrd I (sR S) b c f s y (Ln (sR S) b c f) 2 = nI n) ∨ (DU (CN I (sR S) b c f) (cl + 1) B ∧ f_X7_bringNotes I (sR S) b (px (sR S) b y) c f = I) := by
  have g8 : f_X7_bringNotes I (sR S) b (px (sR S) b y) c f = g_X7_bringNotes_2 (sR S) b (px (sR S) b y) c f (7 + 1) 0 I := rfl
  rcases DU_due du hB with ⟨q, L', eL, eq, duL, _, _⟩ | ⟨du1, _, _⟩
  · obtain ⟨fn, hfn, ef⟩ := h1
    obtain ⟨n, hn, en⟩ := h2
    cases n with
    | zero =>
      have z := CN_len (I := I) (R := sR S) (b := b) (c := c) (e := f)
      rw [eL, en, nI_cl (show 0 < 2 ^ 31 by decide)] at z
      exact absurd z (by simp)
    | succ n =>
      have cc := CN_cons en (by omega)
      have s0 : sl I (sR S) b c f 0 = fn := by unfold sl; rw [ef, nI_cl (by omega)]; omega
      rw [s0] at cc
      rw [cc] at eL
      injection eL with e1 e2
      have ed : I (Nt (sR S) b c f fn) 2 = nI cl := by
        have : cnq I (sR S) b c f fn 2 = nI cl := by rw [e1]; exact eq
        exact this
      have cp := CN_pop (s := fn) (y := y) hL hO hc hf hy (by omega) en
      rw [e2] at cp
      have t1 := td_yes (v := I b 2) vb hfn ef (by omega) en ed
      have r1 : ∃ k, k < 8 ∧ hrd I (sR S) b c f fn y (Ln (sR S) b c f) 1 = nI k := ⟨(fn + 1) % 8, by omega, by rw [hrd_l hL hc hf hy, pop_1, ef, nI_cl (by omega)]⟩
      have r2 : ∃ k, k < 9 ∧ hrd I (sR S) b c f fn y (Ln (sR S) b c f) 2 = nI k := ⟨n, by omega, by rw [hrd_l hL hc hf hy, pop_2, en, nI_cl (by omega)]; rfl⟩
      have vb2 : hrd I (sR S) b c f fn y b 2 = nI cl := by rw [hrd_o (ne_k hL.2 (k_qx hL hy) (by decide)) (ne_k hL.2 (k_px hL hy) (by decide)) (ne_k hL.2 (ly_N hL hc hf).2.1 (by decide))]; exact vb
      have t2 := td_no (I := hrd I (sR S) b c f fn y) (v := hrd I (sR S) b c f fn y b 2) hB vb2 hcl r1 r2 (by rw [cp]; exact duL)
      refine Or.inl ⟨fn, L', hfn, by rw [cc, e2], ed, duL, ?_, cp, r1, r2⟩
      rw [g8, bn_1 t1]
      exact bn_0 (r := 6) t2
  · refine Or.inr ⟨du1, ?_⟩
    rw [g8]
    exact bn_0 (td_no hB vb hcl h1 h2 du1)
