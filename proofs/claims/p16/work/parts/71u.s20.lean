/-! SIMULATION 20: the notes of a cable come (class) -/
theorem RP_h {R : Nat → Nat → Option Nat} {b x : Nat} {I J I' J' : Mm} {A : Nat → Nat} (h : RP R b I J A x) (a : AG R b x I I') (e : ∀ k j, dm k → k ≤ 21 → k ≠ 15 → (ow k j = x ∨ ow k j = 99) → J' (A k) j = J (A k) j) : RP R b I' J' A x := by
  unfold RP PR PV PLk at h ⊢
  rw [a.1, a.2.1, a.2.2.1, a.2.2.2]
  rw [e 11 x (by decide) (by decide) (by decide) (Or.inl (ow_x (by decide))), e 7 x (by decide) (by decide) (by decide) (Or.inl (ow_x (by decide))), e 8 x (by decide) (by decide) (by decide) (Or.inl (ow_x (by decide))), e 9 x (by decide) (by decide) (by decide) (Or.inl (ow_x (by decide))), e 10 x (by decide) (by decide) (by decide) (Or.inl (ow_x (by decide))), e 19 (3 * x) (by decide) (by decide) (by decide) (Or.inl ow_30), e 19 (3 * x + 1) (by decide) (by decide) (by decide) (Or.inl (ow_3 (by decide))), e 19 (3 * x + 2) (by decide) (by decide) (by decide) (Or.inl (ow_3 (by decide))), e 1 (x / 8) (by decide) (by decide) (by decide) (Or.inr rfl), e 3 x (by decide) (by decide) (by decide) (Or.inl (ow_x (by decide))), e 4 x (by decide) (by decide) (by decide) (Or.inl (ow_x (by decide))), e 5 x (by decide) (by decide) (by decide) (Or.inl (ow_x (by decide))), e 6 x (by decide) (by decide) (by decide) (Or.inl (ow_x (by decide))), e 18 (5 * x) (by decide) (by decide) (by decide) (Or.inl (ow_50 (by decide))), e 18 (5 * x + 1) (by decide) (by decide) (by decide) (Or.inl (ow_5 (by decide) (by decide))), e 18 (5 * x + 2) (by decide) (by decide) (by decide) (Or.inl (ow_5 (by decide) (by decide))), e 18 (5 * x + 3) (by decide) (by decide) (by decide) (Or.inl (ow_5 (by decide) (by decide))), e 18 (5 * x + 4) (by decide) (by decide) (by decide) (Or.inl (ow_5 (by decide) (by decide))), e 21 x (by decide) (by decide) (by decide) (Or.inl (ow_x (by decide))), e 14 x (by decide) (by decide) (by decide) (Or.inl (ow_x (by decide))), e 20 (5 * x) (by decide) (by decide) (by decide) (Or.inl (ow_50 (by decide))), e 20 (5 * x + 1) (by decide) (by decide) (by decide) (Or.inl (ow_5 (by decide) (by decide))), e 20 (5 * x + 2) (by decide) (by decide) (by decide) (Or.inl (ow_5 (by decide) (by decide))), e 20 (5 * x + 3) (by decide) (by decide) (by decide) (Or.inl (ow_5 (by decide) (by decide))), e 20 (5 * x + 4) (by decide) (by decide) (by decide) (Or.inl (ow_5 (by decide) (by decide)))]
  exact h
/-- what the coming leaves in the class, but ports and the lanes' notes -/
def LGc (R : Nat → Nat → Option Nat) (b : Nat) (I I' : Mm) : Prop := I' b 2 = I b 2 ∧ (∀ c, c < 8 → I' (Cb R b c) = I (Cb R b c)) ∧ (∀ e, e < 2 → I' (En R b e) 1 = I (En R b e) 1 ∧ I' (En R b e) 2 = I (En R b e) 2) ∧ ∀ c e, c < 8 → e < 2 → I' (Ln R b c e) 6 = I (Ln R b c e) 6
theorem LGc.rf {R : Nat → Nat → Option Nat} {b : Nat} {I : Mm} : LGc R b I I := ⟨rfl, fun _ _ => rfl, fun _ _ => ⟨rfl, rfl⟩, fun _ _ _ _ => rfl⟩
theorem LGc.tr {R : Nat → Nat → Option Nat} {b : Nat} {I I1 I2 : Mm} (h : LGc R b I I1) (g : LGc R b I1 I2) : LGc R b I I2 := ⟨g.1.trans h.1, fun c hc => (g.2.1 c hc).trans (h.2.1 c hc), fun e he => ⟨(g.2.2.1 e he).1.trans (h.2.2.1 e he).1, (g.2.2.1 e he).2.trans (h.2.2.1 e he).2⟩, fun c e hc he => (g.2.2.2 c e hc he).trans (h.2.2.2 c e hc he)⟩
theorem AG.tr {R : Nat → Nat → Option Nat} {b x : Nat} {I I1 I2 : Mm} (h : AG R b x I I1) (g : AG R b x I1 I2) : AG R b x I I2 := ⟨g.1.trans h.1, g.2.1.trans h.2.1, g.2.2.1.trans h.2.2.1, g.2.2.2.trans h.2.2.2⟩
theorem LC2.rf {R : Nat → Nat → Option Nat} {b c e : Nat} {I : Mm} : LC2 I I R b c e := ⟨rfl, rfl, fun _ _ => ⟨rfl, rfl, rfl⟩⟩
theorem LC2.tr {R : Nat → Nat → Option Nat} {b c e : Nat} {I I1 I2 : Mm} (h : LC2 I I1 R b c e) (g : LC2 I1 I2 R b c e) : LC2 I I2 R b c e := ⟨g.1.trans h.1, g.2.1.trans h.2.1, fun s hs => ⟨(g.2.2 s hs).1.trans (h.2.2 s hs).1, (g.2.2 s hs).2.1.trans (h.2.2 s hs).2.1, (g.2.2 s hs).2.2.trans (h.2.2 s hs).2.2⟩⟩
theorem bf_z {S : MM} {I I' : Mm} {z k : Nat} (h : BF S I I') (hz : sK S z = k) (hk : k = 1 ∨ k = 5 ∨ k = 6 ∨ k = 7) : I' z = I z := h.1 z (by omega) (by omega) (by omega) (by omega) (by omega)
theorem BF_ag {S : MM} {b x : Nat} {I I' : Mm} (hL : LY S b) (hx : x < 16) (h : BF S I I') : AG (sR S) b x I I' := ⟨bf_z h (k_px hL hx) (by decide), bf_z h (k_ox hL hx) (by decide), bf_z h (k_qx hL hx) (by decide), bf_z h (k_lx hL hx) (by decide)⟩
theorem BF_lc {S : MM} {b c e : Nat} {I I' : Mm} (hL : LY S b) (hc : c < 8) (he : e < 2) (h : BF S I I') : LC2 I I' (sR S) b c e := ⟨h.2.1 _ (ly_N hL hc he).2.1 1 (by decide) (by decide), h.2.1 _ (ly_N hL hc he).2.1 2 (by decide) (by decide), fun s hs => ⟨by rw [bf_z h (ly_T hL hc he hs).2.1 (by decide)], bf_z h (ly_TO hL hc he hs).2.1 (by decide), bf_z h (ly_TP hL hc he hs).2.1 (by decide)⟩⟩
theorem BF_lg {S : MM} {b : Nat} {I I' : Mm} (hL : LY S b) (h : BF S I I') : LGc (sR S) b I I' := ⟨h.2.2.2 b hL.2 2 (by decide) (by decide), fun c hc => bf_z h (ly_C hL hc).2.1 (by decide), fun e he => ⟨h.2.2.1 _ (ly_E hL he).2.1 1 (by decide) (by decide) (by decide), h.2.2.1 _ (ly_E hL he).2.1 2 (by decide) (by decide) (by decide)⟩, fun c e hc he => h.2.1 _ (ly_N hL hc he).2.1 6 (by decide) (by decide)⟩
theorem hrd_ag {S : MM} {b c f s x y : Nat} {I : Mm} (hL : LY S b) (hO : OC S) (hc : c < 8) (hf : f < 2) (hy : y < 16) (hx : x < 16) (hn : x ≠ y) : AG (sR S) b x I (hrd I (sR S) b c f s y) := ⟨hrd_o (d_pq hL hO hx hy) (d_pp hL hO hx hy hn) (ne_k (k_px hL hx) (ly_N hL hc hf).2.1 (by decide)), hrd_o (d_oq hL hO hx hy) (d_op hL hO hx hy) (ne_k (k_ox hL hx) (ly_N hL hc hf).2.1 (by decide)), hrd_o (d_qq hL hO hx hy hn) (d_qp hL hO hx hy) (ne_k (k_qx hL hx) (ly_N hL hc hf).2.1 (by decide)), hrd_o (d_lq hL hO hx hy) (d_lp hL hO hx hy) (ne_k (k_lx hL hx) (ly_N hL hc hf).2.1 (by decide))⟩
theorem hrd_L {S : MM} {b c f s y c' e' : Nat} {I : Mm} (hL : LY S b) (hO : OC S) (hc : c < 8) (hf : f < 2) (hy : y < 16) (hc' : c' < 8) (he' : e' < 2) (n : ¬ (c' = c ∧ e' = f)) : hrd I (sR S) b c f s y (Ln (sR S) b c' e') = I (Ln (sR S) b c' e') := hrd_o (ne_k (ly_N hL hc' he').2.1 (k_qx hL hy) (by decide)) (ne_k (ly_N hL hc' he').2.1 (k_px hL hy) (by decide)) (fun z => n (i_Ln hL hO hc' hc he' hf z))
theorem hrd_lc {S : MM} {b c f s y c' e' : Nat} {I : Mm} (hL : LY S b) (hO : OC S) (hc : c < 8) (hf : f < 2) (hy : y < 16) (hc' : c' < 8) (he' : e' < 2) (n : ¬ (c' = c ∧ e' = f)) : LC2 I (hrd I (sR S) b c f s y) (sR S) b c' e' := by
  have eL := hrd_L (s := s) (I := I) hL hO hc hf hy hc' he' n
  refine ⟨by rw [eL], by rw [eL], fun t ht => ⟨?_, ?_, ?_⟩⟩
  · rw [hrd_o (ne_k (ly_T hL hc' he' ht).2.1 (k_qx hL hy) (by decide)) (ne_k (ly_T hL hc' he' ht).2.1 (k_px hL hy) (by decide)) (ne_k (ly_T hL hc' he' ht).2.1 (ly_N hL hc hf).2.1 (by decide))]
  · exact hrd_o (to_a hO (to_nO hL hc' he' ht) (to_qx hL hy) (ne_k (ly_T hL hc' he' ht).2.1 (k_px hL hy) (by decide))) (ne_k (ly_TO hL hc' he' ht).2.1 (k_px hL hy) (by decide)) (ne_k (ly_TO hL hc' he' ht).2.1 (ly_N hL hc hf).2.1 (by decide))
  · exact hrd_o (to_a hO (to_nP hL hc' he' ht) (to_qx hL hy) (ne_k (ly_T hL hc' he' ht).2.1 (k_px hL hy) (by decide))) (ne_k (ly_TP hL hc' he' ht).2.1 (k_px hL hy) (by decide)) (ne_k (ly_TP hL hc' he' ht).2.1 (ly_N hL hc hf).2.1 (by decide))
theorem hrd_lg {S : MM} {b c f s y : Nat} {I : Mm} (hL : LY S b) (hO : OC S) (hc : c < 8) (hf : f < 2) (hy : y < 16) : LGc (sR S) b I (hrd I (sR S) b c f s y) := by
  have o : ∀ z k, sK S z = k → k ≠ 7 → k ≠ 6 → k ≠ 4 → hrd I (sR S) b c f s y z = I z := fun z k hz h7 h6 h4 => hrd_o (ne_k hz (k_qx hL hy) h7) (ne_k hz (k_px hL hy) h6) (ne_k hz (ly_N hL hc hf).2.1 h4)
  refine ⟨by rw [o b 8 hL.2 (by decide) (by decide) (by decide)], fun d hd => o _ 1 (ly_C hL hd).2.1 (by decide) (by decide) (by decide), fun e he => ?_, fun d e hd he => ?_⟩
  · rw [o _ 2 (ly_E hL he).2.1 (by decide) (by decide) (by decide)]; exact ⟨rfl, rfl⟩
  · by_cases n : d = c ∧ e = f
    · obtain ⟨rfl, rfl⟩ := n
      rw [hrd_l hL hd he hy, pop_k (by decide) (by decide)]
    · rw [hrd_L hL hO hc hf hy hd he n]
theorem pop_o {I : Mm} {R : Nat → Nat → Option Nat} {b c f z : Nat} (h : z ≠ Ln R b c f) : popL I R b c f z = I z := by
  unfold popL
  rw [up2_row h, up2_row h]
/-- a port has heard lane's note s -/
def HR (R : Nat → Nat → Option Nat) (b c f s y : Nat) (I I' : Mm) : Prop := I' (px R b y) = (r_X5_hear (I (px R b y)) (I (ox R b y)) (I (qx R b y)) (fun _ => 0) (I (NtO R b c f s)) (I (NtP R b c f s))).2 ∧ I' (ox R b y) = I (ox R b y) ∧ I' (qx R b y) = (r_X5_hear (I (px R b y)) (I (ox R b y)) (I (qx R b y)) (fun _ => 0) (I (NtO R b c f s)) (I (NtP R b c f s))).1 ∧ I' (lx R b y) = I (lx R b y)
theorem HR_r {R : Nat → Nat → Option Nat} {b c f s y : Nat} {I I' I2 : Mm} (h : HR R b c f s y I I') (g : AG R b y I' I2) : HR R b c f s y I I2 := ⟨g.1.trans h.1, g.2.1.trans h.2.1, g.2.2.1.trans h.2.2.1, g.2.2.2.trans h.2.2.2⟩
theorem HR_l {R : Nat → Nat → Option Nat} {b c f s y : Nat} {I0 I I' : Mm} (hs : s < 8) (h : HR R b c f s y I I') (g : AG R b y I0 I) (l : LC2 I0 I R b c f) : HR R b c f s y I0 I' := by
  unfold HR at h ⊢
  rw [g.1, g.2.1, g.2.2.1, g.2.2.2, (l.2.2 s hs).2.1, (l.2.2 s hs).2.2] at h
  exact h
theorem r_hn {rp ro rq rn rn' rno rnp : Nat → Int32} : r_X5_hear rp ro rq rn rno rnp = r_X5_hear rp ro rq rn' rno rnp := rfl
theorem hrd_HR {S : MM} {b c f s y : Nat} {I : Mm} (hL : LY S b) (hO : OC S) (hc : c < 8) (hf : f < 2) (hy : y < 16) (hs : s < 8) : HR (sR S) b c f s y I (hrd I (sR S) b c f s y) := by
  have kT := (ly_T hL hc hf hs).2.1
  have kO := (ly_TO hL hc hf hs).2.1
  have kP := (ly_TP hL hc hf hs).2.1
  have kN := (ly_N hL hc hf).2.1
  have kp := k_px hL hy
  have ko := k_ox hL hy
  have kq := k_qx hL hy
  have nn : px (sR S) b y ≠ Nt (sR S) b c f s := ne_k kp kT (by decide)
  have rr := rr_X5_hear (I := popL I (sR S) b c f) (d_po hL hO hy hy) (d_pq hL hO hy hy) nn (ne_k kp kO (by decide)) (ne_k kp kP (by decide)) (d_oq hL hO hy hy) (ne_k kq kT (by decide)) (to_a hO (to_qx hL hy) (to_nO hL hc hf hs) nn) (to_a hO (to_qx hL hy) (to_nP hL hc hf hs) nn)
  rw [pop_o (ne_k kp kN (by decide)), pop_o (ne_k ko kN (by decide)), pop_o (ne_k kq kN (by decide)), pop_o (ne_k kO kN (by decide)), pop_o (ne_k kP kN (by decide)), r_hn (rn' := fun _ => 0)] at rr
  exact ⟨rr.2, hrd_o (d_oq hL hO hy hy) (d_op hL hO hy hy) (ne_k ko kN (by decide)), rr.1, hrd_o (d_lq hL hO hy hy) (d_lp hL hO hy hy) (ne_k (k_lx hL hy) kN (by decide))⟩
theorem lane_step {S : MM} {b c f y cl B : Nat} {I : Mm} (hL : LY S b) (hO : OC S) (hc : c < 8) (hf : f < 2) (hy : y < 16) (hB : B < 2 ^ 31) (hcl : cl < 2 ^ 31) (vb : I b 2 = nI cl) (h1 : ∃ n, n < 8 ∧ I (Ln (sR S) b c f) 1 = nI n) (h2 : ∃ n, n < 9 ∧ I (Ln (sR S) b c f) 2 = nI n) (du : DU (CN I (sR S) b c f) cl B) : ∃ I', f_X7_bringFrames (f_X7_bringNotes I (sR S) b (px (sR S) b y) c f) (sR S) b (px (sR S) b y) c f = I' ∧ LGc (sR S) b I I' ∧ (∀ x, x < 16 → x ≠ y → AG (sR S) b x I I') ∧ (∀ c' e', c' < 8 → e' < 2 → ¬ (c' = c ∧ e' = f) → LC2 I I' (sR S) b c' e') ∧ CN I' (sR S) b c f = (CN I (sR S) b c f).filter (fun p => !(decide (p 2 = nI cl))) ∧ DU (CN I' (sR S) b c f) (cl + 1) B ∧ (∃ n, n < 8 ∧ I' (Ln (sR S) b c f) 1 = nI n) ∧ (∃ n, n < 9 ∧ I' (Ln (sR S) b c f) 2 = nI n) ∧ ((∃ s, s < 8 ∧ (CN I (sR S) b c f).filter (fun p => decide (p 2 = nI cl)) = [cnq I (sR S) b c f s] ∧ BB (cnq I (sR S) b c f s) ∧ HR (sR S) b c f s y I I') ∨ ((CN I (sR S) b c f).filter (fun p => decide (p 2 = nI cl)) = [] ∧ AG (sR S) b y I I')) := by
  refine ⟨_, rfl, ?_⟩
  have bf := bf_bring (p := px (sR S) b y) (I := f_X7_bringNotes I (sR S) b (px (sR S) b y) c f) hL hc hf
  generalize f_X7_bringFrames (f_X7_bringNotes I (sR S) b (px (sR S) b y) c f) (sR S) b (px (sR S) b y) c f = I' at bf ⊢
  rcases bn hL hO hc hf hy hB hcl vb h1 h2 du with ⟨s, L', hs, eL, ed, duL, eb, cp, r1, r2⟩ | ⟨du1, eb⟩
  · rw [eb] at bf
    have lc := BF_lc hL hc hf bf
    have bb : BB (cnq I (sR S) b c f s) := by
      have := du.1 (cnq I (sR S) b c f s) (by rw [eL]; exact List.mem_cons_self)
      exact this.1.2
    have cn : CN I' (sR S) b c f = L' := (CN_c lc).trans cp
    have fl : (CN I (sR S) b c f).filter (fun p => !(decide (p 2 = nI cl))) = L' ∧ (CN I (sR S) b c f).filter (fun p => decide (p 2 = nI cl)) = [cnq I (sR S) b c f s] := by
      rcases DU_due du hB with ⟨q, L2, e1, e2, _, e4, e5⟩ | ⟨d1, _, _⟩
      · rw [eL] at e1
        injection e1 with e1 e1b
        rw [e4, e5, e1, e1b]
        exact ⟨rfl, rfl⟩
      · rw [eL] at d1
        have := (d1.1 _ List.mem_cons_self).2.1
        have e3 : dqn (cnq I (sR S) b c f s) = cl := by
          show (I (Nt (sR S) b c f s) 2).toNatClampNeg = cl
          rw [ed, nI_cl (by omega)]
        omega
    refine ⟨(hrd_lg hL hO hc hf hy).tr (BF_lg hL bf), fun x hx hn => (hrd_ag hL hO hc hf hy hx hn).tr (BF_ag hL hx bf), fun c' e' hc' he' n => (hrd_lc hL hO hc hf hy hc' he' n).tr (BF_lc hL hc' he' bf), by rw [cn, fl.1], by rw [cn]; exact duL, ?_, ?_, Or.inl ⟨s, hs, fl.2, bb, HR_r (hrd_HR hL hO hc hf hy hs) (BF_ag hL hy bf)⟩⟩
    · rw [lc.1]; exact r1
    · rw [lc.2.1]; exact r2
  · rw [eb] at bf
    have lc := BF_lc hL hc hf bf
    have fl : (CN I (sR S) b c f).filter (fun p => !(decide (p 2 = nI cl))) = CN I (sR S) b c f ∧ (CN I (sR S) b c f).filter (fun p => decide (p 2 = nI cl)) = [] := by
      rcases DU_due du hB with ⟨q, L2, e1, e2, _, e4, e5⟩ | ⟨_, d2, d3⟩
      · have := (du1.1 q (by rw [e1]; exact List.mem_cons_self)).2.1
        have e3 : dqn q = cl := by
          unfold dqn
          rw [e2, nI_cl (by omega)]
        omega
      · exact ⟨d2, d3⟩
    refine ⟨BF_lg hL bf, fun x hx _ => BF_ag hL hx bf, fun c' e' hc' he' _ => BF_lc hL hc' he' bf, by rw [fl.1]; exact CN_c lc, by rw [CN_c lc]; exact du1, ?_, ?_, Or.inr ⟨fl.2, BF_ag hL hy bf⟩⟩
    · rw [lc.1]; exact h1
    · rw [lc.2.1]; exact h2
theorem cnq_c {I I' : Mm} {R : Nat → Nat → Option Nat} {b c e s : Nat} (hs : s < 8) (h : LC2 I I' R b c e) : cnq I' R b c e s = cnq I R b c e s := by
  unfold cnq
  rw [(h.2.2 s hs).1, (h.2.2 s hs).2.1, (h.2.2 s hs).2.2]
theorem cable_step {S : MM} {b c cl B : Nat} {I : Mm} {y : Nat → Nat} (hL : LY S b) (hO : OC S) (hc : c < 8) (hB : B < 2 ^ 31) (hcl : cl < 2 ^ 31) (hy : ∀ e, e < 2 → y e < 16) (hyd : y 0 ≠ y 1) (rp : ∀ e, e < 2 → (sR S (ppd (sR S) b c) (1 - e)).getD 0 = px (sR S) b (y e)) (vb : I b 2 = nI cl) (h1 : ∀ e, e < 2 → ∃ n, n < 8 ∧ I (Ln (sR S) b c e) 1 = nI n) (h2 : ∀ e, e < 2 → ∃ n, n < 9 ∧ I (Ln (sR S) b c e) 2 = nI n) (du : ∀ e, e < 2 → DU (CN I (sR S) b c e) cl B) : ∃ I', g_X7_bringAll_31 (sR S) b 2 0 c I = I' ∧ LGc (sR S) b I I' ∧ (∀ x, x < 16 → (∀ e, e < 2 → x ≠ y e) → AG (sR S) b x I I') ∧ (∀ c' e', c' < 8 → e' < 2 → c' ≠ c → LC2 I I' (sR S) b c' e') ∧ (∀ e, e < 2 → CN I' (sR S) b c e = (CN I (sR S) b c e).filter (fun p => !(decide (p 2 = nI cl))) ∧ DU (CN I' (sR S) b c e) (cl + 1) B ∧ (∃ n, n < 8 ∧ I' (Ln (sR S) b c e) 1 = nI n) ∧ (∃ n, n < 9 ∧ I' (Ln (sR S) b c e) 2 = nI n)) ∧ ∀ e, e < 2 → ((∃ s, s < 8 ∧ (CN I (sR S) b c e).filter (fun p => decide (p 2 = nI cl)) = [cnq I (sR S) b c e s] ∧ BB (cnq I (sR S) b c e s) ∧ HR (sR S) b c e s (y e) I I') ∨ ((CN I (sR S) b c e).filter (fun p => decide (p 2 = nI cl)) = [] ∧ AG (sR S) b (y e) I I')) := by
  have E : g_X7_bringAll_31 (sR S) b 2 0 c I = f_X7_bringFrames (f_X7_bringNotes (f_X7_bringFrames (f_X7_bringNotes I (sR S) b (px (sR S) b (y 0)) c 0) (sR S) b (px (sR S) b (y 0)) c 0) (sR S) b (px (sR S) b (y 1)) c 1) (sR S) b (px (sR S) b (y 1)) c 1 := by
    rw [← rp 0 (by decide), ← rp 1 (by decide)]
    rw [g_X7_bringAll_31, g_X7_bringAll_31, g_X7_bringAll_31]
  rw [E]
  clear E
  obtain ⟨I1, e1, lg1, ag1, lc1, cn1, du1, f1, t1, c1⟩ := lane_step hL hO hc (show 0 < 2 by decide) (hy 0 (by decide)) hB hcl vb (h1 0 (by decide)) (h2 0 (by decide)) (du 0 (by decide))
  rw [e1]
  have l1 := lc1 c 1 hc (by decide) (by omega)
  obtain ⟨I2, e2, lg2, ag2, lc2, cn2, du2, f2, t2, c2⟩ := lane_step (I := I1) hL hO hc (show 1 < 2 by decide) (hy 1 (by decide)) hB hcl (lg1.1.trans vb) (by rw [l1.1]; exact h1 1 (by decide)) (by rw [l1.2.1]; exact h2 1 (by decide)) (by rw [CN_c l1]; exact du 1 (by decide))
  rw [e2]
  have l2 := lc2 c 0 hc (by decide) (by omega)
  refine ⟨I2, rfl, lg1.tr lg2, fun x hx n => (ag1 x hx (n 0 (by decide))).tr (ag2 x hx (n 1 (by decide))), fun c' e' hc' he' n => (lc1 c' e' hc' he' (fun z => n z.1)).tr (lc2 c' e' hc' he' (fun z => n z.1)), fun e he => ?_, fun e he => ?_⟩
  · have q : e = 0 ∨ e = 1 := by omega
    rcases q with rfl | rfl
    · rw [CN_c l2, l2.1, l2.2.1]
      exact ⟨cn1, du1, f1, t1⟩
    · rw [CN_c l1] at cn2
      exact ⟨cn2, du2, f2, t2⟩
  · have q : e = 0 ∨ e = 1 := by omega
    rcases q with rfl | rfl
    · have g := ag2 (y 0) (hy 0 (by decide)) hyd
      rcases c1 with ⟨s, hs, a, b', d⟩ | ⟨a, d⟩
      · exact Or.inl ⟨s, hs, a, b', HR_r d g⟩
      · exact Or.inr ⟨a, d.tr g⟩
    · have g := ag1 (y 1) (hy 1 (by decide)) hyd.symm
      rw [CN_c l1] at c2
      rcases c2 with ⟨s, hs, a, b', d⟩ | ⟨a, d⟩
      · rw [cnq_c hs l1] at a b'
        exact Or.inl ⟨s, hs, a, b', HR_l hs d g l1⟩
      · exact Or.inr ⟨a, g.tr d⟩
