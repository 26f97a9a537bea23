/-! SIMULATION 75: give as a pair of halves, with the frames -/
theorem k_givex {Q : Option Value → MM → Prop} {S : MM} {x m out i : Nat} {A : Nat → Nat} {v w u y : Int32} (hG : GN S x m out A i) (K0 : GVB v u → Q (some (.int (nI 1))) S) (KN : ∀ e cv, e < 2 → cv < 256 → v = nI e → u = nI cv → GNo (sI S) (sR S) x e cv w → Q (some (.int (nI 0))) (pJ S out 0 (-1 : Int32).toInt64)) (KA : ∀ e cv j c nf a S1 S', e < 2 → cv < 256 → v = nI e → u = nI cv → GYs (sI S) (sR S) x e cv w j c nf → AF S S1 (Ln (sR S) x c e) a nf → CHn S1 S' a (En (sR S) x e) x (nI cv) y (sI S x 2 + sI S (Cb (sR S) x c) 2) → GV S S' → GH S S' x m out A → Q (some (.int (nI 0))) (pJ S' out 0 (nI j).toInt64)) : wL_give [.ref x, .int v, .int w, .int u, .int y, .ref out] S Q := by
  refine Exists.intro 3 (And.intro hG.2.2.1 (And.intro ⟨by decide, by decide⟩ (w_X7_give hG.1 hG.2.1 hG.2.2.1 (fun gb q => ?_) (fun e cv he hcv e1 e2 gn => ?_) (fun e cv j c nf a S1 S' r he hcv e1 e2 gy af ch gv ty ir er => ?_))))
  · rw [hd1_1]; exact K0 gb
  · exact And.intro hG.2.2.2.1 (And.intro (by show vp_in 0 (sN S out); rw [hG.2.2.2.2.1]; exact in_0 (by decide)) (KN e cv he hcv e1 e2 gn))
  · have gh := GH_g hG gv ty ir
    have hL := ly_of hG
    have hj : j < 8 := gy.1
    obtain ⟨g1, g2, g3, g4, g5, g6, g7, nt, F, cl, bi, n0, fr, hF, hc⟩ := id hG
    have er2 : r = nI j := by
      rw [er, (gv.2.1 _ (by rw [(ly_O hL he hj).2.1]; decide)).1 (Or.inr (Or.inr (ly_O hL he hj).2.1))]
      have q := (n0.1 (8 * e + j) (by omega)).1.1.2.2.2.2.2.2.2.2.2.2.2.1
      rw [show ox (sR S) x (8 * e + j) = Ow (sR S) x e j from by
        show Ow (sR S) x ((8 * e + j) / 8) ((8 * e + j) % 8) = _
        rw [show (8 * e + j) / 8 = e by omega, show (8 * e + j) % 8 = j by omega], show (8 * e + j) % 8 = j by omega] at q
      exact q
    subst er2
    exact And.intro gh.2.2.2.1 (And.intro (by show vp_in 0 (sN S' out); rw [gh.2.2.2.2.1]; exact in_0 (by decide)) (KA e cv j c nf a S1 S' he hcv e1 e2 gy af ch gv gh))
theorem p_give0 {Q : Option Value → MM → Prop} {S : MM} {x m out i : Nat} {A : Nat → Nat} {v w u y : Int32} (hi : i < 3000) (hP : GP S x m out A i) (gb : GVB v u) (K : ∀ r S2, GP S2 x m out A (i + 1) → sI S2 m 0 = 1 → Q (some (.int r)) S2) : wX8_give [.ref m, .int v, .int w, .int u, .int y] S Q := by
  have hG := hP.1
  obtain ⟨g1, g2, g3, g4, g5, g6, g7, nt, F, cl, bi, n0, fr, hF, hc⟩ := id hG
  have hl := BI_len bi
  obtain ⟨h1, h2, h3, h4, s, h5, h6⟩ := bi
  exact w_v_give g6 h1 (by omega) h2 (by omega) (fun _ r S2 e im e0 => K r S2 (p_same hP (GH_0 hG) rfl rfl e im) e0) (fun e cv he hcv e1 e2 _ _ _ _ _ => absurd gb (by rw [e1, e2]; exact gvb_no he hcv)) (fun e cv _ _ _ _ _ he hcv e1 e2 _ _ _ _ _ _ _ _ _ _ _ _ _ => absurd gb (by rw [e1, e2]; exact gvb_no he hcv))
theorem p_giveN {Q : Option Value → MM → Prop} {S : MM} {x m out i e cv : Nat} {A : Nat → Nat} {v u w y : Int32} {z : Int64} (hi : i < 3000) (hP : GP S x m out A i) (he : e < 2) (hcv : cv < 256) (ev : v = nI e) (eu : u = nI cv) (gn : GNo (sI S) (sR S) x e cv w) (K : ∀ S2, GP S2 x m out A (i + 1) → sI S2 m 0 = 0 → sJ S2 = sJ (pJ S out 0 z) → Q (some (.int (-1))) S2) : wX8_give [.ref m, .int v, .int w, .int u, .int y] (pJ S out 0 z) Q := by
  subst ev eu
  have hG := hP.1
  have hL := ly_of hG
  have hh : GH S (pJ S out 0 z) x m out A := GH_p (GH_0 hG)
  obtain ⟨g1, g2, g3, g4, g5, g6, g7, nt, F, cl, bi, n0, fr, hF, hc⟩ := id hG
  have hl := BI_len bi
  have hnt := bi.1.2.2.2.1
  have frl := FRs_at hP n0 (by omega) (by omega)
  have hM1 := MS_b hh
  have bi1 := BI_h hh.2.2.2.2.2.2.2.1 hh.2.2.2.2.2.2.2.2 bi
  obtain ⟨h1, h2, h3, h4, s, h5, h6⟩ := bi1
  refine w_v_give hM1 h1 (by omega) h2 (by omega) (fun gb _ _ _ _ _ => absurd gb (gvb_no he hcv)) (fun e' cv' _ _ _ _ S2 sm im e0 _ => K S2 (p_same hP hh rfl rfl sm im) e0 sm.2.2.2.1) (fun e' cv' j c d S1 S2 he' hcv' e1 e2 _ _ _ sm _ gy _ _ _ _ _ _ _ => ?_)
  have ee : e = e' := nI_inj (by omega) (by omega) e1
  have ec : cv = cv' := nI_inj (by omega) (by omega) e2
  subst ee ec
  have kA : ∀ k, k ∈ DM → sI S1 (A k) = sI S (A k) := fun k hk => (show sI S1 (A k) = sI (pJ S out 0 z) (A k) from SM_a sm hM1 hk ((show ∀ k ∈ DM, k ∉ ([0] : List Nat) by decide) k hk))
  have rp : ∀ x', x' < 16 → RP (sR S) x (sI S) (sI S1) A x' := fun x' hx' => RP_g (n0.1 x' hx').1 AG.rf (fun k j a b _ => by rw [kA k (dm_DM a)])
  have bn : BN (sR S) x (sI S) (sI S1) A := BN_t hL P6.rf (fun y _ e4 => by rw [kA 9 (by decide)] at e4; exact ⟨e4, by rw [kA 12 (by decide)]⟩) hP.2.2
  have fl := (FR_t hL FA.rf (fun k hk => kA k ((show ∀ k ∈ KF, k ∈ DM by decide) k hk)) frl).1
  exact (gn_gy he rp bn fl gn gy).elim
