/-! SIMULATION 76: give as a pair of halves: a frame is taken -/
theorem gn_give {S S1 S2 : MM} {x m out i nt F cl c e d : Nat} {A : Nat → Nat} (hi : i < 3000) (hh : GH S S1 x m out A) (nr1 : NRl (sR S1) x m A (sI S1) (sI S1) cl nt) (bi1 : BI S1 m A nt F cl) (fr1 : FRj (sI S1) A nt F) (hF : F ≤ i) (hc : cl ≤ 1000 * i) (hd1 : 1 ≤ d) (hd2 : d ≤ 8) (sh : SM WG m A S1 S2) (iv : IV S2 m A (nt + 1)) (f39 : sI S2 m 39 = nI (F + 1)) (tl : TL S2 A (nt + 1) = TL S1 A nt ++ [(nI c, nI e, nI cl + nI d, nI F)]) : GN S2 x m out A (i + 1) ∧ TG (sI S2) A nt = TG (sI S1) A nt ∧ th S2 A nt = (nI c, nI e, nI cl + nI d, nI F) := by
  have hM1 := MS_b hh
  obtain ⟨h1, h2, h3, h4, s, h5, h6⟩ := bi1
  have same : ∀ k, dm k → k ≤ 26 → sI S2 (A k) = sI S1 (A k) := fun k a b => SM_a sh hM1 (dm_DM a) (by unfold WG; simp; omega)
  have bi2 : BI S2 m A (nt + 1) (F + 1) cl := by
    refine ⟨iv, f39, (sh.2.2.2.2.2 43 (by decide)).trans h3, by rw [tl]; exact LV_give h4 (by omega) hd1 hd2 (by omega), s, CM_eq h5 (SM_a sh hM1 (by decide) (by decide)) (Nat.le_refl _), ?_⟩
    have : isF ((nI c, nI e, nI cl + nI d, nI F) : TQ) = true := by
      unfold isF
      simp [nI_m1 (show F < 1000000 by omega)]
    rw [tl, List.countP_append, List.countP_singleton, this]
    simp
    omega
  rw [TL_s] at tl
  have tl1 := (List.append_inj' tl rfl).1
  have tl2 : th S2 A nt = (nI c, nI e, nI cl + nI d, nI F) := by simpa using (List.append_inj' tl rfl).2
  have n30 : sI S2 (A 30) nt = nI F := congrArg (fun q => q.2.2.2) tl2
  have t2 : TG (sI S2) A nt = TG (sI S1) A nt := TG_c (fun t ht => tg_th (TL_at tl1 ht) (SM_a sh hM1 (by decide) (by decide)))
  refine ⟨FIN (F := F + 1) hh sh.1 sh.2.1 sh.2.2.1 (fz_SM hM1 sh) (NR_T nr1 same (sh.2.2.2.2.2 43 (by decide)) iv.2.2.1 (fun c' e' _ _ => ?_) (UTj_of iv.2.2.2.2)) bi2 (fun t ht => ?_) (by omega) (by omega), t2, tl2⟩
  · rw [TG_s, t2, List.filter_append]
    have : isL c' e' (tg (sI S2) A nt) = false := by
      unfold isL
      refine decide_eq_false (fun z => ?_)
      have z3 : sI S2 (A 30) nt = -1 := z.2.2
      rw [n30] at z3
      exact nI_m1 (by omega) z3
    rw [List.filter_cons_of_neg (by rw [this]; decide), List.filter_nil, List.append_nil]
  · by_cases q : t < nt
    · have q4 : sI S2 (A 30) t = sI S1 (A 30) t := congrArg (fun q => q.2.2.2) (TL_at tl1 q)
      rw [q4]
      exact fun z => Nat.lt_succ_of_lt (fr1 t q z)
    · have : t = nt := by omega
      subst this
      intro _
      rw [n30, cl_nI (by omega)]
      omega
theorem FRs_2 {S2 : MM} {x m cl n' : Nat} {A : Nat → Nat} (bn : BN (sR S2) x (sI S2) (sI S2) A) (h : FRl (sR S2) x A (sI S2) (sI S2) cl n') (e43 : sI S2 m 43 = nI cl) (e32 : sI S2 m 32 = nI n') (hcl : cl < 2 ^ 31) (hn : n' < 2 ^ 31) : FRs S2 x m A := by
  unfold FRs
  rw [e43, e32, nI_cl hcl, nI_cl hn]
  exact ⟨h, bn⟩
theorem px_le {R R' : Nat → Nat → Option Nat} {b x : Nat} (le : LYE R R' b) (hx : x < 16) : px R' b x = px R b x := le.P (x / 8) (x % 8) (by omega) (by omega)
theorem p_giveA {Q : Option Value → MM → Prop} {S Sa S' : MM} {x m out i e cv j c nf a : Nat} {A : Nat → Nat} {v u w y : Int32} {z : Int64} (hi : i < 3000) (hP : GP S x m out A i) (he : e < 2) (hcv : cv < 256) (ev : v = nI e) (eu : u = nI cv) (gy : GYs (sI S) (sR S) x e cv w j c nf) (af : AF S Sa (Ln (sR S) x c e) a nf) (ch : CHn Sa S' a (En (sR S) x e) x (nI cv) y (sI S x 2 + sI S (Cb (sR S) x c) 2)) (gv : GV S S') (gh : GH S S' x m out A) (K : ∀ S2, GP S2 x m out A (i + 1) → sI S2 m 0 = 0 → sJ S2 = sJ (pJ S' out 0 z) → Q (some (.int (nI j))) S2) : wX8_give [.ref m, .int v, .int w, .int u, .int y] (pJ S' out 0 z) Q := by
  subst ev eu
  have hG := hP.1
  have hL := ly_of hG
  have hh : GH S (pJ S' out 0 z) x m out A := GH_p gh
  obtain ⟨g1, g2, g3, g4, g5, g6, g7, nt, F, cl, bi, n0, fr, hF, hc0⟩ := id hG
  have hl := BI_len bi
  have hnt := bi.1.2.2.2.1
  have frl := FRs_at hP n0 (by omega) (by omega)
  have hM1 := MS_b hh
  have bi1 := BI_h hh.2.2.2.2.2.2.2.1 hh.2.2.2.2.2.2.2.2 bi
  have nr1 : NRl (sR S') x m A (sI S') (sI S') cl nt := MDw_of hG gv cl nt (NR_h gh n0)
  have gk : ∀ k, k ∈ DM → sI S' (A k) = sI S (A k) := gh.2.2.2.2.2.2.2.2
  have fr1 : FRj (sI S') A nt F := fun t ht => by rw [gk 30 (by decide)]; exact fr t ht
  have rs : ∀ z, sK S z ≠ 0 → sK S z ≠ 14 → sR S' z = sR S z := fun z h0 h14 => (gv.1 z h0).2.2.2.2 (by
    unfold rc
    rw [if_neg h14]
    split
    · exact Or.inl (by decide)
    · exact Or.inr rfl)
  have le := lye14 (R' := sR S') hL rs
  have kS : ∀ {St : MM}, SM [0] m A (pJ S' out 0 z) St → ∀ k, k ∈ DM → sI St (A k) = sI S (A k) := fun sm k hk => (SM_a sm hM1 hk ((show ∀ k ∈ DM, k ∉ ([0] : List Nat) by decide) k hk)).trans (gk k hk)
  have rp : ∀ {St : MM}, SM [0] m A (pJ S' out 0 z) St → ∀ x', x' < 16 → RP (sR S) x (sI S) (sI St) A x' := fun sm x' hx' => RP_g (n0.1 x' hx').1 AG.rf (fun k j a b _ => by rw [kS sm k (dm_DM a)])
  have bn : ∀ {St : MM}, SM [0] m A (pJ S' out 0 z) St → BN (sR S) x (sI S) (sI St) A := fun sm => BN_t hL P6.rf (fun y _ e4 => by rw [kS sm 9 (by decide)] at e4; exact ⟨e4, by rw [kS sm 12 (by decide)]⟩) hP.2.2
  have fl : ∀ {St : MM}, SM [0] m A (pJ S' out 0 z) St → FLr (sR S) x (sI S) (sI St) A nt := fun sm => (FR_t hL FA.rf (fun k hk => kS sm k ((show ∀ k ∈ KF, k ∈ DM by decide) k hk)) frl).1
  obtain ⟨h1, h2, h3, h4, s, h5, h6⟩ := id bi1
  refine w_v_give hM1 h1 (by omega) h2 (by omega) (fun gb _ _ _ _ _ => absurd gb (gvb_no he hcv)) (fun e' cv' _ _ e1 e2 St sm im e0 gn => ?_) (fun e' cv' j' c' d St S2 he' hcv' e1 e2 hd1 hd2 h23 sm st0 gym sh sh2 iv f39 tl a35 a36 => ?_)
  · have ee : e = e' := nI_inj (by omega) (by omega) e1
    have ec : cv = cv' := nI_inj (by omega) (by omega) e2
    subst ee ec
    exact (gy_gn he (rp sm) (bn sm) (fl sm) gy gn).elim
  have ee : e = e' := nI_inj (by omega) (by omega) e1
  have ec : cv = cv' := nI_inj (by omega) (by omega) e2
  subst ee ec
  obtain ⟨ej, ec, st4, h11⟩ := gy_gy he (rp sm) (bn sm) gy gym
  subst ej ec
  have hj : j' < 8 := gy.1
  have hc : c' < 8 := gy.2.2.2.1
  rw [kS sm 9 (by decide)] at st4
  rw [kS sm 11 (by decide)] at h11
  have h23' : sI S (A 23) c' = nI d := by rw [← gk 23 (by decide)]; exact h23
  have ri := n0.2.2.2.2.2.1
  obtain ⟨c0, hc0', i11, h25⟩ := RI_lit ri (show 8 * e + j' < 16 by omega) (Or.inr st4)
  have e0 : c0 = c' := nI_inj (by omega) (by omega) (i11.symm.trans h11)
  subst e0
  have h24 : sI S (A 24) c0 ≠ 0 := ri.1 c0 hc h25
  have hb : bd (sI S) A c0 = d := by
    unfold bd
    rw [if_neg h24, h23', nI_cl (by omega)]
  have cb : sI S (Cb (sR S) x c0) 2 = nI d := (n0.2.2.2.2.2.2.2.2.1 c0 hc h24).trans h23'
  rw [cb, n0.2.2.2.1.1] at ch
  have e43 : sI (pJ S' out 0 z) m 43 = nI cl := h3
  rw [e43] at tl
  obtain ⟨gn2, t2, thn⟩ := gn_give (S1 := pJ S' out 0 z) hi hh nr1 bi1 fr1 hF hc0 hd1 hd2 sh iv f39 tl
  have hL1 : LY (pJ S' out 0 z) x := ⟨hh.1, hh.2.2.1⟩
  have tP : TG (sI (pJ S' out 0 z)) A nt = TG (sI S) A nt := TG_c (fun t _ => tg_k (fun k hk => gk k ((show ∀ k ∈ ([27, 28, 29, 30, 31] : List Nat), k ∈ DM by decide) k hk)))
  have fr2 : FRl (sR S') x A (sI S') (sI S2) cl (nt + 1) := by
    refine fr_give (J := sI S) (F := F) (d := d) hL g7 hc he gy.2.2.2.2.2.2 gy.2.2.2.2.2.1 af ch le frl hb (by omega) fr (by omega) (t2.trans tP) (congrArg (fun q => q.1) thn) (congrArg (fun q => q.2.1) thn) (congrArg (fun q => q.2.2.1) thn) (congrArg (fun q => q.2.2.2) thn) ?_ ?_ (fun k hk => ?_)
    · rw [a35, kS sm 35 (by decide)]
    · rw [a36, kS sm 36 (by decide)]
    · rw [SM_a sh hM1 (by rcases hk with rfl | rfl | rfl | rfl <;> decide) (by rcases hk with rfl | rfl | rfl | rfl <;> decide)]
      exact gk k (by rcases hk with rfl | rfl | rfl | rfl <;> decide)
  have fr3 : FRl (sR S') x A (sI S2) (sI S2) cl (nt + 1) := FR_t hL1 (fa_z hL1 hM1 (fz_SM hM1 sh)) (fun _ _ => rfl) fr2
  have p6 : P6 S (sI S) (sI S') := fun z hz => by rw [(gv.2.1 z (by rw [hz]; decide)).1 (Or.inr (Or.inl hz))]
  have k9 : ∀ k, (k = 9 ∨ k = 12) → sI S2 (A k) = sI S (A k) := fun k hk => by
    rw [SM_a sh hM1 (by rcases hk with rfl | rfl <;> decide) (by rcases hk with rfl | rfl <;> decide)]
    exact gk k (by rcases hk with rfl | rfl <;> decide)
  have bn2 : BN (sR S') x (sI S2) (sI S2) A := fun x' hx' e4 => by
    rw [k9 9 (by omega)] at e4
    obtain ⟨b1, b2⟩ := hP.2.2 x' hx' e4
    have kp := k_px hL hx'
    rw [px_le le hx', k9 12 (by omega), fz_SM hM1 sh _ (no_ref g6 kp (by decide)).1 (no_ref g6 kp (by decide)).2]
    exact ⟨(p6 _ kp).trans b1, b2⟩
  refine K S2 ⟨gn2, FRs_2 (cl := cl) (n' := nt + 1) (by rw [sh.2.2.1]; exact bn2) (by rw [sh.2.2.1]; exact fr3) ((sh.2.2.2.2.2 43 (by decide)).trans h3) iv.2.2.1 (by omega) (by omega)⟩ ((sh2.2.2.2.2.2 0 (by decide)).trans st0) sh.2.2.2.1
