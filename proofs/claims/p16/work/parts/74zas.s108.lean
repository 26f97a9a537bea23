/-! SIMULATION 108: tick and give with the counters -/
theorem xr_1 {S S1 : MM} {x m out i cl nt F : Nat} {A : Nat → Nat} (hX : GX S x m out A i) (hh : GH S S1 x m out A) (n0 : NRl (sR S) x m A (sI S) (sI S) cl nt) (hnt : nt < 2 ^ 31) (hcl : cl < 2 ^ 31) (e39 : sI S m 39 = nI F) (hF : F < 2 ^ 31) : ∃ φ, XRl (sR S) x m A (sI S) (sI S1) nt F φ := by
  have hL := ly_of hX.1.1
  have ek := hh.2.2.2.2.2.2.2.2
  have em := hh.2.2.2.2.2.2.2.1
  obtain ⟨φ, h⟩ := XS_at hX n0 hnt e39 hF
  have frl := FRs_at hX.1 n0 hcl hnt
  exact ⟨φ, XR_T hL (fun c e hc he => (frl.2.1 c e hc he).1) FA.rf (fun _ _ _ => rfl) (fun _ _ _ _ => rfl) (fun k hk => ek k (by rcases hk with rfl | rfl | rfl | rfl | rfl | rfl <;> decide)) (fun j _ _ => by rw [em]) (TG_c (fun t _ => tg_k (fun k hk => ek k ((show ∀ k ∈ ([27, 28, 29, 30, 31] : List Nat), k ∈ DM by decide) k hk)))) h⟩
theorem h_tickx {Q : Option Value → MM → Prop} {S S1 : MM} {x m out i k : Nat} {A : Nat → Nat} {v : Int32} (hi : i < 3000) (hX : GX S x m out A i) (nb : ¬ TB v) (hh : GH S S1 x m out A) (er : sR S1 = sR S) (hk : k ≤ 1000) (ev : v = nI k) (ei : sI S1 = itC (sR S) x k (sI S)) (irs : ∀ j, j ≤ k → IR (wI S (itC (sR S) x j (sI S)))) (K : ∀ r S2, GX S2 x m out A (i + 1) → Q (some (.int r)) S2) : wX8_tick_ [.ref m, .int v] S1 Q := by
  have hP := hX.1
  have hG := hP.1
  have hM1 := hh.2.2.2.2.2.1
  have hL := ly_of hG
  obtain ⟨g1, g2, g3, g4, g5, g6, g7, nt, F, cl, bi, n0, fr, hF, hc⟩ := id hG
  have bi1 := BI_h hh.2.2.2.2.2.2.2.1 hh.2.2.2.2.2.2.2.2 bi
  have ek := hh.2.2.2.2.2.2.2.2
  have hnt := bi.1.2.2.2.1
  have hL1 : LY S1 x := ⟨hh.1, hh.2.2.1⟩
  have frl := FRs_at hP n0 (by omega) (by omega)
  have frl1 : FRl (sR S) x A (sI S) (sI S1) cl nt := FR_t hL FA.rf (fun k hk => ek k ((show ∀ k ∈ KF, k ∈ DM by decide) k hk)) frl
  obtain ⟨φ, xr1⟩ := xr_1 hX hh n0 (by omega) (by omega) bi.2.1 (by omega)
  refine c_Mtickh (φ := φ) (S := S1) (I := sI S) (cl := cl) (nt := nt) (F := F) hL1 hh.2.2.2.2.2.2.1 hM1 bi1.1.1 (fun tb r S2 e im _ => absurd tb nb) (by omega) (by omega) (fun _ => ?_)
  rw [er]
  refine ⟨k, hk, ev, fun j hj c e hc he => irs j hj (Ln (sR S) x c e) 4 1 8 (ly_N hL hc he).2.1 rfl, NR_h hh n0, fun t ht => ?_, bi1, frl1, BN_t hL P6.rf (fun y _ e4 => by rw [ek 9 (by decide)] at e4; exact ⟨e4, by rw [ek 12 (by decide)]⟩) hP.2.2, ⟨xr1, hX.2.1⟩, fun r F' nt' nr fr' bi' fz f0 frl' er' bn' km xc => ?_⟩
  · rw [ek 30 (by decide)]
    exact fr t ht
  · have g2 : GN (wI S1 F') x m out A (i + 1) := FIN (S2 := wI S1 F') hh rfl rfl rfl fz (by rw [er, ei]; exact nr) bi' fr' (by omega) (by omega)
    have f2 : FRl (sR S) x A F' F' (cl + k) nt' := FR_t hL (fa_z hL g6 (fun z h1 h2 => by rw [fz z h1 h2, ei])) (fun _ _ => rfl) frl'
    have n2 := bi'.1.2.2.2.1
    have frs : FRs (wI S1 F') x m A := FRs_of (by rw [er]; exact BN_t hL (fun z hz => by rw [fz z (no_ref g6 hz (by decide)).1 (no_ref g6 hz (by decide)).2, ei]) (fun _ _ e4 => ⟨e4, rfl⟩) bn') (by rw [er]; exact f2) nr.2.2.2.1.2.1 nr.2.2.2.1.2.2 (by omega) (by omega)
    have hP2 : GP (wI S1 F') x m out A (i + 1) := ⟨g2, frs⟩
    have fokI : ∀ c e, c < 8 → e < 2 → FOK (sI S1) (sR S1) x c e := fun c e hc he => by rw [er, ei]; exact (frl'.2.1 c e hc he).1
    have xs2 : XSs (wI S1 F') x m A := xs_w (cl := cl) hL1 hM1 fokI fz nr.2.2.2.1.2.2 bi'.2.1 (by omega) (by omega) (by rw [er, ei]; exact xc.1)
    exact K r (wI S1 F') ⟨hP2, (cm_tick ⟨hX.1, hX.2.1⟩ hh er ei hP2 (FS.w fz) km).2, xs2⟩
theorem h_tick0 {Q : Option Value → MM → Prop} {S : MM} {x m out i : Nat} {A : Nat → Nat} {v : Int32} (hi : i < 3000) (hX : GX S x m out A i) (tb : TB v) (K : ∀ r S2, GX S2 x m out A (i + 1) → Q (some (.int r)) S2) : wX8_tick_ [.ref m, .int v] S Q := by
  have hG := hX.1.1
  have hL := ly_of hG
  obtain ⟨g1, g2, g3, g4, g5, g6, g7, nt, F, cl, bi, n0, fr, hF, hc⟩ := id hG
  exact c_Mtickf (S := S) (I := sI S) (cl := cl) (nt := nt) (F := F) hL g7 g6 bi.1.1 (fun _ r S2 e im e0 => K r S2 (gx_bad hX (GH_0 hG) rfl rfl e im)) (by omega) (by omega) (fun z => absurd tb z)
theorem h_give0 {Q : Option Value → MM → Prop} {S : MM} {x m out i : Nat} {A : Nat → Nat} {v w u y : Int32} (hi : i < 3000) (hX : GX S x m out A i) (gb : GVB v u) (K : ∀ r S2, GX S2 x m out A (i + 1) → Q (some (.int r)) S2) : wX8_give [.ref m, .int v, .int w, .int u, .int y] S Q := by
  have hG := hX.1.1
  obtain ⟨g1, g2, g3, g4, g5, g6, g7, nt, F, cl, bi, n0, fr, hF, hc⟩ := id hG
  have hl := BI_len bi
  obtain ⟨h1, h2, h3, h4, s, h5, h6⟩ := bi
  exact w_v_give g6 h1 (by omega) h2 (by omega) (fun _ r S2 e im e0 => K r S2 (gx_bad hX (GH_0 hG) rfl rfl e im)) (fun e cv he hcv e1 e2 _ _ _ _ _ => absurd gb (by rw [e1, e2]; exact gvb_no he hcv)) (fun e cv _ _ _ _ _ he hcv e1 e2 _ _ _ _ _ _ _ _ _ _ _ _ _ => absurd gb (by rw [e1, e2]; exact gvb_no he hcv))
theorem h_giveN {Q : Option Value → MM → Prop} {S : MM} {x m out i e cv : Nat} {A : Nat → Nat} {v u w y : Int32} {z : Int64} (hi : i < 3000) (hX : GX S x m out A i) (he : e < 2) (hcv : cv < 256) (ev : v = nI e) (eu : u = nI cv) (gn : GNo (sI S) (sR S) x e cv w) (K : ∀ r S2, GX S2 x m out A (i + 1) → Q (some (.int r)) S2) : wX8_give [.ref m, .int v, .int w, .int u, .int y] (pJ S out 0 z) Q := by
  subst ev eu
  have hP := hX.1
  have hG := hP.1
  have hL := ly_of hG
  have hh : GH S (pJ S out 0 z) x m out A := GH_p (GH_0 hG)
  obtain ⟨g1, g2, g3, g4, g5, g6, g7, nt, F, cl, bi, n0, fr, hF, hc⟩ := id hG
  have hl := BI_len bi
  have hnt := bi.1.2.2.2.1
  have frl := FRs_at hP n0 (by omega) (by omega)
  have hM1 := MS_b hh
  have bi1 := BI_h hh.2.2.2.2.2.2.2.1 hh.2.2.2.2.2.2.2.2 bi
  obtain ⟨h1, h2, h3, h4, s, h5, h6⟩ := bi1
  refine w_v_give hM1 h1 (by omega) h2 (by omega) (fun gb _ _ _ _ _ => absurd gb (gvb_no he hcv)) (fun e' cv' _ _ _ _ S2 sm im e0 _ => K _ S2 (gx_bad hX hh rfl rfl sm im)) (fun e' cv' j c d S1 S2 he' hcv' e1 e2 _ _ _ sm _ gy _ _ _ _ _ _ _ => ?_)
  have ee : e = e' := nI_inj (by omega) (by omega) e1
  have ec : cv = cv' := nI_inj (by omega) (by omega) e2
  subst ee ec
  have kA : ∀ k, k ∈ DM → sI S1 (A k) = sI S (A k) := fun k hk => (show sI S1 (A k) = sI (pJ S out 0 z) (A k) from SM_a sm hM1 hk ((show ∀ k ∈ DM, k ∉ ([0] : List Nat) by decide) k hk))
  have rp : ∀ x', x' < 16 → RP (sR S) x (sI S) (sI S1) A x' := fun x' hx' => RP_g (n0.1 x' hx').1 AG.rf (fun k j a b _ => by rw [kA k (dm_DM a)])
  have bn : BN (sR S) x (sI S) (sI S1) A := BN_t hL P6.rf (fun y _ e4 => by rw [kA 9 (by decide)] at e4; exact ⟨e4, by rw [kA 12 (by decide)]⟩) hP.2.2
  have fl := (FR_t hL FA.rf (fun k hk => kA k ((show ∀ k ∈ KF, k ∈ DM by decide) k hk)) frl).1
  exact (gn_gy he rp bn fl gn gy).elim
theorem h_giveA {Q : Option Value → MM → Prop} {S Sa S' : MM} {x m out i e cv j c nf a : Nat} {A : Nat → Nat} {v u w y : Int32} {z : Int64} (hi : i < 3000) (hX : GX S x m out A i) (he : e < 2) (hcv : cv < 256) (ev : v = nI e) (eu : u = nI cv) (gy : GYs (sI S) (sR S) x e cv w j c nf) (af : AF S Sa (Ln (sR S) x c e) a nf) (ch : CHn Sa S' a (En (sR S) x e) x (nI cv) y (sI S x 2 + sI S (Cb (sR S) x c) 2)) (chx : CHx S S' a (En (sR S) x e) x (Pa (sR S) x e j) w) (gv : GV S S') (gh : GH S S' x m out A) (K : ∀ r S2, GX S2 x m out A (i + 1) → Q (some (.int r)) S2) : wX8_give [.ref m, .int v, .int w, .int u, .int y] (pJ S' out 0 z) Q := by
  subst ev eu
  have hP := hX.1
  have hG := hP.1
  have hL := ly_of hG
  have hh : GH S (pJ S' out 0 z) x m out A := GH_p gh
  obtain ⟨g1, g2, g3, g4, g5, g6, g7, nt, F, cl, bi, n0, fr, hF, hc0⟩ := id hG
  have hl := BI_len bi
  have hnt := bi.1.2.2.2.1
  have frl := FRs_at hP n0 (by omega) (by omega)
  have hM1 := MS_b hh
  have bi1 := BI_h hh.2.2.2.2.2.2.2.1 hh.2.2.2.2.2.2.2.2 bi
  have nr1 : NRl (sR S') x m A (sI S') (sI S') cl nt := MDw_of hG gv cl nt (NR_h gh n0)
  have gk : ∀ k, k ∈ DM → sI S' (A k) = sI S (A k) := gh.2.2.2.2.2.2.2.2
  have fr1 : FRj (sI S') A nt F := fun t ht => by rw [gk 30 (by decide)]; exact fr t ht
  have rs : ∀ z, sK S z ≠ 0 → sK S z ≠ 14 → sR S' z = sR S z := fun z h0 h14 => (gv.1 z h0).2.2.2.2 (by
    unfold rc
    rw [if_neg h14]
    split
    · exact Or.inl (by decide)
    · exact Or.inr rfl)
  have le := lye14 (R' := sR S') hL rs
  have kS : ∀ {St : MM}, SM [0] m A (pJ S' out 0 z) St → ∀ k, k ∈ DM → sI St (A k) = sI S (A k) := fun sm k hk => (SM_a sm hM1 hk ((show ∀ k ∈ DM, k ∉ ([0] : List Nat) by decide) k hk)).trans (gk k hk)
  have rp : ∀ {St : MM}, SM [0] m A (pJ S' out 0 z) St → ∀ x', x' < 16 → RP (sR S) x (sI S) (sI St) A x' := fun sm x' hx' => RP_g (n0.1 x' hx').1 AG.rf (fun k j a b _ => by rw [kS sm k (dm_DM a)])
  have bn : ∀ {St : MM}, SM [0] m A (pJ S' out 0 z) St → BN (sR S) x (sI S) (sI St) A := fun sm => BN_t hL P6.rf (fun y _ e4 => by rw [kS sm 9 (by decide)] at e4; exact ⟨e4, by rw [kS sm 12 (by decide)]⟩) hP.2.2
  have fl : ∀ {St : MM}, SM [0] m A (pJ S' out 0 z) St → FLr (sR S) x (sI S) (sI St) A nt := fun sm => (FR_t hL FA.rf (fun k hk => kS sm k ((show ∀ k ∈ KF, k ∈ DM by decide) k hk)) frl).1
  obtain ⟨h1, h2, h3, h4, s, h5, h6⟩ := id bi1
  refine w_v_giveh hM1 h1 (by omega) h2 (by omega) (fun gb _ _ _ _ _ => absurd gb (gvb_no he hcv)) (fun e' cv' _ _ e1 e2 St sm im e0 gn => ?_) (fun e' cv' j' c' d St S2 he' hcv' e1 e2 hd1 hd2 h23 sm st0 gym sh sh2 iv f39 tl a35 a36 my => ?_)
  · have ee : e = e' := nI_inj (by omega) (by omega) e1
    have ec : cv = cv' := nI_inj (by omega) (by omega) e2
    subst ee ec
    exact (gy_gn he (rp sm) (bn sm) (fl sm) gy gn).elim
  have ee : e = e' := nI_inj (by omega) (by omega) e1
  have ec : cv = cv' := nI_inj (by omega) (by omega) e2
  subst ee ec
  obtain ⟨ej, ec, st4, h11⟩ := gy_gy he (rp sm) (bn sm) gy gym
  subst ej ec
  have hj : j' < 8 := gy.1
  have hc : c' < 8 := gy.2.2.2.1
  rw [kS sm 9 (by decide)] at st4
  rw [kS sm 11 (by decide)] at h11
  have h23' : sI S (A 23) c' = nI d := by rw [← gk 23 (by decide)]; exact h23
  have ri := n0.2.2.2.2.2.1
  obtain ⟨c0, hc0', i11, h25⟩ := RI_lit ri (show 8 * e + j' < 16 by omega) (Or.inr st4)
  have e0 : c0 = c' := nI_inj (by omega) (by omega) (i11.symm.trans h11)
  subst e0
  have h24 : sI S (A 24) c0 ≠ 0 := ri.1 c0 hc h25
  have hb : bd (sI S) A c0 = d := by
    unfold bd
    rw [if_neg h24, h23', nI_cl (by omega)]
  have cb : sI S (Cb (sR S) x c0) 2 = nI d := (n0.2.2.2.2.2.2.2.2.1 c0 hc h24).trans h23'
  have ch0 := ch
  rw [cb, n0.2.2.2.1.1] at ch
  have e43 : sI (pJ S' out 0 z) m 43 = nI cl := h3
  rw [e43] at tl
  obtain ⟨gn2, t2, thn⟩ := gn_give (S1 := pJ S' out 0 z) hi hh nr1 bi1 fr1 hF hc0 hd1 hd2 sh iv f39 tl
  have hL1 : LY (pJ S' out 0 z) x := ⟨hh.1, hh.2.2.1⟩
  have tP : TG (sI (pJ S' out 0 z)) A nt = TG (sI S) A nt := TG_c (fun t _ => tg_k (fun k hk => gk k ((show ∀ k ∈ ([27, 28, 29, 30, 31] : List Nat), k ∈ DM by decide) k hk)))
  have fr2 : FRl (sR S') x A (sI S') (sI S2) cl (nt + 1) := by
    refine fr_give (J := sI S) (F := F) (d := d) hL g7 hc he gy.2.2.2.2.2.2 gy.2.2.2.2.2.1 af ch le frl hb (by omega) fr (by omega) (t2.trans tP) (congrArg (fun q => q.1) thn) (congrArg (fun q => q.2.1) thn) (congrArg (fun q => q.2.2.1) thn) (congrArg (fun q => q.2.2.2) thn) ?_ ?_ (fun k hk => ?_)
    · rw [a35, kS sm 35 (by decide)]
    · rw [a36, kS sm 36 (by decide)]
    · rw [SM_a sh hM1 (by rcases hk with rfl | rfl | rfl | rfl <;> decide) (by rcases hk with rfl | rfl | rfl | rfl <;> decide)]
      exact gk k (by rcases hk with rfl | rfl | rfl | rfl <;> decide)
  have fr3 : FRl (sR S') x A (sI S2) (sI S2) cl (nt + 1) := FR_t hL1 (fa_z hL1 hM1 (fz_SM hM1 sh)) (fun _ _ => rfl) fr2
  have p6 : P6 S (sI S) (sI S') := fun z hz => by rw [(gv.2.1 z (by rw [hz]; decide)).1 (Or.inr (Or.inl hz))]
  have k9 : ∀ k, (k = 9 ∨ k = 12) → sI S2 (A k) = sI S (A k) := fun k hk => by
    rw [SM_a sh hM1 (by rcases hk with rfl | rfl <;> decide) (by rcases hk with rfl | rfl <;> decide)]
    exact gk k (by rcases hk with rfl | rfl <;> decide)
  have bn2 : BN (sR S') x (sI S2) (sI S2) A := fun x' hx' e4 => by
    rw [k9 9 (by omega)] at e4
    obtain ⟨b1, b2⟩ := hP.2.2 x' hx' e4
    have kp := k_px hL hx'
    rw [px_le le hx', k9 12 (by omega), fz_SM hM1 sh _ (no_ref g6 kp (by decide)).1 (no_ref g6 kp (by decide)).2]
    exact ⟨(p6 _ kp).trans b1, b2⟩
  have hP2 : GP S2 x m out A (i + 1) := ⟨gn2, FRs_2 (cl := cl) (n' := nt + 1) (by rw [sh.2.2.1]; exact bn2) (by rw [sh.2.2.1]; exact fr3) ((sh.2.2.2.2.2 43 (by decide)).trans h3) iv.2.2.1 (by omega) (by omega)⟩
  have gq := cm_give (z := z) ⟨hX.1, hX.2.1⟩ hc he af ch0 gv gh hP2 (FS.sm hM1 sh) (fun k hk => (SM_a sh hM1 ((show ∀ k ∈ KMt, k ∈ DM by decide) k hk) ((show ∀ k ∈ KMt, k ∉ WG by decide) k hk)).trans (gk k ((show ∀ k ∈ KMt, k ∈ DM by decide) k hk)))
  obtain ⟨φ, xr0⟩ := XS_at hX n0 (by omega) bi.2.1 (by omega)
  have em : ∀ j, sI (pJ S' out 0 z) m j = sI S m j := fun j => congrFun gh.2.2.2.2.2.2.2.1 j
  have my2 : MYx (sI S) (sI S2) m A F e (8 * e + j') w := by
    obtain ⟨y1, y2, y3, y4, y5⟩ := my
    rw [kS sm 33 (by decide)] at y1
    rw [kS sm 34 (by decide)] at y2
    rw [kS sm 37 (by decide), kS sm 40 (by decide)] at y3
    rw [kS sm 38 (by decide)] at y4
    have bt : f_X8_isPartner (sI St) m A (8 * e + j') (nI 16) = f_X8_isPartner (sI S) m A (8 * e + j') (nI 16) := by
      unfold f_X8_isPartner
      rw [kS sm 18 (by decide)]
    rw [sm.2.2.2.2.2 48 (by decide), em, bt] at y5
    exact ⟨y1, y2, y3, y4, y5⟩
  have bit : f_X6_has (sI S) (Pa (sR S) x e j') (nI 16) = 0 ↔ f_X8_isPartner (sI S) m A (8 * e + j') (nI 16) = 0 := by
    have q := (n0.1 (8 * e + j') (by omega)).1.1.2.2.2.2.2.2.2.2.2.2.2.2.2.2.2.2.2
    rw [show qx (sR S) x (8 * e + j') = Pa (sR S) x e j' from by
      show Pa (sR S) x ((8 * e + j') / 8) ((8 * e + j') % 8) = _
      rw [show (8 * e + j') / 8 = e by omega, show (8 * e + j') % 8 = j' by omega]] at q
    unfold f_X6_has f_X8_isPartner
    rw [q]
  have jm2 : ∀ j, 44 ≤ j → j ≤ 49 → j ≠ 48 → sI S2 m j = sI S m j := fun j h1 h2 h3 => by
    have q : j = 44 ∨ j = 45 ∨ j = 46 ∨ j = 47 ∨ j = 49 := by omega
    rcases q with rfl | rfl | rfl | rfl | rfl <;> exact (sh.2.2.2.2.2 _ (by decide)).trans (em _)
  have xr2 := xr_give (J := sI S) (J' := sI S2) (F := F) (nt := nt) (φ := φ) hL g7 hc he gy.2.2.2.2.2.2 gy.2.2.2.2.2.1 af ch chx le (fun c' e' hc' he' => (frl.2.1 c' e' hc' he').1) (by omega) (t2.trans tP) (congrArg (fun q => q.1) thn) (congrArg (fun q => q.2.1) thn) (congrArg (fun q => q.2.2.2) thn) (by rw [a35, kS sm 35 (by decide)]) my2 ((SM_a sh hM1 (by decide) (by decide)).trans (gk 40 (by decide))) jm2 bit xr0
  have cell : ∀ z' k, sK (pJ S' out 0 z) z' = k → k ≠ 9 ∧ k ≠ 10 ∧ k ≠ 11 → sI S2 z' = sI S' z' := fun z' k hz hk => fz_SM hM1 sh z' (no_ref hM1 hz hk).1 (no_ref hM1 hz hk).2
  have fa3 : FA (pJ S' out 0 z) x (sI (pJ S' out 0 z)) (sI S2) := fa_z hL1 hM1 (fz_SM hM1 sh)
  have xr3 : XRl (sR S') x m A (sI S2) (sI S2) (nt + 1) (F + 1) (fun z => if z = a then F else φ z) := XR_T (S := pJ S' out 0 z) (I := sI S') hL1 (fun c' e' hc' he' => (fr2.2.1 c' e' hc' he').1) fa3 (fun j _ _ => congrFun (cell x 8 hL1.2 (by decide)) j) (fun e' he' k _ => congrFun (cell _ 2 (ly_E hL1 he').2.1 (by decide)) k) (fun _ _ => rfl) (fun _ _ _ => rfl) rfl xr2
  have xs2 : XSs S2 x m A := by
    refine ⟨fun z => if z = a then F else φ z, ?_⟩
    rw [sh.2.2.1, iv.2.2.1, f39, nI_cl (by omega), nI_cl (by omega)]
    exact xr3
  exact K _ S2 ⟨hP2, gq.2, xs2⟩
