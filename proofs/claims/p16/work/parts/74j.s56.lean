/-! SIMULATION 56: frames of a cable that goes dark -/
/-- the frames' relation, carried over: lanes are the same, or empty -/
theorem FR_g {S : MM} {b cl nt n' : Nat} {A : Nat → Nat} {I I' J J' : Mm} (hL : LY S b) (z3 : ∀ z, (sK S z = 3 ∨ (sK S z = 10 ∧ sN S z = 200)) → I' z = I z) (en : ∀ e, e < 2 → ∀ k, (k = 3 ∨ k = 5 ∨ k = 6) → I' (En (sR S) b e) k = I (En (sR S) b e) k) (jk : ∀ k ∈ ([34, 35, 36, 37, 41, 42] : List Nat), J' (A k) = J (A k)) (lanes : ∀ c e, c < 8 → e < 2 → I' (Ln (sR S) b c e) 4 = I (Ln (sR S) b c e) 4 ∧ ((I' (Ln (sR S) b c e) 5 = I (Ln (sR S) b c e) 5 ∧ (TG J' A n').filter (isG c e) = (TG J A nt).filter (isG c e) ∧ (CF I (sR S) b c e = [] ∨ bd J' A c = bd J A c)) ∨ (I' (Ln (sR S) b c e) 5 = nI 0 ∧ (TG J' A n').filter (isG c e) = []))) (h : FRl (sR S) b A I J cl nt) : FRl (sR S) b A I' J' cl n' := by
  obtain ⟨fl, fk, fe⟩ := h
  have row : ∀ c e, c < 8 → e < 2 → ∀ z ∈ CF I (sR S) b c e, I' z = I z := fun c e hc he z hz => z3 z (Or.inl (CF_k hL hc he (fk c e hc he).1 z hz))
  have e2 : fq5 J' A = fq5 J A := by
    funext q
    unfold fq5
    rw [jk 35 (by decide), jk 36 (by decide)]
  have nil : ∀ c e, I' (Ln (sR S) b c e) 5 = nI 0 → CF I' (sR S) b c e = [] := fun c e q => by unfold CF; rw [q]; rfl
  refine ⟨fun c e hc he => ?_, fun c e hc he => ?_, fun e he => ?_⟩
  · obtain ⟨l4, ⟨l5, t, _⟩ | ⟨l5, t⟩⟩ := lanes c e hc he
    · rw [CF_e l4 l5, t, e2]
      have e1 : (CF I (sR S) b c e).map (fr5 I') = (CF I (sR S) b c e).map (fr5 I) := List.map_congr_left (fun z hz => by unfold fr5; rw [row c e hc he z hz])
      rw [e1]
      exact fl c e hc he
    · rw [nil c e l5, t]
      rfl
  · obtain ⟨l4, ⟨l5, t, q⟩ | ⟨l5, t⟩⟩ := lanes c e hc he
    · refine ⟨FOK_e l4 l5 (fk c e hc he).1, ?_⟩
      rw [CF_e l4 l5]
      rcases q with q | q
      · rw [q]
        exact ⟨fun z hz => absurd hz List.not_mem_nil, List.Pairwise.nil⟩
      · rw [q]
        exact DF_e (fk c e hc he).2 (fun z hz => by rw [row c e hc he z hz])
    · refine ⟨⟨by rw [l4]; exact (fk c e hc he).1.1, ⟨0, by decide, l5⟩, fun k hk => ?_⟩, ?_⟩
      · rw [l5, nI_cl (by decide)] at hk
        exact absurd hk (by omega)
      · rw [nil c e l5]
        exact ⟨fun z hz => absurd hz List.not_mem_nil, List.Pairwise.nil⟩
  · obtain ⟨s, q1, q2, q3⟩ := fe e he
    exact ⟨s, EKc_e q1 (fun k hk => en e he k hk) (z3 _ (Or.inr (ly_ka hL he).2)), EKm_e q2 (by rw [jk 42 (by decide)]) (fun j => by rw [jk 41 (by decide)]), q3⟩
/-- the ways to the frames go by no array of ports -/
theorem FR_R {S : MM} {R' : Nat → Nat → Option Nat} {b cl nt : Nat} {A : Nat → Nat} {I J : Mm} (hL : LY S b) (hr : ∀ z, sK S z ≠ 0 → sK S z ≠ 17 → R' z = sR S z) (h : FRl (sR S) b A I J cl nt) : FRl R' b A I J cl nt := by
  have r : ∀ z k, sK S z = k → k ≠ 17 → k ≠ 0 → R' z = sR S z := fun z k hz h1 h0 => hr z (by rw [hz]; exact h0) (by rw [hz]; exact h1)
  have e0 : ead R' b = ead (sR S) b := by unfold ead; rw [r b 8 hL.2 (by decide) (by decide)]
  have c0 : cad R' b = cad (sR S) b := by unfold cad; rw [r b 8 hL.2 (by decide) (by decide)]
  have E : ∀ e, En R' b e = En (sR S) b e := fun e => by unfold En; rw [e0, r _ 13 (ly_ea hL).2.1 (by decide) (by decide)]
  have C : ∀ c, Cb R' b c = Cb (sR S) b c := fun c => by unfold Cb; rw [c0, r _ 12 (ly_ca hL).2.1 (by decide) (by decide)]
  have ld : ∀ c, c < 8 → lad R' b c = lad (sR S) b c := fun c hc => by unfold lad; rw [C, r _ 1 (ly_C hL hc).2.1 (by decide) (by decide)]
  have N : ∀ c e, c < 8 → e < 2 → Ln R' b c e = Ln (sR S) b c e := fun c e hc he => by unfold Ln; rw [ld c hc, r _ 15 (ly_la hL hc).2.1 (by decide) (by decide)]
  have Fa : ∀ c e, c < 8 → e < 2 → fad R' b c e = fad (sR S) b c e := fun c e hc he => by unfold fad; rw [N c e hc he, r _ 4 (ly_N hL hc he).2.1 (by decide) (by decide)]
  have Ff : ∀ c e, c < 8 → e < 2 → R' (fad R' b c e) = sR S (fad (sR S) b c e) := fun c e hc he => by rw [Fa c e hc he, r _ 14 (ly_fa hL hc he).2.1 (by decide) (by decide)]
  have Ka : ∀ e, e < 2 → kad R' b e = kad (sR S) b e := fun e he => by unfold kad; rw [E, r _ 2 (ly_E hL he).2.1 (by decide) (by decide)]
  have cf : ∀ c e, c < 8 → e < 2 → CF I R' b c e = CF I (sR S) b c e := fun c e hc he => by unfold CF fax; rw [N c e hc he, Ff c e hc he]
  obtain ⟨fl, fk, fe⟩ := h
  refine ⟨fun c e hc he => by rw [cf c e hc he]; exact fl c e hc he, fun c e hc he => ⟨?_, by rw [cf c e hc he]; exact (fk c e hc he).2⟩, fun e he => ?_⟩
  · unfold FOK
    rw [N c e hc he, Ff c e hc he]
    exact (fk c e hc he).1
  · obtain ⟨s, q1, q2, q3⟩ := fe e he
    refine ⟨s, ?_, q2, q3⟩
    unfold EKc
    rw [E, Ka e he]
    exact q1
theorem fa_on {S : MM} {b c : Nat} {I0 I : Mm} (hL : LY S b) (hc : c < 8) (pl : plg (sR S) b c) (h : FA S b I0 I) : FA S b I0 (f_X7_switchOn I (sR S) b c) := by
  have q : ∀ r i (I : Mm), i + r = 2 → FA S b I0 I → FA S b I0 (g_X7_switchOn_7 (sR S) b c r i I) := by
    intro r
    induction r with
    | zero => intro i I _ h; exact h
    | succ r ih =>
      intro i I hi h
      have kp : sK S ((sR S (ppd (sR S) b c) i).getD 0) = 6 := ly_nn hL.1 (ly_pp hL hc).2.1 rfl (plg_i pl (by omega))
      have kq : sK S ((sR S ((sR S (ppd (sR S) b c) i).getD 0) 1).getD 0) = 7 := (ly_f hL.1 kp (show rf 6 1 = some (7, 0) from rfl)).2.1
      rw [g_X7_switchOn_7]
      exact ih _ _ (by omega) (FA.o hL h (fun z k hz hk => n_X5_becomeLit (ne_k hz kp (by omega)) (ne_k hz kq (by omega))))
  unfold f_X7_switchOn
  exact q 2 0 _ rfl (h.w hL (ly_C hL hc).2.1 (by omega))
/-- what going dark makes of the frames: the cable's lanes are empty -/
def FAx (S : MM) (b c : Nat) (I I' : Mm) : Prop := (∀ z, (sK S z = 3 ∨ (sK S z = 10 ∧ sN S z = 200)) → I' z = I z) ∧ (∀ e, e < 2 → ∀ k, (k = 3 ∨ k = 5 ∨ k = 6) → I' (En (sR S) b e) k = I (En (sR S) b e) k) ∧ ∀ c' e', c' < 8 → e' < 2 → I' (Ln (sR S) b c' e') 4 = I (Ln (sR S) b c' e') 4 ∧ (c' ≠ c → I' (Ln (sR S) b c' e') 5 = I (Ln (sR S) b c' e') 5) ∧ (c' = c → I' (Ln (sR S) b c' e') 5 = nI 0)
theorem off_step {S : MM} {b c e p o q : Nat} {I : Mm} {v : Int32} (hL : LY S b) (hO : OC S) (hc : c < 8) (he : e < 2) (kp : sK S p = 6) (ko : sK S o = 7) (kq : sK S q = 7) : (∀ z, (sK S z = 3 ∨ (sK S z = 10 ∧ sN S z = 200)) → f_X5_becomeDark (f_X1_moveTo (f_X3_clear (up2 I b 5 v) (sR S) b c e) (En (sR S) b e) p o (nI 0)) p q z = I z) ∧ (∀ e', e' < 2 → ∀ k, (k = 3 ∨ k = 5 ∨ k = 6) → f_X5_becomeDark (f_X1_moveTo (f_X3_clear (up2 I b 5 v) (sR S) b c e) (En (sR S) b e) p o (nI 0)) p q (En (sR S) b e') k = I (En (sR S) b e') k) ∧ ∀ c' e', c' < 8 → e' < 2 → f_X5_becomeDark (f_X1_moveTo (f_X3_clear (up2 I b 5 v) (sR S) b c e) (En (sR S) b e) p o (nI 0)) p q (Ln (sR S) b c' e') 4 = I (Ln (sR S) b c' e') 4 ∧ f_X5_becomeDark (f_X1_moveTo (f_X3_clear (up2 I b 5 v) (sR S) b c e) (En (sR S) b e) p o (nI 0)) p q (Ln (sR S) b c' e') 5 = if c' = c ∧ e' = e then nI 0 else I (Ln (sR S) b c' e') 5 := by
  have kE := (ly_E hL he).2.1
  have kN := (ly_N hL hc he).2.1
  have row : ∀ z k, sK S z = k → k ≠ 6 → k ≠ 7 → k ≠ 2 → f_X5_becomeDark (f_X1_moveTo (f_X3_clear (up2 I b 5 v) (sR S) b c e) (En (sR S) b e) p o (nI 0)) p q z = f_X3_clear (up2 I b 5 v) (sR S) b c e z := fun z k hz h6 h7 h2 => by
    rw [n_X5_becomeDark (ne_k hz kp h6) (ne_k hz kq h7), n_X1_moveTo (ne_k hz kp h6) (ne_k hz ko h7) (ne_k hz kE h2)]
  have clr : ∀ z k, sK S z = k → k ≠ 4 → k ≠ 8 → f_X3_clear (up2 I b 5 v) (sR S) b c e z = I z := fun z k hz h4 h8 => by
    unfold f_X3_clear
    show up2 (up2 (up2 I b 5 v) (Ln (sR S) b c e) 2 (nI 0)) (Ln (sR S) b c e) 5 (nI 0) z = I z
    rw [up2_row (ne_k hz kN h4), up2_row (ne_k hz kN h4), up2_row (ne_k hz hL.2 h8)]
  refine ⟨fun z hz => ?_, fun e' he' k hk => ?_, fun c' e' hc' he' => ?_⟩
  · rcases hz with z3 | z3
    · rw [row z 3 z3 (by decide) (by decide) (by decide), clr z 3 z3 (by decide) (by decide)]
    · rw [row z 10 z3.1 (by decide) (by decide) (by decide), clr z 10 z3.1 (by decide) (by decide)]
  · have kE' := (ly_E hL he').2.1
    rw [n_X5_becomeDark (ne_k kE' kp (by decide)) (ne_k kE' kq (by decide))]
    by_cases z : e' = e
    · subst z
      rw [(rr_X1_moveTo (ne_k kE kp (by decide)) (ne_k kE ko (by decide)) (ne_k kp ko (by decide))).2.2, r_mv3 (by omega), clr _ 2 kE (by decide) (by decide)]
    · rw [n_X1_moveTo (ne_k kE' kp (by decide)) (ne_k kE' ko (by decide)) (fun y => z (i_E hL hO he' he y)), clr _ 2 kE' (by decide) (by decide)]
  · have kN' := (ly_N hL hc' he').2.1
    rw [row _ 4 kN' (by decide) (by decide) (by decide)]
    unfold f_X3_clear
    show up2 (up2 (up2 I b 5 v) (Ln (sR S) b c e) 2 (nI 0)) (Ln (sR S) b c e) 5 (nI 0) (Ln (sR S) b c' e') 4 = _ ∧ up2 (up2 (up2 I b 5 v) (Ln (sR S) b c e) 2 (nI 0)) (Ln (sR S) b c e) 5 (nI 0) (Ln (sR S) b c' e') 5 = _
    have nb : Ln (sR S) b c' e' ≠ b := ne_k kN' hL.2 (by decide)
    refine ⟨by rw [up2_ne (fun y => absurd y.2 (by decide)), up2_ne (fun y => absurd y.2 (by decide)), up2_row nb], ?_⟩
    by_cases z : c' = c ∧ e' = e
    · rw [if_pos z, z.1, z.2, up2_self]
    · have nn : Ln (sR S) b c' e' ≠ Ln (sR S) b c e := fun y => z (i_Ln hL hO hc' hc he' he y)
      rw [if_neg z, up2_row nn, up2_row nn, up2_row nb]
theorem fx_off {S : MM} {b c : Nat} {I : Mm} (hL : LY S b) (hO : OC S) (hc : c < 8) (pl : plg (sR S) b c) : FAx S b c I (f_X7_switchOff I (sR S) b c) := by
  have kp : ∀ i, i < 2 → sK S ((sR S (ppd (sR S) b c) i).getD 0) = 6 := fun i hi => ly_nn hL.1 (ly_pp hL hc).2.1 rfl (plg_i pl hi)
  have ko : ∀ i, i < 2 → sK S ((sR S ((sR S (ppd (sR S) b c) i).getD 0) 0).getD 0) = 7 := fun i hi => (ly_f hL.1 (kp i hi) (show rf 6 0 = some (7, 0) from rfl)).2.1
  have kq : ∀ i, i < 2 → sK S ((sR S ((sR S (ppd (sR S) b c) i).getD 0) 1).getD 0) = 7 := fun i hi => (ly_f hL.1 (kp i hi) (show rf 6 1 = some (7, 0) from rfl)).2.1
  have kC := (ly_C hL hc).2.1
  unfold f_X7_switchOff
  try dsimp only
  rw [g_X7_switchOff_7, g_X7_switchOff_7, g_X7_switchOff_7]
  try dsimp only
  have c0 : ∀ z k, sK S z = k → k ≠ 1 → up2 I (Cb (sR S) b c) 3 (nI 0) z = I z := fun z k hz h1 => up2_row (ne_k hz kC h1)
  generalize up2 I (Cb (sR S) b c) 3 (nI 0) = I0 at c0 ⊢
  obtain ⟨a1, a2, a3⟩ := off_step (I := I0) (v := I0 b 5 + nI (I0 (Ln (sR S) b c 0) 5).toNatClampNeg) hL hO hc (show 0 < 2 by decide) (kp 0 (by decide)) (ko 0 (by decide)) (kq 0 (by decide))
  generalize f_X5_becomeDark (f_X1_moveTo (f_X3_clear (up2 I0 b 5 (I0 b 5 + nI (I0 (Ln (sR S) b c 0) 5).toNatClampNeg)) (sR S) b c 0) (En (sR S) b 0) ((sR S (ppd (sR S) b c) 0).getD 0) ((sR S ((sR S (ppd (sR S) b c) 0).getD 0) 0).getD 0) (nI 0)) ((sR S (ppd (sR S) b c) 0).getD 0) ((sR S ((sR S (ppd (sR S) b c) 0).getD 0) 1).getD 0) = I1 at a1 a2 a3 ⊢
  obtain ⟨b1, b2, b3⟩ := off_step (I := I1) (v := I1 b 5 + nI (I1 (Ln (sR S) b c 1) 5).toNatClampNeg) hL hO hc (show 1 < 2 by decide) (kp 1 (by decide)) (ko 1 (by decide)) (kq 1 (by decide))
  show FAx S b c I (f_X5_becomeDark (f_X1_moveTo (f_X3_clear (up2 I1 b 5 (I1 b 5 + nI (I1 (Ln (sR S) b c 1) 5).toNatClampNeg)) (sR S) b c 1) (En (sR S) b 1) ((sR S (ppd (sR S) b c) 1).getD 0) ((sR S ((sR S (ppd (sR S) b c) 1).getD 0) 0).getD 0) (nI 0)) ((sR S (ppd (sR S) b c) 1).getD 0) ((sR S ((sR S (ppd (sR S) b c) 1).getD 0) 1).getD 0))
  generalize f_X5_becomeDark (f_X1_moveTo (f_X3_clear (up2 I1 b 5 (I1 b 5 + nI (I1 (Ln (sR S) b c 1) 5).toNatClampNeg)) (sR S) b c 1) (En (sR S) b 1) ((sR S (ppd (sR S) b c) 1).getD 0) ((sR S ((sR S (ppd (sR S) b c) 1).getD 0) 0).getD 0) (nI 0)) ((sR S (ppd (sR S) b c) 1).getD 0) ((sR S ((sR S (ppd (sR S) b c) 1).getD 0) 1).getD 0) = I2 at b1 b2 b3 ⊢
  refine ⟨fun z hz => (b1 z hz).trans ((a1 z hz).trans ?_), fun e he k hk => (b2 e he k hk).trans ((a2 e he k hk).trans (by rw [c0 _ 2 (ly_E hL he).2.1 (by decide)])), fun c' e' hc' he' => ⟨(b3 c' e' hc' he').1.trans ((a3 c' e' hc' he').1.trans (by rw [c0 _ 4 (ly_N hL hc' he').2.1 (by decide)])), fun n => ?_, fun y => ?_⟩⟩
  · rcases hz with q | q
    · exact c0 z 3 q (by decide)
    · exact c0 z 10 q.1 (by decide)
  · rw [(b3 c' e' hc' he').2, if_neg (fun y => n y.1), (a3 c' e' hc' he').2, if_neg (fun y => n y.1), c0 _ 4 (ly_N hL hc' he').2.1 (by decide)]
  · subst y
    rw [(b3 c' e' hc' he').2]
    by_cases q : e' = 1
    · rw [if_pos ⟨rfl, q⟩]
    · rw [if_neg (fun y => q y.2), (a3 c' e' hc' he').2, if_pos ⟨rfl, by omega⟩]
theorem FAx.fa {S : MM} {b c : Nat} {I I1 I2 : Mm} (h : FAx S b c I I1) (g : FA S b I1 I2) : FAx S b c I I2 := ⟨fun z hz => (g.1 z hz).trans (h.1 z hz), fun e he k hk => (g.2.2 e he k hk).trans (h.2.1 e he k hk), fun c' e' hc' he' => ⟨(g.2.1 c' e' hc' he').1.trans (h.2.2 c' e' hc' he').1, fun n => (g.2.1 c' e' hc' he').2.trans ((h.2.2 c' e' hc' he').2.1 n), fun n => (g.2.1 c' e' hc' he').2.trans ((h.2.2 c' e' hc' he').2.2 n)⟩⟩
/-- a cable goes dark on both sides -/
theorem FR_cut {S : MM} {b c cl nt n' : Nat} {A : Nat → Nat} {I I' J J' : Mm} (hL : LY S b) (hc : c < 8) (fx : FAx S b c I I') (jk : ∀ k ∈ ([34, 35, 36, 37, 41, 42] : List Nat), J' (A k) = J (A k)) (jb : ∀ c', c' < 8 → c' ≠ c → bd J' A c' = bd J A c') (tg : TG J' A n' = (TG J A nt).filter (nc c)) (h : FRl (sR S) b A I J cl nt) : FRl (sR S) b A I' J' cl n' := by
  refine FR_g hL fx.1 fx.2.1 jk (fun c' e hc' he => ⟨(fx.2.2 c' e hc' he).1, ?_⟩) h
  by_cases q : c' = c
  · refine Or.inr ⟨(fx.2.2 c' e hc' he).2.2 q, ?_⟩
    rw [tg, q]
    refine List.filter_eq_nil_iff.mpr (fun p hp z => ?_)
    have h1 := (List.mem_filter.mp hp).2
    rw [show nc c p = false from by unfold nc; rw [decide_eq_true (of_decide_eq_true z).1]; rfl] at h1
    exact absurd h1 (by decide)
  · refine Or.inl ⟨(fx.2.2 c' e hc' he).2.1 q, ?_, Or.inr (jb c' hc' q)⟩
    rw [tg, List.filter_filter]
    refine List.filter_congr (fun p _ => ?_)
    by_cases z : isG c' e p = true
    · have : nc c p = true := by
        unfold nc
        rw [decide_eq_false (fun y => q (nI_inj (by omega) (by omega) ((of_decide_eq_true z).1.symm.trans y)))]
        rfl
      rw [this, Bool.and_true]
    · have z' : isG c' e p = false := by simpa using z
      rw [z', Bool.false_and]
