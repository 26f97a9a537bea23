/-! the class's public calls, exactly -/
theorem c_system {Q : Option Value → MM → Prop} {X : String → MM → Prop} {S : MM} {b : Nat} {v w : Int32} (hL : LY S b) (ir : IR S) (K1 : SIB v w → X eI S) (K2 : ∀ j, j < 2 → v = nI j → ¬ SIB v w → sI S (En (sR S) b (1 - j)) 1 = w → X eS S) (K : ∀ j, j < 2 → v = nI j → ¬ SIB v w → ¬ sI S (En (sR S) b (1 - j)) 1 = w → KBC Q S (g_X7_system_53 (sI S) (sR S) b j 0 w)) : wX7_system [.ref b, .int v, .int w] S Q X := by
  have th : SIB v w → ∀ lv, wpn (kX7_system Q X) 60 18 lv [] S 0 0 := fun h lv => u_X7_system_18 (And.intro ⟨by decide, by decide⟩ (K1 h))
  refine Exists.intro 61 (u_X7_system_0 ?_)
  unfold bX7_system_0
  refine e_ldI rfl (And.intro ⟨by decide, by decide⟩ (z_isEnd' (fun h => e_ifN (by decide) (fun _ => th (Or.inl h) _) (fun q => absurd rfl q)) (fun j hj ej => e_ifN (by decide) (fun q => absurd q (by decide)) (fun _ => ?_))))
  refine e_ldI rfl (e_cI ⟨fun h => th (Or.inr (Or.inl h)) _, fun h1 => e_ldI rfl (e_cI ⟨fun h2 => ?_, fun h => th (Or.inr (Or.inr h)) _⟩)⟩)
  have nb : ¬ SIB v w := fun q => by
    rcases q with q | q | q
    · exact nbE hj (ej ▸ q)
    · exact h1 q
    · exact q h2
  have K3 := K j hj ej nb
  have KS := K2 j hj ej nb
  subst ej
  refine u_X7_system_28 ?_
  unfold bX7_system_28
  refine e_ldA rfl (e_gR hL.2 (ly_ea hL).1 (e_cN 1 rfl (e_ldI rfl (e_sub (by omega) (e_aR (N := 2) (ly_ea hL).2.1 (ly_ea hL).2.2 (by omega) (by decide) (ly_E hL (show 1 - j < 2 by omega)).1 (e_gE (ly_E hL (show 1 - j < 2 by omega)).2.1 (e_ldI rfl ⟨fun he => And.intro ⟨by decide, by decide⟩ (KS he), fun hn => ?_⟩)))))))
  exact y_X7_system_53 (v := 0) hL hj ir rfl rfl rfl (by omega) (K3 hn)
theorem c_limit {Q : Option Value → MM → Prop} {X : String → MM → Prop} {S : MM} {b : Nat} {v w : Int32} (hL : LY S b) (ir : IR S) (K1 : LIB v w → X eI S) (K : ∀ j, j < 2 → v = nI j → ¬ LIB v w → KBC Q S (g_X7_limit_28 (sI S) (sR S) b j 0 w)) : wX7_limit [.ref b, .int v, .int w] S Q X := by
  have th : LIB v w → ∀ lv, wpn (kX7_limit Q X) 60 18 lv [] S 0 0 := fun h lv => u_X7_limit_18 (And.intro ⟨by decide, by decide⟩ (K1 h))
  refine Exists.intro 61 (u_X7_limit_0 ?_)
  unfold bX7_limit_0
  refine e_ldI rfl (And.intro ⟨by decide, by decide⟩ (z_isEnd' (fun h => e_ifN (by decide) (fun _ => th (Or.inl h) _) (fun q => absurd rfl q)) (fun j hj ej => e_ifN (by decide) (fun q => absurd q (by decide)) (fun _ => ?_))))
  refine e_ldI rfl (e_cI ⟨fun h => th (Or.inr (Or.inl h)) _, fun h1 => e_ldI rfl (e_cI ⟨fun h2 => ?_, fun h => th (Or.inr (Or.inr h)) _⟩)⟩)
  have nb : ¬ LIB v w := fun q => by
    rcases q with q | q | q
    · exact nbE hj (ej ▸ q)
    · exact h1 q
    · exact q h2
  have K3 := K j hj ej nb
  subst ej
  exact y_X7_limit_28 (v := 0) hL hj ir rfl rfl rfl (by omega) K3
theorem c_port {Q : Option Value → MM → Prop} {X : String → MM → Prop} {S : MM} {b : Nat} {v w k p : Int32} (hL : LY S b) (ir : IR S) (K1 : PB v w k p → X eI S) (K : ∀ j i, j < 2 → i < 8 → v = nI j → w = nI i → ¬ PB v w k p → KVC Q S (g_X7_port_39 (sI S) (sR S) b j i 0 0 k p)) : wX7_port [.ref b, .int v, .int w, .int k, .int p] S Q X := by
  have th : PB v w k p → ∀ lv, wpn (kX7_port Q X) 60 29 lv [] S 0 0 := fun h lv => u_X7_port_29 (And.intro ⟨by decide, by decide⟩ (K1 h))
  refine Exists.intro 61 (u_X7_port_0 ?_)
  unfold bX7_port_0
  refine e_ldI rfl (And.intro ⟨by decide, by decide⟩ (z_isEnd' (fun h => e_ifN (by decide) (fun _ => th (Or.inl h) _) (fun q => absurd rfl q)) (fun j hj ej => e_ifN (by decide) (fun q => absurd q (by decide)) (fun _ => ?_))))
  refine e_ldI rfl (And.intro ⟨by decide, by decide⟩ (z_isPort' (fun h => e_ifN (by decide) (fun _ => th (Or.inr (Or.inl h)) _) (fun q => absurd rfl q)) (fun i hi ei => e_ifN (by decide) (fun q => absurd q (by decide)) (fun _ => ?_))))
  refine e_ldI rfl (And.intro ⟨by decide, by decide⟩ (z_isWord' (fun h => e_ifN (by decide) (fun _ => th (Or.inr (Or.inr (Or.inl h))) _) (fun q => absurd rfl q)) (fun k0 k1 => e_ifN (by decide) (fun q => absurd q (by decide)) (fun _ => ?_))))
  refine e_ldI rfl (And.intro ⟨by decide, by decide⟩ (z_isWord' (fun h => e_ifN (by decide) (fun _ => th (Or.inr (Or.inr (Or.inr h))) _) (fun q => absurd rfl q)) (fun p0 p1 => e_ifN (by decide) (fun q => absurd q (by decide)) (fun _ => ?_))))
  have nb : ¬ PB v w k p := fun q => by
    rcases q with q | q | q | q
    · exact nbE hj (ej ▸ q)
    · exact nb8 hi (ei ▸ q)
    · exact q.elim k0 k1
    · exact q.elim p0 p1
  have K3 := K j i hj hi ej ei nb
  subst ej ei
  exact y_X7_port_39 (v := 0) (w := 0) hL hj hi ir rfl rfl rfl rfl rfl (by omega) K3
theorem c_manner {Q : Option Value → MM → Prop} {X : String → MM → Prop} {S : MM} {b : Nat} {v w k p : Int32} (hL : LY S b) (ir : IR S) (K1 : MB v w → X eI S) (K : ∀ j i, j < 2 → i < 8 → v = nI j → w = nI i → ¬ MB v w → KVC Q S (g_X7_manner_24 (sI S) (sR S) b j i 0 0 k p)) : wX7_manner [.ref b, .int v, .int w, .int k, .int p] S Q X := by
  have th : MB v w → ∀ lv, wpn (kX7_manner Q X) 60 14 lv [] S 0 0 := fun h lv => u_X7_manner_14 (And.intro ⟨by decide, by decide⟩ (K1 h))
  refine Exists.intro 61 (u_X7_manner_0 ?_)
  unfold bX7_manner_0
  refine e_ldI rfl (And.intro ⟨by decide, by decide⟩ (z_isEnd' (fun h => e_ifN (by decide) (fun _ => th (Or.inl h) _) (fun q => absurd rfl q)) (fun j hj ej => e_ifN (by decide) (fun q => absurd q (by decide)) (fun _ => ?_))))
  refine e_ldI rfl (And.intro ⟨by decide, by decide⟩ (z_isPort' (fun h => e_ifN (by decide) (fun _ => th (Or.inr h) _) (fun q => absurd rfl q)) (fun i hi ei => e_ifN (by decide) (fun q => absurd q (by decide)) (fun _ => ?_))))
  have nb : ¬ MB v w := fun q => q.elim (fun z => nbE hj (ej ▸ z)) (fun z => nb8 hi (ei ▸ z))
  have K3 := K j i hj hi ej ei nb
  subst ej ei
  exact y_X7_manner_24 (v := 0) (w := 0) hL hj hi ir rfl rfl rfl rfl rfl (by omega) K3
theorem c_lose {Q : Option Value → MM → Prop} {X : String → MM → Prop} {S : MM} {b : Nat} {v w p : Int32} (hL : LY S b) (ir : IR S) (K1 : LB v w p → X eI S) (K : ∀ j i, j < 2 → i < 8 → v = nI j → w = nI i → ¬ LB v w p → KVC Q S (g_X7_lose_34 (sI S) (sR S) b j i 0 p)) : wX7_lose [.ref b, .int v, .int w, .int p] S Q X := by
  have th : LB v w p → ∀ lv, wpn (kX7_lose Q X) 60 24 lv [] S 0 0 := fun h lv => u_X7_lose_24 (And.intro ⟨by decide, by decide⟩ (K1 h))
  refine Exists.intro 61 (u_X7_lose_0 ?_)
  unfold bX7_lose_0
  refine e_ldI rfl (And.intro ⟨by decide, by decide⟩ (z_isEnd' (fun h => e_ifN (by decide) (fun _ => th (Or.inl h) _) (fun q => absurd rfl q)) (fun j hj ej => e_ifN (by decide) (fun q => absurd q (by decide)) (fun _ => ?_))))
  refine e_ldI rfl (And.intro ⟨by decide, by decide⟩ (z_isCable' (fun h => e_ifN (by decide) (fun _ => th (Or.inr (Or.inl h)) _) (fun q => absurd rfl q)) (fun i hi ei => e_ifN (by decide) (fun q => absurd q (by decide)) (fun _ => ?_))))
  refine e_ldI rfl (And.intro (fun h => th (Or.inr (Or.inr (Or.inl h))) _) (fun h0 => e_ldI rfl (e_cI (And.intro (fun h1 => ?_) (fun h1 => th (Or.inr (Or.inr (Or.inr h1))) _)))))
  have nb : ¬ LB v w p := fun q => by
    rcases q with q | q | q
    · exact nbE hj (ej ▸ q)
    · exact nb8 hi (ei ▸ q)
    · exact q.elim h0 (fun z => z h1)
  have K3 := K j i hj hi ej ei nb
  subst ej ei
  exact y_X7_lose_34 (v := 0) hL hj hi ir rfl rfl rfl rfl (by omega) K3
theorem c_light {Q : Option Value → MM → Prop} {X : String → MM → Prop} {S : MM} {b u : Nat} {v : Int32} (hu : u < 2) (hL : LY S b) (ir : IR S) (K1 : b8 v → X eI S) (K2 : ∀ c, c < 8 → v = nI c → (¬ plg (sR S) b c ∨ sI S (Cb (sR S) b c) 3 = nI u) → X eS S) (K : ∀ c, c < 8 → v = nI c → plg (sR S) b c → ¬ sI S (Cb (sR S) b c) 3 = nI u → KVC Q S (g_X7_light_49 (sI S) (sR S) b u c)) : wX7_light [.ref b, .int v, .int (nI u)] S Q X := by
  refine Exists.intro 8 (u_X7_light_0 ?_)
  unfold bX7_light_0
  refine e_ldI rfl (And.intro ⟨by decide, by decide⟩ (z_isCable' (fun h => e_ifN (by decide) (fun _ => And.intro ⟨by decide, by decide⟩ (K1 h)) (fun q => absurd rfl q)) (fun c hc ec => e_ifN (by decide) (fun q => absurd q (by decide)) (fun _ => u_X7_light_17 ?_))))
  have K2' := K2 c hc ec
  have K' := K c hc ec
  subst ec
  have bad : (¬ plg (sR S) b c ∨ sI S (Cb (sR S) b c) 3 = nI u) → ∀ lv, wpn (kX7_light Q X) 6 39 lv [] S 0 0 := fun h lv => u_X7_light_39 (And.intro ⟨by decide, by decide⟩ (K2' h))
  unfold bX7_light_17
  refine e_ldA rfl (e_gR hL.2 (ly_ca hL).1 (e_ldI rfl (e_aR (N := 8) (ly_ca hL).2.1 (ly_ca hL).2.2 hc (by decide) (ly_C hL hc).1 (e_stA (e_ldA lvg_self (And.intro (ly_C hL hc).2.1 (And.intro ⟨by decide, by decide⟩ (x_plg hL hc (fun h => e_ifN (by decide) (fun _ => bad (Or.inl h) _) (fun q => absurd rfl q)) (fun pl => e_ifN (by decide) (fun q => absurd q (by decide)) (fun _ => ?_))))))))))
  refine e_ldA lvg_self (e_gE (ly_C hL hc).2.1 (e_ldI (lvg_ne rfl rfl (by decide)) ⟨fun h => bad (Or.inr h) _, fun h => ?_⟩))
  exact y_X7_light_49 hL hu hc pl ir (lvg_ne rfl rfl (by decide)) (lvg_ne rfl rfl (by decide)) lvg_self (by omega) (K' pl h)
/-! a cable is taken out, put in -/
def TKO (S S' : MM) (b c p0 p1 : Nat) : Prop := sK S' = sK S ∧ sN S' = sN S ∧ sJ S' = sJ S ∧ (∀ z, z ≠ ppd (sR S) b c → sR S' z = sR S z) ∧ (sR S' (ppd (sR S) b c) 0 = none ∧ sR S' (ppd (sR S) b c) 1 = none) ∧ sI S' = up2 (up2 (f_X7_switchOff (sI S) (sR S) b c) p0 2 (-1)) p1 2 (-1) ∧ ∀ j, j ≠ 0 → j ≠ 1 → sR S' (ppd (sR S) b c) j = sR S (ppd (sR S) b c) j
theorem c_takeOut {Q : Option Value → MM → Prop} {S : MM} {b c : Nat} (hL : LY S b) (hc : c < 8) (ir : IR S) (K0 : ¬ plg (sR S) b c → Q none S) (K1 : ∀ p0 p1 S', sR S (ppd (sR S) b c) 0 = some p0 → sR S (ppd (sR S) b c) 1 = some p1 → TY S' → IR S' → TKO S S' b c p0 p1 → Q none S') : wX7_takeOut [.ref b, .ref (Cb (sR S) b c)] S Q := by
  have ka := (ly_C hL hc).2.1
  have rp := (ly_pp hL hc).1
  have kp := (ly_pp hL hc).2.1
  have np := (ly_pp hL hc).2.2
  refine Exists.intro 6 (u_X7_takeOut_0 ?_)
  unfold bX7_takeOut_0
  refine e_ldA rfl (And.intro ka (And.intro ⟨by decide, by decide⟩ (x_plg hL hc (fun h => ?_) (fun pl => ?_))))
  · exact e_ifN (by decide) (fun _ => e_rV (K0 h)) (fun h => absurd rfl h)
  · have r0 := opt_get pl.1
    have r1 := opt_get pl.2
    generalize (sR S (ppd (sR S) b c) 0).getD 0 = p0 at r0
    generalize (sR S (ppd (sR S) b c) 1).getD 0 = p1 at r1
    refine e_ifN (by decide) (fun h => absurd h (by decide)) (fun _ => u_X7_takeOut_8 ?_)
    unfold bX7_takeOut_8
    refine e_ldA rfl (e_ldA rfl (And.intro hL.2 (And.intro ⟨by decide, by decide⟩ (x_X7_switchOff hL hc pl ir (fun ir1 => ?_)))))
    have K1 := fun S' => K1 p0 p1 S' r0 r1
    unfold TKO at K1
    generalize f_X7_switchOff (sI S) (sR S) b c = F1 at ir1 K1 ⊢
    refine e_cN 0 rfl (e_stI ?_)
    refine q_to15 (S := wI S F1) (x := b) (a := Cb (sR S) b c) (j := 0) hL.1 ir1 (lvg_ne rfl rfl (by decide)) (lvg_ne rfl rfl (by decide)) lvg_self ka rp kp np (by decide) r0 (fun lv2 S2 a0 a1 a2 e2 hT2 ir2 g2 => ?_)
    have kk2 : sK S2 = sK S := by rw [e2]; rfl
    have nn2 : sN S2 = sN S := by rw [e2]; rfl
    have nap : Cb (sR S) b c ≠ ppd (sR S) b c := ne_kd ka kp (by decide)
    have rr2 : ∀ z, z ≠ ppd (sR S) b c → sR S2 z = sR S z := fun z hz => by rw [e2, sR_pR, up2_row hz]; rfl
    have r12 : sR S2 (ppd (sR S) b c) 1 = some p1 := by rw [e2, sR_pR, up2_ne (by simp)]; exact r1
    have r02 : sR S2 (ppd (sR S) b c) 0 = none := by rw [e2, sR_pR, up2_self]
    refine q_to15 (x := b) (a := Cb (sR S) b c) (j := 1) hT2 ir2 a0 a1 a2 (by rw [kk2]; exact ka) (by rw [rr2 _ nap]; exact rp) (by rw [kk2]; exact kp) (by rw [nn2]; exact np) (by decide) r12 (fun lv3 S3 b0 b1 b2 e3 hT3 ir3 g3 => ?_)
    refine u_X7_takeOut_15 ?_
    unfold bX7_takeOut_15
    refine e_ldI b2 (e_cN 2 rfl (e_ge (by decide) (by decide) (fun _ => u_X7_takeOut_43 ?_) (fun h => absurd h (by decide))))
    unfold bX7_takeOut_43
    have i2 : sI S2 = up2 F1 p0 2 (-1) := by rw [e2]; rfl
    have i3 : sI S3 = up2 (sI S2) p1 2 (-1) := by rw [e3]; rfl
    refine e_rV (K1 S3 hT3 ir3 ⟨by rw [e3]; exact kk2, by rw [e3]; exact nn2, by rw [e3, e2]; rfl, fun z hz => by rw [e3, sR_pR, up2_row hz, sR_pI]; exact rr2 z hz, ⟨by rw [e3, sR_pR, up2_ne (by simp), sR_pI]; exact r02, by rw [e3, sR_pR, up2_self]⟩, by rw [i3, i2], fun j h0 h1 => by rw [e3, sR_pR, up2_ne (fun z => h1 z.2), sR_pI, e2, sR_pR, up2_ne (fun z => h0 z.2)]; rfl⟩)
theorem LY_ne {S S' : MM} {b : Nat} (hL : LY S b) (hk : sK S' = sK S) (hT : TY S') : LY S' b := ⟨hT, by rw [hk]; exact hL.2⟩
theorem c_pull {Q : Option Value → MM → Prop} {X : String → MM → Prop} {S : MM} {b : Nat} {v : Int32} (hL : LY S b) (ir : IR S) (K1 : b8 v → X eI S) (K2 : ∀ c, c < 8 → v = nI c → ¬ plg (sR S) b c → X eS S) (K : ∀ c p0 p1 S1, c < 8 → v = nI c → sR S (ppd (sR S) b c) 0 = some p0 → sR S (ppd (sR S) b c) 1 = some p1 → TY S1 → TKO S S1 b c p0 p1 → KVC Q S1 (f_X7_noteChange (sI S1) (sR S1) b)) : wX7_pull [.ref b, .int v] S Q X := by
  refine Exists.intro 4 (u_X7_pull_0 ?_)
  unfold bX7_pull_0
  refine e_ldI rfl (And.intro ⟨by decide, by decide⟩ (z_isCable' (fun h => e_ifN (by decide) (fun _ => And.intro ⟨by decide, by decide⟩ (K1 h)) (fun q => absurd rfl q)) (fun c hc ec => e_ifN (by decide) (fun q => absurd q (by decide)) (fun _ => u_X7_pull_17 ?_))))
  have K2' := K2 c hc ec
  have K' := fun p0 p1 S' => K c p0 p1 S' hc ec
  subst ec
  unfold bX7_pull_17
  refine e_ldA rfl (e_gR hL.2 (ly_ca hL).1 (e_ldI rfl (e_aR (N := 8) (ly_ca hL).2.1 (ly_ca hL).2.2 hc (by decide) (ly_C hL hc).1 (And.intro (ly_C hL hc).2.1 (And.intro ⟨by decide, by decide⟩ (x_plg hL hc (fun h => e_ifN (by decide) (fun _ => And.intro ⟨by decide, by decide⟩ (K2' h)) (fun q => absurd rfl q)) (fun pl => e_ifN (by decide) (fun q => absurd q (by decide)) (fun _ => u_X7_pull_39 ?_))))))))
  unfold bX7_pull_39
  refine e_ldA rfl (e_ldA rfl (e_gR hL.2 (ly_ca hL).1 (e_ldI rfl (e_aR (N := 8) (ly_ca hL).2.1 (ly_ca hL).2.2 hc (by decide) (ly_C hL hc).1 (And.intro hL.2 (And.intro ⟨by decide, by decide⟩ (c_takeOut hL hc ir (fun h => absurd pl h) (fun q0 q1 S1 s0 s1 hT1 ir1 tk => ?_))))))))
  have hL1 := LY_ne hL tk.1 hT1
  exact e_ldA rfl (And.intro hL1.2 (And.intro ⟨by decide, by decide⟩ (x_X7_noteChange hL1 ir1 (fun ir2 => e_rV (K' q0 q1 S1 s0 s1 hT1 tk ir2)))))
