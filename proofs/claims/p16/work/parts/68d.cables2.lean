theorem CCh_SH {W : List Nat} {S S1 S2 : MM} {a pp q0 q1 : Nat} {u w : Int32} {r0 r1 : Option Nat} (ka : sK S a = 1) (k0 : sK S q0 = 6) (k1 : sK S q1 = 6) (h : CCh S S1 a pp u q0 q1 w r0 r1) (s : SH W S1 S2) (h3 : 23 ∉ W) (h4 : 24 ∉ W) (hf : ∀ k ∈ W, fo k = false) : CCh S S2 a pp u q0 q1 w r0 r1 := by
  obtain ⟨c1, c2, c3, c4, c5, c6, c7, c8, c9, c10, c11⟩ := h
  have i3 : ∀ b, sK S b = 1 → sI S2 b 3 = sI S1 b 3 := fun b hb => SH_i (kd := 1) s (by rw [c1]; exact hb) (by decide) h3 rfl
  have i2 : ∀ b, sK S b = 6 → sI S2 b 2 = sI S1 b 2 := fun b hb => SH_i (kd := 6) s (by rw [c1]; exact hb) (by decide) h4 rfl
  exact ⟨s.1.trans c1, s.2.1.trans c2, fun b hb => by rw [s.2.2.1]; exact c3 b hb, by rw [s.2.2.1]; exact c4, by rw [s.2.2.1]; exact c5, fun b hb hn => (i3 b hb).trans (c6 b hb hn), (i3 a ka).trans c7, fun q hq h0 h1 => (i2 q hq).trans (c8 q hq h0 h1), (i2 q0 k0).trans c9, (i2 q1 k1).trans c10, fun b hb => (SH_fo s hf (by rw [wk_eq c1 c2]; exact hb)).trans (c11 b hb)⟩
/-- the cables and the ports: where they lie -/
def CLy (S : MM) (x : Nat) (ca pp : Nat → Nat) : Prop := ∃ aC, sR S x 1 = some aC ∧ ∀ c, c < 8 → sR S aC c = some (ca c) ∧ sR S (ca c) 0 = some (pp c)
def PLy (S : MM) (x : Nat) (pt : Nat → Nat → Nat) : Prop := ∃ aE, sR S x 0 = some aE ∧ ∀ e, e < 2 → ∃ en pa, sR S aE e = some en ∧ sR S en 0 = some pa ∧ ∀ p, p < 8 → sR S pa p = some (pt e p)
theorem CLy_k {S : MM} {x : Nat} {ca pp : Nat → Nat} (hT : TY S) (kx : sK S x = 8) (h : CLy S x ca pp) : ∃ aC, sR S x 1 = some aC ∧ sK S aC = 12 ∧ sN S aC = 8 ∧ ∀ c, c < 8 → sR S aC c = some (ca c) ∧ sK S (ca c) = 1 ∧ sR S (ca c) 0 = some (pp c) ∧ sK S (pp c) = 17 ∧ sN S (pp c) = 2 := by
  obtain ⟨aC, r, h⟩ := h
  obtain ⟨b, b1, b2, b3⟩ := hT.1 x 8 1 12 8 kx rfl
  cases Option.some.inj (b1.symm.trans r)
  refine ⟨aC, r, b2, b3, fun c hc => ?_⟩
  obtain ⟨h1, h2⟩ := h c hc
  obtain ⟨d, d1, d2, d3⟩ := hT.2.1 aC 12 8 1 c b2 b3 rfl hc
  cases Option.some.inj (d1.symm.trans h1)
  obtain ⟨e, e1, e2, e3⟩ := hT.1 (ca c) 1 0 17 2 d2 rfl
  cases Option.some.inj (e1.symm.trans h2)
  exact ⟨h1, d2, h2, e2, e3⟩
theorem PLy_k {S : MM} {x : Nat} {pt : Nat → Nat → Nat} (hT : TY S) (kx : sK S x = 8) (h : PLy S x pt) : ∃ aE, sR S x 0 = some aE ∧ sK S aE = 13 ∧ sN S aE = 2 ∧ ∀ e, e < 2 → ∃ en pa, sR S aE e = some en ∧ sK S en = 2 ∧ sR S en 0 = some pa ∧ sK S pa = 17 ∧ sN S pa = 8 ∧ ∀ p, p < 8 → sR S pa p = some (pt e p) ∧ sK S (pt e p) = 6 := by
  obtain ⟨aE, r, h⟩ := h
  obtain ⟨b, b1, b2, b3⟩ := hT.1 x 8 0 13 2 kx rfl
  cases Option.some.inj (b1.symm.trans r)
  refine ⟨aE, r, b2, b3, fun e he => ?_⟩
  obtain ⟨en, pa, h1, h2, h3⟩ := h e he
  obtain ⟨d, d1, d2, d3⟩ := hT.2.1 aE 13 2 2 e b2 b3 rfl he
  cases Option.some.inj (d1.symm.trans h1)
  obtain ⟨g, g1, g2, g3⟩ := hT.1 en 2 0 17 8 d2 rfl
  cases Option.some.inj (g1.symm.trans h2)
  refine ⟨en, pa, h1, d2, h2, g2, g3, fun p hp => ?_⟩
  obtain ⟨i, i1, i2, i3⟩ := hT.2.1 pa 17 8 6 p g2 g3 rfl hp
  cases Option.some.inj (i1.symm.trans (h3 p hp))
  exact ⟨h3 p hp, i2⟩
theorem x_pull {Q : Option Value → MM → Prop} {X : String → MM → Prop} {S0 : MM} {x : Nat} {ca pp : Nat → Nat} {v : Int32} (hT : TY S0) (ir : IR S0) (kx : sK S0 x = 8) (hL : CLy S0 x ca pp) (K1 : b8 v → X eI S0) (K2 : ∀ c, c < 8 → v = nI c → (sR S0 (pp c) 0 = none ∨ sR S0 (pp c) 1 = none) → X eS S0) (K : ∀ c p0 p1 S', c < 8 → v = nI c → sR S0 (pp c) 0 = some p0 → sR S0 (pp c) 1 = some p1 → TY S' → IR S' → CCh S0 S' (ca c) (pp c) (nI 0) p0 p1 (-1) none none → Q none S') : wX7_pull [.ref x, .int v] S0 Q X := by
  obtain ⟨aC, rC, kC, nC, hc8⟩ := CLy_k hT kx hL
  refine Exists.intro 4 (u_X7_pull_0 ?_)
  unfold bX7_pull_0
  refine e_ldI rfl (And.intro ⟨by decide, by decide⟩ (z_isCable' (fun h => e_ifN (by decide) (fun _ => And.intro ⟨by decide, by decide⟩ (K1 h)) (fun q => absurd rfl q)) (fun c hc ec => e_ifN (by decide) (fun q => absurd q (by decide)) (fun _ => u_X7_pull_17 ?_))))
  obtain ⟨rc, kc, rp, kp, np⟩ := hc8 c hc
  have K2' := K2 c hc ec
  have K' := fun p0 p1 S' => K c p0 p1 S' hc ec
  subst ec
  unfold bX7_pull_17
  refine e_ldA rfl (e_gR kx rC (e_ldI rfl (e_aR kC nC hc (by decide) rc (And.intro kc (And.intro ⟨by decide, by decide⟩ (x_isPlugged hT kc rp (fun h => e_ifN (by decide) (fun _ => And.intro ⟨by decide, by decide⟩ (K2' h)) (fun q => absurd rfl q)) (fun p0 p1 r0 r1 => e_ifN (by decide) (fun q => absurd q (by decide)) (fun _ => u_X7_pull_39 ?_))))))))
  unfold bX7_pull_39
  refine e_ldA rfl (e_ldA rfl (e_gR kx rC (e_ldI rfl (e_aR kC nC hc (by decide) rc (And.intro kx (And.intro ⟨by decide, by decide⟩ (x_takeOut hT ir kx kc rp (fun h => ?_) (fun q0 q1 S1 s0 s1 hT1 ir1 cc => ?_))))))))
  · rcases h with z | z
    · rw [r0] at z; cases z
    · rw [r1] at z; cases z
  · cases Option.some.inj (s0.symm.trans r0)
    cases Option.some.inj (s1.symm.trans r1)
    obtain ⟨k0, n0⟩ := hT.2.2 (pp c) 17 6 0 p0 kp rfl r0
    obtain ⟨k1, n1⟩ := hT.2.2 (pp c) 17 6 1 p1 kp rfl r1
    have kx1 : sK S1 x = 8 := by rw [cc.1]; exact kx
    exact e_ldA rfl (And.intro kx1 (And.intro ⟨by decide, by decide⟩ (z_X7_noteChange hT1 ir1 kx1 (fun S2 s2 ir2 => e_rV (K' p0 p1 S2 r0 r1 (TY_SH hT1 s2) ir2 (CCh_SH kc k0 k1 cc s2 (by decide) (by decide) (by decide)))))))
def LCh (S S' : MM) (a : Nat) (u : Int32) : Prop := sK S' = sK S ∧ sN S' = sN S ∧ sR S' = sR S ∧ (∀ b, sK S b = 1 → b ≠ a → sI S' b 3 = sI S b 3) ∧ sI S' a 3 = u ∧ (∀ q, sK S q = 6 → sI S' q 2 = sI S q 2) ∧ ∀ b, fo (wk S b) = true → sI S' b = sI S b
theorem LCh_of {W : List Nat} {S S' : MM} {a : Nat} {u : Int32} (ka : sK S a = 1) (s : SH W (pI S a 3 u) S') (h3 : 23 ∉ W) (h4 : 24 ∉ W) (hf : ∀ k ∈ W, fo k = false) : LCh S S' a u := by
  refine ⟨s.1, s.2.1, s.2.2.1, fun b hb hn => ?_, ?_, fun q hq => ?_, fun b hb => (SH_fo s hf hb).trans (pI_fo ka (by decide) rfl hb)⟩
  · rw [SH_i (kd := 1) (j := 3) s (show sK (pI S a 3 u) b = 1 from hb) (by decide) h3 (v := sI (pI S a 3 u) b 3) rfl, sI_pI, up2_ne (fun z => hn z.1)]
  · rw [SH_i (kd := 1) (j := 3) s (show sK (pI S a 3 u) a = 1 from ka) (by decide) h3 (v := sI (pI S a 3 u) a 3) rfl, sI_pI, up2_self]
  · rw [SH_i (kd := 6) (j := 2) s (show sK (pI S a 3 u) q = 6 from hq) (by decide) h4 (v := sI (pI S a 3 u) q 2) rfl, sI_pI, up2_ne (fun z => absurd z.2 (by decide))]
theorem q_lx66 {Q : Option Value → MM → Prop} {X : String → MM → Prop} {S0 S1 : MM} {f x a : Nat} {lv : Lv} {u : Int32} {W : List Nat} (hT : TY S0) (kx : sK S0 x = 8) (ka : sK S0 a = 1) (s1 : SH W (pI S0 a 3 u) S1) (ir1 : IR S1) (hw : ∀ k ∈ W, k ∈ [2, 4, 6, 7, 8]) (l0 : lvg lv 0 = some (.ref x)) (K : ∀ S', TY S' → IR S' → LCh S0 S' a u → Q none S') : wpn (kX7_light Q X) (f + 1) 66 lv [] S1 0 0 := by
  have hT1 : TY S1 := TY_SH (S := pI S0 a 3 u) hT s1
  have kx1 : sK S1 x = 8 := by rw [s1.1]; exact kx
  refine u_X7_light_66 ?_
  unfold bX7_light_66
  refine e_ldA l0 (And.intro kx1 (And.intro ⟨by decide, by decide⟩ (z_X7_noteChange hT1 ir1 kx1 (fun S2 s2 ir2 => e_rV (K S2 (TY_SH hT1 s2) ir2 ?_)))))
  have s12 : SH [1, 2, 4, 6, 7, 8] (pI S0 a 3 u) S2 := SH.tr (SH.tr SH.rf s1 (fun k hk => by
    have := hw k hk
    simp only [List.mem_cons, List.not_mem_nil, or_false] at this ⊢
    omega)) s2 (by decide)
  exact LCh_of ka s12 (by decide) (by decide) (by decide)
theorem x_light {Q : Option Value → MM → Prop} {X : String → MM → Prop} {S0 : MM} {x b : Nat} {ca pp : Nat → Nat} {v : Int32} (hb : b < 2) (hT : TY S0) (ir : IR S0) (kx : sK S0 x = 8) (hL : CLy S0 x ca pp) (K1 : b8 v → X eI S0) (K2 : ∀ c, c < 8 → v = nI c → ((sR S0 (pp c) 0 = none ∨ sR S0 (pp c) 1 = none) ∨ sI S0 (ca c) 3 = nI b) → X eS S0) (K : ∀ c p0 p1 S', c < 8 → v = nI c → sR S0 (pp c) 0 = some p0 → sR S0 (pp c) 1 = some p1 → ¬ sI S0 (ca c) 3 = nI b → TY S' → IR S' → LCh S0 S' (ca c) (nI b) → Q none S') : wX7_light [.ref x, .int v, .int (nI b)] S0 Q X := by
  obtain ⟨aC, rC, kC, nC, hc8⟩ := CLy_k hT kx hL
  refine Exists.intro 8 (u_X7_light_0 ?_)
  unfold bX7_light_0
  refine e_ldI rfl (And.intro ⟨by decide, by decide⟩ (z_isCable' (fun h => e_ifN (by decide) (fun _ => And.intro ⟨by decide, by decide⟩ (K1 h)) (fun q => absurd rfl q)) (fun c hc ec => e_ifN (by decide) (fun q => absurd q (by decide)) (fun _ => u_X7_light_17 ?_))))
  obtain ⟨rc, kc, rp, kp, np⟩ := hc8 c hc
  have K2' := K2 c hc ec
  have K' := fun p0 p1 S' => K c p0 p1 S' hc ec
  subst ec
  have bad : ((sR S0 (pp c) 0 = none ∨ sR S0 (pp c) 1 = none) ∨ sI S0 (ca c) 3 = nI b) → ∀ lv, wpn (kX7_light Q X) 6 39 lv [] S0 0 0 := fun h lv => u_X7_light_39 (And.intro ⟨by decide, by decide⟩ (K2' h))
  unfold bX7_light_17
  refine e_ldA rfl (e_gR kx rC (e_ldI rfl (e_aR kC nC hc (by decide) rc (e_stA (e_ldA lvg_self (And.intro kc (And.intro ⟨by decide, by decide⟩ (x_isPlugged hT kc rp (fun h => e_ifN (by decide) (fun _ => bad (Or.inl h) _) (fun q => absurd rfl q)) (fun p0 p1 r0 r1 => e_ifN (by decide) (fun q => absurd q (by decide)) (fun _ => ?_))))))))))
  have hp := PL_of rp r0 r1
  refine e_ldA lvg_self (e_gV (v := sI S0 (ca c) 3) kc rfl (e_ldI (lvg_ne rfl rfl (by decide)) ⟨fun h => bad (Or.inr h) _, fun h => u_X7_light_49 ?_⟩))
  unfold bX7_light_49
  refine e_ldI (lvg_ne rfl rfl (by decide)) (e_ifN (by omega) (fun h0 => u_X7_light_61 ?_) (fun h0 => ?_))
  · subst h0
    unfold bX7_light_61
    exact e_ldA (lvg_ne rfl rfl (by decide)) (e_ldA lvg_self (And.intro kx (And.intro ⟨by decide, by decide⟩ (x_switchOff hT ir kx kc hp (fun S1 s1 ir1 => q_lx66 (f := 3) hT kx kc s1 ir1 (by decide) (lvg_ne rfl rfl (by decide)) (fun S' t i l => K' p0 p1 S' r0 r1 h t i l))))))
  · have h1 : b = 1 := by omega
    subst h1
    exact e_ldA (lvg_ne rfl rfl (by decide)) (e_ldA lvg_self (And.intro kx (And.intro ⟨by decide, by decide⟩ (x_switchOn hT ir kc hp (fun S1 s1 ir1 => q_lx66 (f := 4) hT kx kc s1 ir1 (by decide) (lvg_ne rfl rfl (by decide)) (fun S' t i l => K' p0 p1 S' r0 r1 h t i l))))))
theorem x_isTaken {Q : Option Value → MM → Prop} {S0 : MM} {q : Nat} {w : Int32} (k0 : sK S0 q = 6) (K0 : sI S0 q 2 = -1 ∨ sI S0 q 2 = w → Q (some (.int (nI 0))) S0) (K1 : ¬ (sI S0 q 2 = -1 ∨ sI S0 q 2 = w) → Q (some (.int (nI 1))) S0) : wX7_isTaken [.ref q, .int w] S0 Q := by
  have no : (sI S0 q 2 = -1 ∨ sI S0 q 2 = w) → ∀ lv, wpn (kX7_isTaken Q) 3 20 lv [] S0 0 0 := fun h lv => by
    refine u_X7_isTaken_20 ?_
    unfold bX7_isTaken_20
    refine e_cN 0 rfl (u_X7_isTaken_21 ?_)
    unfold bX7_isTaken_21
    exact e_rZ (by decide) (K0 h)
  refine Exists.intro 4 (u_X7_isTaken_0 ?_)
  unfold bX7_isTaken_0
  refine e_ldA rfl (e_gV (v := sI S0 q 2) k0 rfl (e_cI ⟨fun h => no (Or.inl h) _, fun h1 => e_ldA rfl (e_gV (v := sI S0 q 2) k0 rfl (e_ldI rfl ⟨fun h => no (Or.inr h) _, fun h2 => e_cN 1 rfl (u_X7_isTaken_21 ?_)⟩))⟩))
  unfold bX7_isTaken_21
  exact e_rZ (by decide) (K1 (fun z => z.elim h1 h2))
noncomputable def tl90b (Q : Option Value → MM → Prop) (X : String → MM → Prop) : Kt := ldA 0 (gR 7 1 (ldI 1 (aR 12 (ldI 4 (tI 0 2 (ldA 0 (ldA 0 (gR 7 1 (ldI 1 (aR 12 (cV 1 7 wX7_switchOn 0 0 1 6 (ldA 0 (cV 0 7 wX7_noteChange 0 0 1 6 (rV Q))))))))))))))
theorem x_tl90b {Q : Option Value → MM → Prop} {X : String → MM → Prop} {S S3 : MM} {x j i k aC : Nat} {v : Int32} {lv : Lv} {ca pp : Nat → Nat} {pt : Nat → Nat → Nat} (hT : TY S) (hT3 : TY S3) (ir3 : IR S3) (kx : sK S x = 8) (kC : sK S aC = 12) (nC : sN S aC = 8) (ka : sK S (ca j) = 1) (kp : sK S (pp j) = 17) (t0 : sK S (pt 0 i) = 6) (t1 : sK S (pt 1 k) = 6) (rC : sR S x 1 = some aC) (ra : sR S aC j = some (ca j)) (rp : sR S (ca j) 0 = some (pp j)) (nx : x ≠ pp j) (naC : aC ≠ pp j) (na : ca j ≠ pp j) (hne : pt 0 i ≠ pt 1 k) (rr3 : ∀ b, b ≠ pp j → sR S3 b = sR S b) (y0 : sR S3 (pp j) 0 = some (pt 0 i)) (y1 : sR S3 (pp j) 1 = some (pt 1 k)) (i3 : sI S3 = up2 (up2 (sI S) (pt 0 i) 2 (nI j)) (pt 1 k) 2 (nI j)) (kk3 : sK S3 = sK S) (nn3 : sN S3 = sN S) (hj : j < 8) (g0 : lvg lv 0 = some (.ref x)) (g1 : lvg lv 1 = some (.int (nI j))) (g4 : lvg lv 4 = some (.int v)) (K : ∀ S', TY S' → IR S' → CCh S S' (ca j) (pp j) (nI 1) (pt 0 i) (pt 1 k) (nI j) (some (pt 0 i)) (some (pt 1 k)) → Q none S') : tl90b Q X lv [] S3 0 0 := by
  unfold tl90b
  have kx3 : sK S3 x = 8 := by rw [kk3]; exact kx
  have ka3 : sK S3 (ca j) = 1 := by rw [kk3]; exact ka
  have rC3 : sR S3 x 1 = some aC := by rw [rr3 x nx]; exact rC
  have ra3 : sR S3 aC j = some (ca j) := by rw [rr3 aC naC]; exact ra
  have kC3 : sK S3 aC = 12 := by rw [kk3]; exact kC
  have nC3 : sN S3 aC = 8 := by rw [nn3]; exact nC
  have rp3 : sR S3 (ca j) 0 = some (pp j) := by rw [rr3 (ca j) na]; exact rp
  refine e_ldA g0 (e_gR kx3 rC3 (e_ldI g1 (e_aR kC3 nC3 hj (by decide) ra3 (e_ldI g4 (e_tI ka3 ?_)))))
  have hT4 : TY (pI S3 (ca j) 2 v) := hT3
  have ir4 : IR (pI S3 (ca j) 2 v) := IR_w ir3 ka3 (fun N e => nomatch (show (none : Option Nat) = some N from e))
  have pl4 : PL (pI S3 (ca j) 2 v) (ca j) := PL_of (S := S3) rp3 y0 y1
  refine e_ldA g0 (e_ldA g0 (e_gR (S := pI S3 (ca j) 2 v) kx3 rC3 (e_ldI g1 (e_aR (S := pI S3 (ca j) 2 v) kC3 nC3 hj (by decide) ra3 (And.intro kx3 (And.intro ⟨by decide, by decide⟩ (x_switchOn hT4 ir4 ka3 pl4 (fun S5 s5 ir5 => ?_))))))))
  have kk5 : sK S5 = sK S := s5.1.trans kk3
  have nn5 : sN S5 = sN S := s5.2.1.trans nn3
  have rr5 : sR S5 = sR S3 := s5.2.2.1
  have hT5 : TY S5 := TY_SH (S := pI (pI S3 (ca j) 2 v) (ca j) 3 (nI 1)) hT3 s5
  have c5 : CCh S S5 (ca j) (pp j) (nI 1) (pt 0 i) (pt 1 k) (nI j) (some (pt 0 i)) (some (pt 1 k)) := by
    have a2 : ∀ q, sK S q = 6 → sI S5 q 2 = up2 (up2 (sI S) (pt 0 i) 2 (nI j)) (pt 1 k) 2 (nI j) q 2 := fun q hq => by
      have nq : q ≠ ca j := ne_kd hq ka (by decide)
      rw [SH_i s5 (show sK (pI (pI S3 (ca j) 2 v) (ca j) 3 (nI 1)) q = 6 by rw [sK_pI, sK_pI, kk3]; exact hq) (by decide) (by decide) (v := sI (pI (pI S3 (ca j) 2 v) (ca j) 3 (nI 1)) q 2) rfl, sI_pI, up2_ne (fun z => nq z.1), sI_pI, up2_ne (fun z => nq z.1), i3]
    refine ⟨kk5, nn5, fun b hb => by rw [rr5]; exact rr3 b hb, by rw [rr5]; exact y0, by rw [rr5]; exact y1, fun b hb hn => ?_, ?_, fun q hq h0 h1 => ?_, ?_, ?_, fun b hb => ?_⟩
    · rw [SH_i s5 (show sK (pI (pI S3 (ca j) 2 v) (ca j) 3 (nI 1)) b = 1 by rw [sK_pI, sK_pI, kk3]; exact hb) (by decide) (by decide) (v := sI (pI (pI S3 (ca j) 2 v) (ca j) 3 (nI 1)) b 3) rfl, sI_pI, up2_ne (fun z => hn z.1), sI_pI, up2_ne (fun z => hn z.1), i3, up2_ne (fun z => absurd z.2 (by decide)), up2_ne (fun z => absurd z.2 (by decide))]
    · rw [SH_i s5 (show sK (pI (pI S3 (ca j) 2 v) (ca j) 3 (nI 1)) (ca j) = 1 by rw [sK_pI, sK_pI, kk3]; exact ka) (by decide) (by decide) (v := sI (pI (pI S3 (ca j) 2 v) (ca j) 3 (nI 1)) (ca j) 3) rfl, sI_pI, up2_self]
    · rw [a2 q hq, up2_ne (fun z => h1 z.1), up2_ne (fun z => h0 z.1)]
    · rw [a2 _ t0, up2_ne (fun z => hne z.1), up2_self]
    · rw [a2 _ t1, up2_self]
    · have c0 : b ≠ pt 0 i := fun z => by subst z; rw [wk_17 t0 (by decide)] at hb; cases hb
      have c1 : b ≠ pt 1 k := fun z => by subst z; rw [wk_17 t1 (by decide)] at hb; cases hb
      have ca' : b ≠ ca j := fun z => by subst z; rw [wk_17 ka (by decide)] at hb; cases hb
      rw [SH_fo s5 (by decide) (by show fo (wk S3 b) = true; rw [wk_eq (S := S) kk3 nn3]; exact hb), sI_pI, up2_row ca', sI_pI, up2_row ca', i3, up2_row c1, up2_row c0]
  have kx5 : sK S5 x = 8 := by rw [kk5]; exact kx
  exact e_ldA g0 (And.intro kx5 (And.intro ⟨by decide, by decide⟩ (z_X7_noteChange hT5 ir5 kx5 (fun S6 s6 ir6 => e_rV (K S6 (TY_SH hT5 s6) ir6 (CCh_SH ka t0 t1 c5 s6 (by decide) (by decide) (by decide)))))))
noncomputable def tl90 (Q : Option Value → MM → Prop) (X : String → MM → Prop) : Kt := ldA 0 (ldI 1 (cI 0 (ldA 0 (gR 7 0 (cI 0 (aR 13 (gR 1 0 (ldI 2 (aR 17 (cV 3 7 wX7_putIn 0 0 1 6 (ldA 0 (ldI 1 (cI 1 (ldA 0 (gR 7 0 (cI 1 (aR 13 (gR 1 0 (ldI 3 (aR 17 (cV 3 7 wX7_putIn 0 0 1 6 (ldA 0 (gR 7 1 (ldI 1 (aR 12 (ldI 4 (tI 0 2 (ldA 0 (ldA 0 (gR 7 1 (ldI 1 (aR 12 (cV 1 7 wX7_switchOn 0 0 1 6 (ldA 0 (cV 0 7 wX7_noteChange 0 0 1 6 (rV Q))))))))))))))))))))))))))))))))))))
theorem x_tl90 {Q : Option Value → MM → Prop} {X : String → MM → Prop} {S : MM} {x j i k : Nat} {v : Int32} {lv : Lv} {ca pp : Nat → Nat} {pt : Nat → Nat → Nat} (hT : TY S) (ir : IR S) (kx : sK S x = 8) (hL : CLy S x ca pp) (hP : PLy S x pt) (hj : j < 8) (hi : i < 8) (hk : k < 8) (hne : pt 0 i ≠ pt 1 k) (g0 : lvg lv 0 = some (.ref x)) (g1 : lvg lv 1 = some (.int (nI j))) (g2 : lvg lv 2 = some (.int (nI i))) (g3 : lvg lv 3 = some (.int (nI k))) (g4 : lvg lv 4 = some (.int v)) (K : ∀ S', TY S' → IR S' → CCh S S' (ca j) (pp j) (nI 1) (pt 0 i) (pt 1 k) (nI j) (some (pt 0 i)) (some (pt 1 k)) → Q none S') : tl90 Q X lv [] S 0 0 := by
  obtain ⟨aC, rC, kC, nC, hc8⟩ := CLy_k hT kx hL
  obtain ⟨ra, ka, rp, kp, np⟩ := hc8 j hj
  obtain ⟨aE, rE, kE, nE, he2⟩ := PLy_k hT kx hP
  obtain ⟨e0, A0, r0, k0, q0, l0, m0, u0⟩ := he2 0 (by decide)
  obtain ⟨e1, A1, r1, k1, q1, l1, m1, u1⟩ := he2 1 (by decide)
  obtain ⟨s0, t0⟩ := u0 i hi
  obtain ⟨s1, t1⟩ := u1 k hk
  have w0 : sN S (pt 0 i) = 0 := by
    obtain ⟨b, b1, b2, b3⟩ := hT.2.1 A0 17 8 6 i l0 m0 rfl hi
    cases Option.some.inj (b1.symm.trans s0)
    exact b3
  have w1 : sN S (pt 1 k) = 0 := by
    obtain ⟨b, b1, b2, b3⟩ := hT.2.1 A1 17 8 6 k l1 m1 rfl hk
    cases Option.some.inj (b1.symm.trans s1)
    exact b3
  have nA1 : A1 ≠ pp j := fun z => by rw [z, np] at m1; cases m1
  unfold tl90
  refine e_ldA g0 (e_ldI g1 (e_cN 0 rfl (e_ldA g0 (e_gR kx rE (e_cN 0 rfl (e_aR (N := 2) kE nE (by decide) (by decide) r0 (e_gR k0 q0 (e_ldI g2 (e_aR (N := 8) l0 m0 hi (by decide) s0 (And.intro kx (And.intro ⟨by decide, by decide⟩ (z_X7_putIn (e := 0) kx rC kC nC hj ra ka rp kp np (by decide) t0 ?_))))))))))))
  have hT2 : TY (pI (pR S (pp j) 0 (some (pt 0 i))) (pt 0 i) 2 (nI j)) := TY_p17 hT kp np (fun b hb => by cases hb; exact ⟨t0, w0⟩)
  have ir2 : IR (pI (pR S (pp j) 0 (some (pt 0 i))) (pt 0 i) 2 (nI j)) := IR_w (S := pR S (pp j) 0 (some (pt 0 i))) ir t0 (fun N e => nomatch (show (none : Option Nat) = some N from e))
  have rr2 : ∀ b, b ≠ pp j → sR (pI (pR S (pp j) 0 (some (pt 0 i))) (pt 0 i) 2 (nI j)) b = sR S b := fun b hb => by rw [sR_pI, sR_pR, up2_row hb]
  have z2 : sR (pI (pR S (pp j) 0 (some (pt 0 i))) (pt 0 i) 2 (nI j)) (pp j) 0 = some (pt 0 i) := by rw [sR_pI, sR_pR, up2_self]
  have i2 : sI (pI (pR S (pp j) 0 (some (pt 0 i))) (pt 0 i) 2 (nI j)) = up2 (sI S) (pt 0 i) 2 (nI j) := rfl
  have kk2 : sK (pI (pR S (pp j) 0 (some (pt 0 i))) (pt 0 i) 2 (nI j)) = sK S := rfl
  have nn2 : sN (pI (pR S (pp j) 0 (some (pt 0 i))) (pt 0 i) 2 (nI j)) = sN S := rfl
  generalize pI (pR S (pp j) 0 (some (pt 0 i))) (pt 0 i) 2 (nI j) = S2 at hT2 ir2 rr2 z2 i2 kk2 nn2
  have nx : x ≠ pp j := ne_kd kx kp (by decide)
  have nE' : aE ≠ pp j := ne_kd kE kp (by decide)
  have ne1 : e1 ≠ pp j := ne_kd k1 kp (by decide)
  have naC : aC ≠ pp j := ne_kd kC kp (by decide)
  have na : ca j ≠ pp j := ne_kd ka kp (by decide)
  refine e_ldA g0 (e_ldI g1 (e_cN 1 rfl (e_ldA g0 (e_gR (by rw [kk2]; exact kx) (by rw [rr2 x nx]; exact rE) (e_cN 1 rfl (e_aR (N := 2) (by rw [kk2]; exact kE) (by rw [nn2]; exact nE) (by decide) (by decide) (by rw [rr2 aE nE']; exact r1) (e_gR (by rw [kk2]; exact k1) (by rw [rr2 e1 ne1]; exact q1) (e_ldI g3 (e_aR (N := 8) (by rw [kk2]; exact l1) (by rw [nn2]; exact m1) hk (by decide) (by rw [rr2 A1 nA1]; exact s1) (And.intro (by rw [kk2]; exact kx) (And.intro ⟨by decide, by decide⟩ (z_X7_putIn (e := 1) (by rw [kk2]; exact kx) (by rw [rr2 x nx]; exact rC) (by rw [kk2]; exact kC) (by rw [nn2]; exact nC) hj (by rw [rr2 aC naC]; exact ra) (by rw [kk2]; exact ka) (by rw [rr2 (ca j) na]; exact rp) (by rw [kk2]; exact kp) (by rw [nn2]; exact np) (by decide) (by rw [kk2]; exact t1) ?_))))))))))))
  have kp2 : sK S2 (pp j) = 17 := by rw [kk2]; exact kp
  have np2 : sN S2 (pp j) = 2 := by rw [nn2]; exact np
  have hT3 : TY (pI (pR S2 (pp j) 1 (some (pt 1 k))) (pt 1 k) 2 (nI j)) := TY_p17 hT2 kp2 np2 (fun b hb => by cases hb; exact ⟨by rw [kk2]; exact t1, by rw [nn2]; exact w1⟩)
  have ir3 : IR (pI (pR S2 (pp j) 1 (some (pt 1 k))) (pt 1 k) 2 (nI j)) := IR_w (S := pR S2 (pp j) 1 (some (pt 1 k))) (kd := 6) ir2 (by rw [sK_pR, kk2]; exact t1) (fun N e => nomatch (show (none : Option Nat) = some N from e))
  have rr3 : ∀ b, b ≠ pp j → sR (pI (pR S2 (pp j) 1 (some (pt 1 k))) (pt 1 k) 2 (nI j)) b = sR S b := fun b hb => by rw [sR_pI, sR_pR, up2_row hb]; exact rr2 b hb
  have y0 : sR (pI (pR S2 (pp j) 1 (some (pt 1 k))) (pt 1 k) 2 (nI j)) (pp j) 0 = some (pt 0 i) := by rw [sR_pI, sR_pR, up2_ne (by simp)]; exact z2
  have y1 : sR (pI (pR S2 (pp j) 1 (some (pt 1 k))) (pt 1 k) 2 (nI j)) (pp j) 1 = some (pt 1 k) := by rw [sR_pI, sR_pR, up2_self]
  have i3 : sI (pI (pR S2 (pp j) 1 (some (pt 1 k))) (pt 1 k) 2 (nI j)) = up2 (up2 (sI S) (pt 0 i) 2 (nI j)) (pt 1 k) 2 (nI j) := by rw [sI_pI, sI_pR, i2]
  have kk3 : sK (pI (pR S2 (pp j) 1 (some (pt 1 k))) (pt 1 k) 2 (nI j)) = sK S := kk2
  have nn3 : sN (pI (pR S2 (pp j) 1 (some (pt 1 k))) (pt 1 k) 2 (nI j)) = sN S := nn2
  generalize pI (pR S2 (pp j) 1 (some (pt 1 k))) (pt 1 k) 2 (nI j) = S3 at hT3 ir3 rr3 y0 y1 i3 kk3 nn3
  exact x_tl90b (X := X) hT hT3 ir3 kx kC nC ka kp t0 t1 rC ra rp nx naC na hne rr3 y0 y1 i3 kk3 nn3 hj g0 g1 g4 K
theorem LY_CCh {S S' : MM} {x a pc q0 q1 : Nat} {u w : Int32} {r0 r1 : Option Nat} {ca pp : Nat → Nat} {pt : Nat → Nat → Nat} (hT : TY S) (kx : sK S x = 8) (hL : CLy S x ca pp) (hP : PLy S x pt) (h : CCh S S' a pc u q0 q1 w r0 r1) (kc : sK S pc = 17) (nc : sN S pc = 2) : CLy S' x ca pp ∧ PLy S' x pt := by
  obtain ⟨aC, rC, kC, nC, hc8⟩ := CLy_k hT kx hL
  obtain ⟨aE, rE, kE, nE, he2⟩ := PLy_k hT kx hP
  have nx : x ≠ pc := ne_kd kx kc (by decide)
  refine ⟨⟨aC, by rw [h.2.2.1 x nx]; exact rC, fun c hc => ?_⟩, ⟨aE, by rw [h.2.2.1 x nx]; exact rE, fun e he => ?_⟩⟩
  · obtain ⟨ra, ka, rp, kp, np⟩ := hc8 c hc
    exact ⟨by rw [h.2.2.1 aC (ne_kd kC kc (by decide))]; exact ra, by rw [h.2.2.1 (ca c) (ne_kd ka kc (by decide))]; exact rp⟩
  · obtain ⟨en, pa, r1, k1, q1, l1, m1, u1⟩ := he2 e he
    exact ⟨en, pa, by rw [h.2.2.1 aE (ne_kd kE kc (by decide))]; exact r1, by rw [h.2.2.1 en (ne_kd k1 kc (by decide))]; exact q1, fun p hp => by rw [h.2.2.1 pa (fun z => by rw [z, nc] at m1; cases m1)]; exact (u1 p hp).1⟩
def PGB (v w u t : Int32) : Prop := b8 v ∨ b8 w ∨ b8 u ∨ t < 1 ∨ ¬ t ≤ 8
theorem x_plug {Q : Option Value → MM → Prop} {X : String → MM → Prop} {S0 : MM} {x : Nat} {ca pp : Nat → Nat} {pt : Nat → Nat → Nat} {v w u t : Int32} (hT : TY S0) (ir : IR S0) (kx : sK S0 x = 8) (hL : CLy S0 x ca pp) (hP : PLy S0 x pt) (hne : ∀ i k, i < 8 → k < 8 → pt 0 i ≠ pt 1 k) (K1 : PGB v w u t → X eI S0) (K2 : ∀ j i k, j < 8 → i < 8 → k < 8 → v = nI j → w = nI i → u = nI k → ¬ PGB v w u t → ¬ ((sI S0 (pt 0 i) 2 = -1 ∨ sI S0 (pt 0 i) 2 = nI j) ∧ (sI S0 (pt 1 k) 2 = -1 ∨ sI S0 (pt 1 k) 2 = nI j)) → X eS S0) (K : ∀ j i k S', j < 8 → i < 8 → k < 8 → v = nI j → w = nI i → u = nI k → ¬ PGB v w u t → (sI S0 (pt 0 i) 2 = -1 ∨ sI S0 (pt 0 i) 2 = nI j) → (sI S0 (pt 1 k) 2 = -1 ∨ sI S0 (pt 1 k) 2 = nI j) → TY S' → IR S' → ((sR S0 (pp j) 0 = none ∨ sR S0 (pp j) 1 = none) ∧ CCh S0 S' (ca j) (pp j) (nI 1) (pt 0 i) (pt 1 k) (nI j) (some (pt 0 i)) (some (pt 1 k)) ∨ ∃ p0 p1 S1, sR S0 (pp j) 0 = some p0 ∧ sR S0 (pp j) 1 = some p1 ∧ TY S1 ∧ CCh S0 S1 (ca j) (pp j) (nI 0) p0 p1 (-1) none none ∧ CCh S1 S' (ca j) (pp j) (nI 1) (pt 0 i) (pt 1 k) (nI j) (some (pt 0 i)) (some (pt 1 k))) → Q none S') : wX7_plug [.ref x, .int v, .int w, .int u, .int t] S0 Q X := by
  obtain ⟨aC, rC, kC, nC, hc8⟩ := CLy_k hT kx hL
  obtain ⟨aE, rE, kE, nE, he2⟩ := PLy_k hT kx hP
  obtain ⟨e0, A0, r0, k0, q0, l0, m0, u0⟩ := he2 0 (by decide)
  obtain ⟨e1, A1, r1, k1, q1, l1, m1, u1⟩ := he2 1 (by decide)
  have th : PGB v w u t → ∀ lv, wpn (kX7_plug Q X) 60 34 lv [] S0 0 0 := fun h lv => u_X7_plug_34 (And.intro ⟨by decide, by decide⟩ (K1 h))
  refine Exists.intro 61 (u_X7_plug_0 ?_)
  unfold bX7_plug_0
  refine e_ldI rfl (And.intro ⟨by decide, by decide⟩ (z_isCable' (fun h => e_ifN (by decide) (fun _ => th (Or.inl h) _) (fun q => absurd rfl q)) (fun j hj ej => e_ifN (by decide) (fun q => absurd q (by decide)) (fun _ => ?_))))
  refine e_ldI rfl (And.intro ⟨by decide, by decide⟩ (z_isPort' (fun h => e_ifN (by decide) (fun _ => th (Or.inr (Or.inl h)) _) (fun q => absurd rfl q)) (fun i hi ei => e_ifN (by decide) (fun q => absurd q (by decide)) (fun _ => ?_))))
  refine e_ldI rfl (And.intro ⟨by decide, by decide⟩ (z_isPort' (fun h => e_ifN (by decide) (fun _ => th (Or.inr (Or.inr (Or.inl h))) _) (fun q => absurd rfl q)) (fun k hk ek => e_ifN (by decide) (fun q => absurd q (by decide)) (fun _ => ?_))))
  refine e_ldI rfl (e_cI ⟨fun h => th (Or.inr (Or.inr (Or.inr (Or.inl h)))) _, fun h1 => e_ldI rfl (e_cI ⟨fun h2 => u_X7_plug_44 ?_, fun h => th (Or.inr (Or.inr (Or.inr (Or.inr h)))) _⟩)⟩)
  have nb : ¬ PGB v w u t := fun q => by
    rcases q with q | q | q | q | q
    · exact nb8 hj (ej ▸ q)
    · exact nb8 hi (ei ▸ q)
    · exact nb8 hk (ek ▸ q)
    · exact h1 q
    · exact q h2
  have K2' := K2 j i k hj hi hk ej ei ek nb
  have K' := fun S' => K j i k S' hj hi hk ej ei ek nb
  subst ej ei ek
  obtain ⟨s0, t0⟩ := u0 i hi
  obtain ⟨s1, t1⟩ := u1 k hk
  obtain ⟨ra, ka, rp, kp, np⟩ := hc8 j hj
  have bad : ∀ f lv, ¬ ((sI S0 (pt 0 i) 2 = -1 ∨ sI S0 (pt 0 i) 2 = nI j) ∧ (sI S0 (pt 1 k) 2 = -1 ∨ sI S0 (pt 1 k) 2 = nI j)) → wpn (kX7_plug Q X) (f + 1) 80 lv [] S0 0 0 := fun f lv h => u_X7_plug_80 (And.intro ⟨by decide, by decide⟩ (K2' h))
  unfold bX7_plug_44
  refine e_ldA rfl (e_gR kx rE (e_cN 0 rfl (e_aR (N := 2) kE nE (by decide) (by decide) r0 (e_gR k0 q0 (e_ldI rfl (e_aR (N := 8) l0 m0 hi (by decide) s0 (e_ldI rfl (And.intro ⟨by decide, by decide⟩ (x_isTaken t0 (fun h0 => e_ifN (by decide) (fun _ => ?_) (fun q => absurd rfl q)) (fun h0 => e_ifN (by decide) (fun q => absurd q (by decide)) (fun _ => bad 58 _ (fun z => h0 z.1))))))))))))
  refine e_ldA rfl (e_gR kx rE (e_cN 1 rfl (e_aR (N := 2) kE nE (by decide) (by decide) r1 (e_gR k1 q1 (e_ldI rfl (e_aR (N := 8) l1 m1 hk (by decide) s1 (e_ldI rfl (And.intro ⟨by decide, by decide⟩ (x_isTaken t1 (fun h1 => e_ifN (by decide) (fun _ => u_X7_plug_90 ?_) (fun q => absurd rfl q)) (fun h1 => e_ifN (by decide) (fun q => absurd q (by decide)) (fun _ => bad 58 _ (fun z => h1 z.2))))))))))))
  unfold bX7_plug_90
  refine e_ldA rfl (e_ldA rfl (e_gR kx rC (e_ldI rfl (e_aR kC nC hj (by decide) ra (And.intro kx (And.intro ⟨by decide, by decide⟩ (x_takeOut hT ir kx ka rp (fun h => ?_) (fun p0 p1 S1 c0 c1 hT1 ir1 cc => ?_))))))))
  · exact x_tl90 (X := X) hT ir kx hL hP hj hi hk (hne i k hi hk) rfl rfl rfl rfl rfl (fun S' t' i' c' => K' S' h0 h1 t' i' (Or.inl ⟨h, c'⟩))
  · obtain ⟨hL1, hP1⟩ := LY_CCh hT kx hL hP cc kp np
    exact x_tl90 (X := X) hT1 ir1 (by rw [cc.1]; exact kx) hL1 hP1 hj hi hk (hne i k hi hk) rfl rfl rfl rfl rfl (fun S' t' i' c' => K' S' h0 h1 t' i' (Or.inr ⟨p0, p1, S1, c0, c1, hT1, cc, c'⟩))
