/-! CABLES OF THE CLASS, exactly: up, the ports' cable, the cable's ports -/
theorem q_on7 {Q : Option Value → MM → Prop} {S0 : MM} {x a : Nat} (hT : TY S0) (ka : sK S0 a = 1) (hp : PL S0 a) (K : ∀ S', SH [6, 7] S0 S' → IR S' → Q none S') : ∀ (r i f : Nat) (lv : Lv) (S : MM), i + r = 2 → r + 2 ≤ f → lvg lv 0 = some (.ref x) → lvg lv 1 = some (.ref a) → lvg lv 2 = some (.int (nI i)) → SH [6, 7] S0 S → IR S → wpn (kX7_switchOn Q) f 7 lv [] S 0 0 := by
  obtain ⟨pp, rp, kp, np⟩ := hT.1 a 1 0 17 2 ka rfl
  intro r
  induction r with
  | zero =>
    intro i f lv S hi hf l0 l1 l2 sh ir
    have e : i = 2 := by omega
    subst e
    obtain ⟨g, rfl⟩ : ∃ g, f = g + 2 := ⟨f - 2, by omega⟩
    refine u_X7_switchOn_7 ?_
    unfold bX7_switchOn_7
    refine e_ldI l2 (e_cN 2 rfl (e_ge (by decide) (by decide) (fun _ => u_X7_switchOn_27 ?_) (fun h => absurd h (by decide))))
    unfold bX7_switchOn_27
    exact e_rV (K S sh ir)
  | succ r ih =>
    intro i f lv S hi hf l0 l1 l2 sh ir
    obtain ⟨g, rfl⟩ : ∃ g, f = g + 1 := ⟨f - 1, by omega⟩
    obtain ⟨q, rq⟩ := hp pp i rp (by omega)
    obtain ⟨kq, nq⟩ := hT.2.2 pp 17 6 i q kp rfl rq
    refine u_X7_switchOn_7 ?_
    unfold bX7_switchOn_7
    exact e_ldI l2 (e_cN 2 rfl (e_ge (by omega) (by decide) (fun h => absurd h (by omega)) (fun _ => e_ldA l1 (e_gR (SH_k sh ka) (SH_r sh rp) (e_ldI l2 (e_aR (SH_k sh kp) (SH_n sh np) (by omega) (by decide) (SH_r sh rq) (And.intro (SH_k sh kq) (And.intro ⟨by decide, by decide⟩ (z_X5_becomeLit (TY_SH hT sh) ir (SH_k sh kq) (fun S1 s1 ir1 => e_inc l2 (ih (i + 1) g _ S1 (by omega) (by omega) (lvg_ne l0 rfl (by decide)) (lvg_ne l1 rfl (by decide)) lvg_self (SH.tr sh s1 (by decide)) ir1)))))))))))
theorem x_switchOn {Q : Option Value → MM → Prop} {S0 : MM} {x a : Nat} (hT : TY S0) (ir : IR S0) (ka : sK S0 a = 1) (hp : PL S0 a) (K : ∀ S', SH [6, 7] (pI S0 a 3 (nI 1)) S' → IR S' → Q none S') : wX7_switchOn [.ref x, .ref a] S0 Q := by
  refine Exists.intro 5 (u_X7_switchOn_0 ?_)
  unfold bX7_switchOn_0
  have ir1 : IR (pI S0 a 3 (nI 1)) := IR_w ir ka (fun N e => nomatch (show (none : Option Nat) = some N from e))
  have hT1 : TY (pI S0 a 3 (nI 1)) := hT
  have hp1 : PL (pI S0 a 3 (nI 1)) a := hp
  exact e_ldA rfl (e_cN 1 rfl (e_tZ ka (by decide) (e_cN 0 rfl (e_stI (q_on7 (S0 := pI S0 a 3 (nI 1)) (x := x) hT1 ka hp1 K 2 0 4 _ _ rfl (by decide) (lvg_ne rfl rfl (by decide)) (lvg_ne rfl rfl (by decide)) lvg_self SH.rf ir1)))))
theorem q_off7 {Q : Option Value → MM → Prop} {S0 : MM} {x a : Nat} (hT : TY S0) (kx : sK S0 x = 8) (ka : sK S0 a = 1) (hp : PL S0 a) (K : ∀ S', SH [2, 4, 6, 7, 8] S0 S' → IR S' → Q none S') : ∀ (r i f : Nat) (lv : Lv) (S : MM), i + r = 2 → r + 2 ≤ f → lvg lv 0 = some (.ref x) → lvg lv 1 = some (.ref a) → lvg lv 2 = some (.int (nI i)) → SH [2, 4, 6, 7, 8] S0 S → IR S → wpn (kX7_switchOff Q) f 7 lv [] S 0 0 := by
  obtain ⟨pp, rp, kp, np⟩ := hT.1 a 1 0 17 2 ka rfl
  obtain ⟨ll, rl, kl, nl⟩ := hT.1 a 1 1 15 2 ka rfl
  obtain ⟨aE, rE, kE, nE⟩ := hT.1 x 8 0 13 2 kx rfl
  intro r
  induction r with
  | zero =>
    intro i f lv S hi hf l0 l1 l2 sh ir
    have e : i = 2 := by omega
    subst e
    obtain ⟨g, rfl⟩ : ∃ g, f = g + 2 := ⟨f - 2, by omega⟩
    refine u_X7_switchOff_7 ?_
    unfold bX7_switchOff_7
    refine e_ldI l2 (e_cN 2 rfl (e_ge (by decide) (by decide) (fun _ => u_X7_switchOff_70 ?_) (fun h => absurd h (by decide))))
    unfold bX7_switchOff_70
    exact e_rV (K S sh ir)
  | succ r ih =>
    intro i f lv S hi hf l0 l1 l2 sh ir
    obtain ⟨g, rfl⟩ : ∃ g, f = g + 1 := ⟨f - 1, by omega⟩
    obtain ⟨q, rq⟩ := hp pp i rp (by omega)
    obtain ⟨kq, nq⟩ := hT.2.2 pp 17 6 i q kp rfl rq
    obtain ⟨l, rll, kll, nll⟩ := hT.2.1 ll 15 2 4 i kl nl rfl (by omega)
    obtain ⟨en, re, ke, ne⟩ := hT.2.1 aE 13 2 2 i kE nE rfl (by omega)
    refine u_X7_switchOff_7 ?_
    unfold bX7_switchOff_7
    refine e_ldI l2 (e_cN 2 rfl (e_ge (by omega) (by decide) (fun h => absurd h (by omega)) (fun _ => e_ldA l0 (e_duA (e_gI (SH_k sh kx) (fun v5 _ => e_ldA l1 (e_gR (SH_k sh ka) (SH_r sh rl) (e_ldI l2 (e_aR (SH_k sh kl) (SH_n sh nl) (by omega) (by decide) (SH_r sh rll) (e_gI (SH_k sh kll) (fun w5 _ => e_bopU (fun r5 => y_tI (SH_k sh kx) sh ir (by decide) (by decide) (fun N e => nomatch (show (none : Option Nat) = some N from e)) (fun S1 he1 sh1 ir1 => ?_)))))))))))))
    refine e_ldA l1 (e_gR (SH_k sh1 ka) (SH_r sh1 rl) (e_ldI l2 (e_aR (SH_k sh1 kl) (SH_n sh1 nl) (by omega) (by decide) (SH_r sh1 rll) (And.intro (SH_k sh1 kll) (And.intro ⟨by decide, by decide⟩ (z_X3_clear (TY_SH hT sh1) ir1 (SH_k sh1 kll) (fun S2 s2 ir2 => ?_)))))))
    have sh2 := SH.tr sh1 s2 (by decide)
    refine e_ldA l0 (e_gR (SH_k sh2 kx) (SH_r sh2 rE) (e_ldI l2 (e_aR (SH_k sh2 kE) (SH_n sh2 nE) (by omega) (by decide) (SH_r sh2 re) (e_ldA l1 (e_gR (SH_k sh2 ka) (SH_r sh2 rp) (e_ldI l2 (e_aR (SH_k sh2 kp) (SH_n sh2 np) (by omega) (by decide) (SH_r sh2 rq) (e_cI (And.intro (SH_k sh2 ke) (And.intro ⟨by decide, by decide⟩ (z_X1_moveTo (TY_SH hT sh2) ir2 (SH_k sh2 ke) (SH_k sh2 kq) (fun S3 s3 ir3 => ?_))))))))))))
    have sh3 := SH.tr sh2 s3 (by decide)
    exact e_ldA l1 (e_gR (SH_k sh3 ka) (SH_r sh3 rp) (e_ldI l2 (e_aR (SH_k sh3 kp) (SH_n sh3 np) (by omega) (by decide) (SH_r sh3 rq) (And.intro (SH_k sh3 kq) (And.intro ⟨by decide, by decide⟩ (z_X5_becomeDark (TY_SH hT sh3) ir3 (SH_k sh3 kq) (fun S4 s4 ir4 => e_inc l2 (ih (i + 1) g _ S4 (by omega) (by omega) (lvg_ne l0 rfl (by decide)) (lvg_ne l1 rfl (by decide)) lvg_self (SH.tr sh3 s4 (by decide)) ir4))))))))
theorem x_switchOff {Q : Option Value → MM → Prop} {S0 : MM} {x a : Nat} (hT : TY S0) (ir : IR S0) (kx : sK S0 x = 8) (ka : sK S0 a = 1) (hp : PL S0 a) (K : ∀ S', SH [2, 4, 6, 7, 8] (pI S0 a 3 (nI 0)) S' → IR S' → Q none S') : wX7_switchOff [.ref x, .ref a] S0 Q := by
  refine Exists.intro 5 (u_X7_switchOff_0 ?_)
  unfold bX7_switchOff_0
  have ir1 : IR (pI S0 a 3 (nI 0)) := IR_w ir ka (fun N e => nomatch (show (none : Option Nat) = some N from e))
  have hT1 : TY (pI S0 a 3 (nI 0)) := hT
  have hp1 : PL (pI S0 a 3 (nI 0)) a := hp
  exact e_ldA rfl (e_cN 0 rfl (e_tZ ka (by decide) (e_cN 0 rfl (e_stI (q_off7 (S0 := pI S0 a 3 (nI 0)) hT1 kx ka hp1 K 2 0 4 _ _ rfl (by decide) (lvg_ne rfl rfl (by decide)) (lvg_ne rfl rfl (by decide)) lvg_self SH.rf ir1)))))
theorem x_isPlugged {S : MM} {a pp : Nat} {Q : Option Value → MM → Prop} (hT : TY S) (ka : sK S a = 1) (rp : sR S a 0 = some pp) (K0 : sR S pp 0 = none ∨ sR S pp 1 = none → Q (some (.int (nI 0))) S) (K1 : ∀ p0 p1, sR S pp 0 = some p0 → sR S pp 1 = some p1 → Q (some (.int (nI 1))) S) : wX0_isPlugged [.ref a] S Q := by
  obtain ⟨pp', rp', kp, np⟩ := hT.1 a 1 0 17 2 ka rfl
  cases Option.some.inj (rp'.symm.trans rp)
  have v0 : vp_in 0 (sN S pp) := by rw [np]; exact vp_in_nI (n := 0) (by decide) (by decide)
  have v1 : vp_in 1 (sN S pp) := by rw [np]; exact vp_in_nI (n := 1) (by decide) (by decide)
  refine Exists.intro 3 (And.intro ka (fun o ho => ?_))
  rw [rp] at ho
  subst ho
  refine And.intro kp (And.intro v0 (fun o h0 => ?_))
  cases o with
  | none => exact And.intro (Or.inl rfl) (K0 (Or.inl h0))
  | some p0 =>
    refine And.intro ka (fun o ho => ?_)
    rw [rp] at ho
    subst ho
    refine And.intro kp (And.intro v1 (fun o h1 => ?_))
    cases o with
    | none => exact And.intro (Or.inl rfl) (K0 (Or.inr h1))
    | some p1 => exact And.intro (Or.inr rfl) (K1 p0 p1 h0 h1)
theorem PL_of {S : MM} {a pp p0 p1 : Nat} (rp : sR S a 0 = some pp) (r0 : sR S pp 0 = some p0) (r1 : sR S pp 1 = some p1) : PL S a := fun qq j hq hj => by
  rw [rp] at hq
  cases hq
  have : j = 0 ∨ j = 1 := by omega
  rcases this with rfl | rfl
  · exact ⟨p0, r0⟩
  · exact ⟨p1, r1⟩
/-- what a change of a cable leaves, and what it makes of up, of the two ports' cable, of the cable's ports -/
def CCh (S S' : MM) (a pp : Nat) (u : Int32) (q0 q1 : Nat) (w : Int32) (r0 r1 : Option Nat) : Prop := sK S' = sK S ∧ sN S' = sN S ∧ (∀ b, b ≠ pp → sR S' b = sR S b) ∧ sR S' pp 0 = r0 ∧ sR S' pp 1 = r1 ∧ (∀ b, sK S b = 1 → b ≠ a → sI S' b 3 = sI S b 3) ∧ sI S' a 3 = u ∧ (∀ q, sK S q = 6 → q ≠ q0 → q ≠ q1 → sI S' q 2 = sI S q 2) ∧ sI S' q0 2 = w ∧ sI S' q1 2 = w ∧ ∀ b, fo (wk S b) = true → sI S' b = sI S b
theorem SH_fo {W : List Nat} {S S' : MM} {b : Nat} (h : SH W S S') (hw : ∀ k ∈ W, fo k = false) (hb : fo (wk S b) = true) : sI S' b = sI S b := funext (fun j => h.2.2.2.2 b j (fun z => by rw [fo_wj hb] at z; rw [hw _ z] at hb; cases hb))
theorem pI_fo {S : MM} {a k kd b : Nat} {v : Int32} (ka : sK S a = kd) (h10 : kd ≠ 10) (hf : fo kd = false) (hb : fo (wk S b) = true) : sI (pI S a k v) b = sI S b := up2_row (fun z => by subst z; rw [wk_17 ka h10, hf] at hb; cases hb)
theorem x_takeOut {Q : Option Value → MM → Prop} {S0 : MM} {x a pp : Nat} (hT : TY S0) (ir : IR S0) (kx : sK S0 x = 8) (ka : sK S0 a = 1) (rp : sR S0 a 0 = some pp) (K0 : sR S0 pp 0 = none ∨ sR S0 pp 1 = none → Q none S0) (K1 : ∀ p0 p1 S', sR S0 pp 0 = some p0 → sR S0 pp 1 = some p1 → TY S' → IR S' → CCh S0 S' a pp (nI 0) p0 p1 (-1) none none → Q none S') : wX7_takeOut [.ref x, .ref a] S0 Q := by
  obtain ⟨pp', rp', kp, np⟩ := hT.1 a 1 0 17 2 ka rfl
  cases Option.some.inj (rp'.symm.trans rp)
  refine Exists.intro 6 (u_X7_takeOut_0 ?_)
  unfold bX7_takeOut_0
  refine e_ldA rfl (And.intro ka (And.intro ⟨by decide, by decide⟩ (x_isPlugged hT ka rp (fun h => ?_) (fun p0 p1 r0 r1 => ?_))))
  · exact e_ifN (by decide) (fun _ => e_rV (K0 h)) (fun h => absurd rfl h)
  · have hp := PL_of rp r0 r1
    obtain ⟨k0, n0⟩ := hT.2.2 pp 17 6 0 p0 kp rfl r0
    obtain ⟨k1, n1⟩ := hT.2.2 pp 17 6 1 p1 kp rfl r1
    refine e_ifN (by decide) (fun h => absurd h (by decide)) (fun _ => u_X7_takeOut_8 ?_)
    unfold bX7_takeOut_8
    refine e_ldA rfl (e_ldA rfl (And.intro kx (And.intro ⟨by decide, by decide⟩ (x_switchOff hT ir kx ka hp (fun S1 s1 ir1 => ?_)))))
    have hT1 : TY S1 := TY_SH (S := pI S0 a 3 (nI 0)) hT s1
    have kk1 : sK S1 = sK S0 := s1.1
    have nn1 : sN S1 = sN S0 := s1.2.1
    have rr1 : sR S1 = sR S0 := s1.2.2.1
    refine e_cN 0 rfl (e_stI ?_)
    refine q_to15 (x := x) (a := a) (j := 0) hT1 ir1 (lvg_ne rfl rfl (by decide)) (lvg_ne rfl rfl (by decide)) lvg_self (by rw [kk1]; exact ka) (by rw [rr1]; exact rp) (by rw [kk1]; exact kp) (by rw [nn1]; exact np) (by decide) (by rw [rr1]; exact r0) (fun lv2 S2 a0 a1 a2 e2 hT2 ir2 g2 => ?_)
    have kk2 : sK S2 = sK S0 := by rw [e2]; exact kk1
    have nn2 : sN S2 = sN S0 := by rw [e2]; exact nn1
    have nap : a ≠ pp := ne_kd ka kp (by decide)
    have rr2 : ∀ b, b ≠ pp → sR S2 b = sR S0 b := fun b hb => by rw [e2, sR_pR, up2_row hb, sR_pI, rr1]
    have r12 : sR S2 pp 1 = some p1 := by rw [e2, sR_pR, up2_ne (by simp), sR_pI, rr1]; exact r1
    have r02 : sR S2 pp 0 = none := by rw [e2, sR_pR, up2_self]
    refine q_to15 (x := x) (a := a) (j := 1) hT2 ir2 a0 a1 a2 (by rw [kk2]; exact ka) (by rw [rr2 a nap]; exact rp) (by rw [kk2]; exact kp) (by rw [nn2]; exact np) (by decide) r12 (fun lv3 S3 b0 b1 b2 e3 hT3 ir3 g3 => ?_)
    refine u_X7_takeOut_15 ?_
    unfold bX7_takeOut_15
    refine e_ldI b2 (e_cN 2 rfl (e_ge (by decide) (by decide) (fun _ => u_X7_takeOut_43 ?_) (fun h => absurd h (by decide))))
    unfold bX7_takeOut_43
    have i2 : sI S2 = up2 (sI S1) p0 2 (-1) := by rw [e2]; rfl
    have i3 : sI S3 = up2 (sI S2) p1 2 (-1) := by rw [e3]; rfl
    refine e_rV (K1 p0 p1 S3 r0 r1 hT3 ir3 ⟨by rw [e3]; exact kk2, by rw [e3]; exact nn2, fun b hb => by rw [e3, sR_pR, up2_row hb, sR_pI]; exact rr2 b hb, by rw [e3, sR_pR, up2_ne (by simp), sR_pI]; exact r02, by rw [e3, sR_pR, up2_self], fun b hb hn => ?_, ?_, fun q hq h0 h1 => ?_, ?_, by rw [i3, up2_self], fun b hb => ?_⟩)
    · rw [i3, up2_ne (fun z => absurd z.2 (by decide)), i2, up2_ne (fun z => absurd z.2 (by decide)), SH_i s1 (show sK (pI S0 a 3 (nI 0)) b = 1 from hb) (by decide) (by decide) (v := sI (pI S0 a 3 (nI 0)) b 3) rfl, sI_pI, up2_ne (fun z => hn z.1)]
    · rw [i3, up2_ne (fun z => absurd z.2 (by decide)), i2, up2_ne (fun z => absurd z.2 (by decide)), SH_i s1 (show sK (pI S0 a 3 (nI 0)) a = 1 from ka) (by decide) (by decide) (v := sI (pI S0 a 3 (nI 0)) a 3) rfl, sI_pI, up2_self]
    · rw [i3, up2_ne (fun z => h1 z.1), i2, up2_ne (fun z => h0 z.1), SH_i s1 (show sK (pI S0 a 3 (nI 0)) q = 6 from hq) (by decide) (by decide) (v := sI (pI S0 a 3 (nI 0)) q 2) rfl, sI_pI, up2_ne (fun z => absurd z.2 (by decide))]
    · rw [i3]
      by_cases hz : p0 = p1
      · rw [hz, up2_self]
      · rw [up2_ne (fun z => hz z.1), i2, up2_self]
    · have c0 : b ≠ p0 := fun z => by subst z; rw [wk_17 k0 (by decide)] at hb; cases hb
      have c1 : b ≠ p1 := fun z => by subst z; rw [wk_17 k1 (by decide)] at hb; cases hb
      rw [i3, up2_row c1, i2, up2_row c0, SH_fo s1 (by decide) hb]
      exact pI_fo ka (by decide) rfl hb
