/-! where only a cable's two ports are others, all cells lie where they lay -/
def LYE (R R' : Nat → Nat → Option Nat) (b : Nat) : Prop := (∀ e, e < 2 → En R' b e = En R b e) ∧ (∀ e i, e < 2 → i < 8 → Pt R' b e i = Pt R b e i) ∧ (∀ e i, e < 2 → i < 8 → Ow R' b e i = Ow R b e i) ∧ (∀ e i, e < 2 → i < 8 → Pa R' b e i = Pa R b e i) ∧ (∀ e i, e < 2 → i < 8 → La R' b e i = La R b e i) ∧ (∀ c, c < 8 → Cb R' b c = Cb R b c) ∧ (∀ c, c < 8 → ppd R' b c = ppd R b c) ∧ (∀ c e, c < 8 → e < 2 → Ln R' b c e = Ln R b c e) ∧ (∀ c e s, c < 8 → e < 2 → s < 8 → Nt R' b c e s = Nt R b c e s) ∧ (∀ c e s, c < 8 → e < 2 → s < 8 → NtO R' b c e s = NtO R b c e s) ∧ (∀ c e s, c < 8 → e < 2 → s < 8 → NtP R' b c e s = NtP R b c e s)
theorem LYE.E {R R' : Nat → Nat → Option Nat} {b : Nat} (h : LYE R R' b) : ∀ e, e < 2 → En R' b e = En R b e := h.1
theorem LYE.P {R R' : Nat → Nat → Option Nat} {b : Nat} (h : LYE R R' b) : ∀ e i, e < 2 → i < 8 → Pt R' b e i = Pt R b e i := h.2.1
theorem LYE.O {R R' : Nat → Nat → Option Nat} {b : Nat} (h : LYE R R' b) : ∀ e i, e < 2 → i < 8 → Ow R' b e i = Ow R b e i := h.2.2.1
theorem LYE.Q {R R' : Nat → Nat → Option Nat} {b : Nat} (h : LYE R R' b) : ∀ e i, e < 2 → i < 8 → Pa R' b e i = Pa R b e i := h.2.2.2.1
theorem LYE.L {R R' : Nat → Nat → Option Nat} {b : Nat} (h : LYE R R' b) : ∀ e i, e < 2 → i < 8 → La R' b e i = La R b e i := h.2.2.2.2.1
theorem LYE.C {R R' : Nat → Nat → Option Nat} {b : Nat} (h : LYE R R' b) : ∀ c, c < 8 → Cb R' b c = Cb R b c := h.2.2.2.2.2.1
theorem LYE.PP {R R' : Nat → Nat → Option Nat} {b : Nat} (h : LYE R R' b) : ∀ c, c < 8 → ppd R' b c = ppd R b c := h.2.2.2.2.2.2.1
theorem LYE.N {R R' : Nat → Nat → Option Nat} {b : Nat} (h : LYE R R' b) : ∀ c e, c < 8 → e < 2 → Ln R' b c e = Ln R b c e := h.2.2.2.2.2.2.2.1
theorem LYE.T {R R' : Nat → Nat → Option Nat} {b : Nat} (h : LYE R R' b) : ∀ c e s, c < 8 → e < 2 → s < 8 → Nt R' b c e s = Nt R b c e s := h.2.2.2.2.2.2.2.2.1
theorem LYE.TO {R R' : Nat → Nat → Option Nat} {b : Nat} (h : LYE R R' b) : ∀ c e s, c < 8 → e < 2 → s < 8 → NtO R' b c e s = NtO R b c e s := h.2.2.2.2.2.2.2.2.2.1
theorem LYE.TP {R R' : Nat → Nat → Option Nat} {b : Nat} (h : LYE R R' b) : ∀ c e s, c < 8 → e < 2 → s < 8 → NtP R' b c e s = NtP R b c e s := h.2.2.2.2.2.2.2.2.2.2
theorem LYE.rf {R : Nat → Nat → Option Nat} {b : Nat} : LYE R R b := ⟨fun _ _ => rfl, fun _ _ _ _ => rfl, fun _ _ _ _ => rfl, fun _ _ _ _ => rfl, fun _ _ _ _ => rfl, fun _ _ => rfl, fun _ _ => rfl, fun _ _ _ _ => rfl, fun _ _ _ _ _ _ => rfl, fun _ _ _ _ _ _ => rfl, fun _ _ _ _ _ _ => rfl⟩
theorem LYE.tr {R R1 R2 : Nat → Nat → Option Nat} {b : Nat} (h : LYE R R1 b) (g : LYE R1 R2 b) : LYE R R2 b := ⟨fun e he => (g.E e he).trans (h.E e he), fun e i he hi => (g.P e i he hi).trans (h.P e i he hi), fun e i he hi => (g.O e i he hi).trans (h.O e i he hi), fun e i he hi => (g.Q e i he hi).trans (h.Q e i he hi), fun e i he hi => (g.L e i he hi).trans (h.L e i he hi), fun c hc => (g.C c hc).trans (h.C c hc), fun c hc => (g.PP c hc).trans (h.PP c hc), fun c e hc he => (g.N c e hc he).trans (h.N c e hc he), fun c e s hc he hs => (g.T c e s hc he hs).trans (h.T c e s hc he hs), fun c e s hc he hs => (g.TO c e s hc he hs).trans (h.TO c e s hc he hs), fun c e s hc he hs => (g.TP c e s hc he hs).trans (h.TP c e s hc he hs)⟩
theorem lye {S : MM} {R' : Nat → Nat → Option Nat} {b pp : Nat} (hL : LY S b) (kp : sK S pp = 17 ∧ sN S pp = 2 ∨ sK S pp = 14) (h : ∀ z, sK S z ≠ 0 → z ≠ pp → R' z = sR S z) : LYE (sR S) R' b := by
  have r : ∀ z k, sK S z = k → k ≠ 17 → k ≠ 14 → k ≠ 0 → R' z = sR S z := fun z k hz h17 h14 h0 => h z (by rw [hz]; exact h0) (fun e => by subst e; rcases kp with q | q; exact h17 (hz.symm.trans q.1); exact h14 (hz.symm.trans q))
  have e0 : ead R' b = ead (sR S) b := by unfold ead; rw [r b 8 hL.2 (by decide) (by decide) (by decide)]
  have c0 : cad R' b = cad (sR S) b := by unfold cad; rw [r b 8 hL.2 (by decide) (by decide) (by decide)]
  have E : ∀ e, En R' b e = En (sR S) b e := fun e => by unfold En; rw [e0, r _ 13 (ly_ea hL).2.1 (by decide) (by decide) (by decide)]
  have C : ∀ c, Cb R' b c = Cb (sR S) b c := fun c => by unfold Cb; rw [c0, r _ 12 (ly_ca hL).2.1 (by decide) (by decide) (by decide)]
  have pd : ∀ e, e < 2 → pad R' b e = pad (sR S) b e := fun e he => by unfold pad; rw [E, r _ 2 (ly_E hL he).2.1 (by decide) (by decide) (by decide)]
  have P : ∀ e i, e < 2 → i < 8 → Pt R' b e i = Pt (sR S) b e i := fun e i he hi => by
    unfold Pt
    rw [pd e he, h _ (by rw [(ly_pa hL he).2.1]; decide) (fun z => by
      rcases kp with q | q
      · rw [← z, (ly_pa hL he).2.2] at q; exact absurd q.2 (by decide)
      · rw [← z, (ly_pa hL he).2.1] at q; exact absurd q (by decide))]
  have ld : ∀ c, c < 8 → lad R' b c = lad (sR S) b c := fun c hc => by unfold lad; rw [C, r _ 1 (ly_C hL hc).2.1 (by decide) (by decide) (by decide)]
  have N : ∀ c e, c < 8 → e < 2 → Ln R' b c e = Ln (sR S) b c e := fun c e hc he => by unfold Ln; rw [ld c hc, r _ 15 (ly_la hL hc).2.1 (by decide) (by decide) (by decide)]
  have nd' : ∀ c e, c < 8 → e < 2 → nad R' b c e = nad (sR S) b c e := fun c e hc he => by unfold nad; rw [N c e hc he, r _ 4 (ly_N hL hc he).2.1 (by decide) (by decide) (by decide)]
  have T : ∀ c e s, c < 8 → e < 2 → s < 8 → Nt R' b c e s = Nt (sR S) b c e s := fun c e s hc he hs => by unfold Nt; rw [nd' c e hc he, r _ 16 (ly_na hL hc he).2.1 (by decide) (by decide) (by decide)]
  refine ⟨fun e _ => E e, P, fun e i he hi => ?_, fun e i he hi => ?_, fun e i he hi => ?_, fun c _ => C c, fun c hc => ?_, N, T, fun c e s hc he hs => ?_, fun c e s hc he hs => ?_⟩
  · unfold Ow; rw [P e i he hi, r _ 6 (ly_P hL he hi).2.1 (by decide) (by decide) (by decide)]
  · unfold Pa; rw [P e i he hi, r _ 6 (ly_P hL he hi).2.1 (by decide) (by decide) (by decide)]
  · unfold La; rw [P e i he hi, r _ 6 (ly_P hL he hi).2.1 (by decide) (by decide) (by decide)]
  · unfold ppd; rw [C, r _ 1 (ly_C hL hc).2.1 (by decide) (by decide) (by decide)]
  · unfold NtO; rw [T c e s hc he hs, r _ 5 (ly_T hL hc he hs).2.1 (by decide) (by decide) (by decide)]
  · unfold NtP; rw [T c e s hc he hs, r _ 5 (ly_T hL hc he hs).2.1 (by decide) (by decide) (by decide)]
/-! plug -/
def PIN (S S' : MM) (b c i k : Nat) (v : Int32) : Prop := sK S' = sK S ∧ sN S' = sN S ∧ sJ S' = sJ S ∧ (∀ z, z ≠ ppd (sR S) b c → sR S' z = sR S z) ∧ (sR S' (ppd (sR S) b c) 0 = some (Pt (sR S) b 0 i) ∧ sR S' (ppd (sR S) b c) 1 = some (Pt (sR S) b 1 k)) ∧ sI S' = up2 (up2 (up2 (sI S) (Pt (sR S) b 0 i) 2 (nI c)) (Pt (sR S) b 1 k) 2 (nI c)) (Cb (sR S) b c) 2 v ∧ ∀ j, j ≠ 0 → j ≠ 1 → sR S' (ppd (sR S) b c) j = sR S (ppd (sR S) b c) j
theorem x_switchOnG {Q : Option Value → MM → Prop} {S : MM} {b c : Nat} (hL : LY S b) (hc : c < 8) (pl : plg (sR S) b c) (ir : IR S) (K : ∀ F, F = f_X7_switchOn (sI S) (sR S) b c → IR (wI S F) → Q none (wI S F)) : wX7_switchOn [.ref b, .ref (Cb (sR S) b c)] S Q := x_X7_switchOn hL hc pl ir (K _ rfl)
theorem x_noteChangeG {Q : Option Value → MM → Prop} {S : MM} {b : Nat} (hL : LY S b) (ir : IR S) (K : ∀ F, F = f_X7_noteChange (sI S) (sR S) b → IR (wI S F) → Q none (wI S F)) : wX7_noteChange [.ref b] S Q := x_X7_noteChange hL ir (K _ rfl)
theorem c_tl90b {Q : Option Value → MM → Prop} {X : String → MM → Prop} {S S3 : MM} {b c i k : Nat} {v : Int32} {lv : Lv} (hL : LY S b) (hc : c < 8) (hT3 : TY S3) (ir3 : IR S3) (nx : b ≠ ppd (sR S) b c) (naC : cad (sR S) b ≠ ppd (sR S) b c) (rr3 : ∀ z, z ≠ ppd (sR S) b c → sR S3 z = sR S z) (y0 : sR S3 (ppd (sR S) b c) 0 = some (Pt (sR S) b 0 i)) (y1 : sR S3 (ppd (sR S) b c) 1 = some (Pt (sR S) b 1 k)) (i3 : sI S3 = up2 (up2 (sI S) (Pt (sR S) b 0 i) 2 (nI c)) (Pt (sR S) b 1 k) 2 (nI c)) (rj3 : ∀ j, j ≠ 0 → j ≠ 1 → sR S3 (ppd (sR S) b c) j = sR S (ppd (sR S) b c) j) (kk3 : sK S3 = sK S) (nn3 : sN S3 = sN S) (jj3 : sJ S3 = sJ S) (g0 : lvg lv 0 = some (.ref b)) (g1 : lvg lv 1 = some (.int (nI c))) (g4 : lvg lv 4 = some (.int v)) (K : ∀ S' G, TY S' → PIN S S' b c i k v → G = f_X7_noteChange (f_X7_switchOn (sI S') (sR S') b c) (sR S') b → IR (wI S' G) → Q none (wI S' G)) : tl90b Q X lv [] S3 0 0 := by
  have ka := (ly_C hL hc).2.1
  have kx3 : sK S3 b = 8 := by rw [kk3]; exact hL.2
  have ka3 : sK S3 (Cb (sR S) b c) = 1 := by rw [kk3]; exact ka
  have rC3 : sR S3 b 1 = some (cad (sR S) b) := by rw [rr3 b nx]; exact (ly_ca hL).1
  have ra3 : sR S3 (cad (sR S) b) c = some (Cb (sR S) b c) := by rw [rr3 _ naC]; exact (ly_C hL hc).1
  have kC3 : sK S3 (cad (sR S) b) = 12 := by rw [kk3]; exact (ly_ca hL).2.1
  have nC3 : sN S3 (cad (sR S) b) = 8 := by rw [nn3]; exact (ly_ca hL).2.2
  unfold tl90b
  refine e_ldA g0 (e_gR kx3 rC3 (e_ldI g1 (e_aR kC3 nC3 hc (by decide) ra3 (e_ldI g4 (e_tI ka3 ?_)))))
  have hT4 : TY (pI S3 (Cb (sR S) b c) 2 v) := hT3
  have ir4 : IR (pI S3 (Cb (sR S) b c) 2 v) := IR_w ir3 ka3 (fun N e => nomatch (show (none : Option Nat) = some N from e))
  have hL4 : LY (pI S3 (Cb (sR S) b c) 2 v) b := ⟨hT4, kx3⟩
  have le := lye (R' := sR S3) hL (Or.inl ⟨(ly_pp hL hc).2.1, (ly_pp hL hc).2.2⟩) (fun z _ hz => rr3 z hz)
  have pin : PIN S (pI S3 (Cb (sR S) b c) 2 v) b c i k v := ⟨kk3, nn3, jj3, rr3, ⟨y0, y1⟩, by rw [sI_pI, i3], rj3⟩
  have pl4 : plg (sR (pI S3 (Cb (sR S) b c) 2 v)) b c := by
    show ¬ sR S3 (ppd (sR S3) b c) 0 = none ∧ ¬ sR S3 (ppd (sR S3) b c) 1 = none
    rw [le.PP c hc, y0, y1]
    exact ⟨(by simp), (by simp)⟩
  have K4 := fun G => K (pI S3 (Cb (sR S) b c) 2 v) G hT4 pin
  have eC : Cb (sR (pI S3 (Cb (sR S) b c) 2 v)) b c = Cb (sR S) b c := le.C c hc
  have kx4 : sK (pI S3 (Cb (sR S) b c) 2 v) b = 8 := kx3
  have rC4 : sR (pI S3 (Cb (sR S) b c) 2 v) b 1 = some (cad (sR S) b) := rC3
  have kC4 : sK (pI S3 (Cb (sR S) b c) 2 v) (cad (sR S) b) = 12 := kC3
  have nC4 : sN (pI S3 (Cb (sR S) b c) 2 v) (cad (sR S) b) = 8 := nC3
  have ra4 : sR (pI S3 (Cb (sR S) b c) 2 v) (cad (sR S) b) c = some (Cb (sR S) b c) := ra3
  generalize pI S3 (Cb (sR S) b c) 2 v = S4 at hT4 ir4 hL4 pl4 K4 eC kx4 rC4 kC4 nC4 ra4 ⊢
  clear pin
  rw [← eC] at ra4
  refine e_ldA g0 (e_ldA g0 (e_gR kx4 rC4 (e_ldI g1 (e_aR kC4 nC4 hc (by decide) ra4 (And.intro kx4 (And.intro ⟨by decide, by decide⟩ (x_switchOnG hL4 hc pl4 ir4 (fun F eF ir5 => ?_))))))))
  rw [← eF] at K4
  exact e_ldA g0 (And.intro kx4 (And.intro ⟨by decide, by decide⟩ (x_noteChangeG (S := wI S4 F) hL4 ir5 (fun G eG ir6 => e_rV (K4 G eG ir6)))))
theorem c_tl90 {Q : Option Value → MM → Prop} {X : String → MM → Prop} {S : MM} {b c i k : Nat} {v : Int32} {lv : Lv} (hL : LY S b) (ir : IR S) (hc : c < 8) (hi : i < 8) (hk : k < 8) (g0 : lvg lv 0 = some (.ref b)) (g1 : lvg lv 1 = some (.int (nI c))) (g2 : lvg lv 2 = some (.int (nI i))) (g3 : lvg lv 3 = some (.int (nI k))) (g4 : lvg lv 4 = some (.int v)) (K : ∀ S' G, TY S' → PIN S S' b c i k v → G = f_X7_noteChange (f_X7_switchOn (sI S') (sR S') b c) (sR S') b → IR (wI S' G) → Q none (wI S' G)) : tl90 Q X lv [] S 0 0 := by
  have hT := hL.1
  have kx := hL.2
  have rC := (ly_ca hL).1
  have kC := (ly_ca hL).2.1
  have nC := (ly_ca hL).2.2
  have ra := (ly_C hL hc).1
  have ka := (ly_C hL hc).2.1
  have rp := (ly_pp hL hc).1
  have kp := (ly_pp hL hc).2.1
  have np := (ly_pp hL hc).2.2
  have s0 := (ly_P hL (show 0 < 2 by decide) hi).1
  have t0 := (ly_P hL (show 0 < 2 by decide) hi).2.1
  have w0 := (ly_P hL (show 0 < 2 by decide) hi).2.2
  have s1 := (ly_P hL (show 1 < 2 by decide) hk).1
  have t1 := (ly_P hL (show 1 < 2 by decide) hk).2.1
  have w1 := (ly_P hL (show 1 < 2 by decide) hk).2.2
  have nA1 : pad (sR S) b 1 ≠ ppd (sR S) b c := fun z => by
    have := (ly_pa hL (show 1 < 2 by decide)).2.2
    rw [z, np] at this
    cases this
  unfold tl90
  refine e_ldA g0 (e_ldI g1 (e_cN 0 rfl (e_ldA g0 (e_gR kx (ly_ea hL).1 (e_cN 0 rfl (e_aR (N := 2) (ly_ea hL).2.1 (ly_ea hL).2.2 (by decide) (by decide) (ly_E hL (show 0 < 2 by decide)).1 (e_gR (ly_E hL (show 0 < 2 by decide)).2.1 (ly_pa hL (show 0 < 2 by decide)).1 (e_ldI g2 (e_aR (N := 8) (ly_pa hL (show 0 < 2 by decide)).2.1 (ly_pa hL (show 0 < 2 by decide)).2.2 hi (by decide) s0 (And.intro kx (And.intro ⟨by decide, by decide⟩ (z_X7_putIn (e := 0) kx rC kC nC hc ra ka rp kp np (by decide) t0 ?_))))))))))))
  have hT2 : TY (pI (pR S (ppd (sR S) b c) 0 (some (Pt (sR S) b 0 i))) (Pt (sR S) b 0 i) 2 (nI c)) := TY_p17 hT kp np (fun b hb => by cases hb; exact ⟨t0, w0⟩)
  have ir2 : IR (pI (pR S (ppd (sR S) b c) 0 (some (Pt (sR S) b 0 i))) (Pt (sR S) b 0 i) 2 (nI c)) := IR_w (S := pR S (ppd (sR S) b c) 0 (some (Pt (sR S) b 0 i))) ir t0 (fun N e => nomatch (show (none : Option Nat) = some N from e))
  have rr2 : ∀ z, z ≠ ppd (sR S) b c → sR (pI (pR S (ppd (sR S) b c) 0 (some (Pt (sR S) b 0 i))) (Pt (sR S) b 0 i) 2 (nI c)) z = sR S z := fun z hz => by rw [sR_pI, sR_pR, up2_row hz]
  have rj2 : ∀ j, j ≠ 0 → sR (pI (pR S (ppd (sR S) b c) 0 (some (Pt (sR S) b 0 i))) (Pt (sR S) b 0 i) 2 (nI c)) (ppd (sR S) b c) j = sR S (ppd (sR S) b c) j := fun j h0 => by rw [sR_pI, sR_pR, up2_ne (fun z => h0 z.2)]
  have z2 : sR (pI (pR S (ppd (sR S) b c) 0 (some (Pt (sR S) b 0 i))) (Pt (sR S) b 0 i) 2 (nI c)) (ppd (sR S) b c) 0 = some (Pt (sR S) b 0 i) := by rw [sR_pI, sR_pR, up2_self]
  have i2 : sI (pI (pR S (ppd (sR S) b c) 0 (some (Pt (sR S) b 0 i))) (Pt (sR S) b 0 i) 2 (nI c)) = up2 (sI S) (Pt (sR S) b 0 i) 2 (nI c) := rfl
  have kk2 : sK (pI (pR S (ppd (sR S) b c) 0 (some (Pt (sR S) b 0 i))) (Pt (sR S) b 0 i) 2 (nI c)) = sK S := rfl
  have nn2 : sN (pI (pR S (ppd (sR S) b c) 0 (some (Pt (sR S) b 0 i))) (Pt (sR S) b 0 i) 2 (nI c)) = sN S := rfl
  have jj2 : sJ (pI (pR S (ppd (sR S) b c) 0 (some (Pt (sR S) b 0 i))) (Pt (sR S) b 0 i) 2 (nI c)) = sJ S := rfl
  generalize pI (pR S (ppd (sR S) b c) 0 (some (Pt (sR S) b 0 i))) (Pt (sR S) b 0 i) 2 (nI c) = S2 at hT2 ir2 rr2 rj2 z2 i2 kk2 nn2 jj2
  have nx : b ≠ ppd (sR S) b c := ne_kd kx kp (by decide)
  have nE' : ead (sR S) b ≠ ppd (sR S) b c := ne_kd (ly_ea hL).2.1 kp (by decide)
  have ne1 : En (sR S) b 1 ≠ ppd (sR S) b c := ne_kd (ly_E hL (show 1 < 2 by decide)).2.1 kp (by decide)
  have naC : cad (sR S) b ≠ ppd (sR S) b c := ne_kd kC kp (by decide)
  have na : Cb (sR S) b c ≠ ppd (sR S) b c := ne_kd ka kp (by decide)
  refine e_ldA g0 (e_ldI g1 (e_cN 1 rfl (e_ldA g0 (e_gR (by rw [kk2]; exact kx) (by rw [rr2 b nx]; exact (ly_ea hL).1) (e_cN 1 rfl (e_aR (N := 2) (by rw [kk2]; exact (ly_ea hL).2.1) (by rw [nn2]; exact (ly_ea hL).2.2) (by decide) (by decide) (by rw [rr2 _ nE']; exact (ly_E hL (show 1 < 2 by decide)).1) (e_gR (by rw [kk2]; exact (ly_E hL (show 1 < 2 by decide)).2.1) (by rw [rr2 _ ne1]; exact (ly_pa hL (show 1 < 2 by decide)).1) (e_ldI g3 (e_aR (N := 8) (by rw [kk2]; exact (ly_pa hL (show 1 < 2 by decide)).2.1) (by rw [nn2]; exact (ly_pa hL (show 1 < 2 by decide)).2.2) hk (by decide) (by rw [rr2 _ nA1]; exact s1) (And.intro (by rw [kk2]; exact kx) (And.intro ⟨by decide, by decide⟩ (z_X7_putIn (e := 1) (by rw [kk2]; exact kx) (by rw [rr2 b nx]; exact rC) (by rw [kk2]; exact kC) (by rw [nn2]; exact nC) hc (by rw [rr2 _ naC]; exact ra) (by rw [kk2]; exact ka) (by rw [rr2 _ na]; exact rp) (by rw [kk2]; exact kp) (by rw [nn2]; exact np) (by decide) (by rw [kk2]; exact t1) ?_))))))))))))
  have kp2 : sK S2 (ppd (sR S) b c) = 17 := by rw [kk2]; exact kp
  have np2 : sN S2 (ppd (sR S) b c) = 2 := by rw [nn2]; exact np
  have hT3 : TY (pI (pR S2 (ppd (sR S) b c) 1 (some (Pt (sR S) b 1 k))) (Pt (sR S) b 1 k) 2 (nI c)) := TY_p17 hT2 kp2 np2 (fun b hb => by cases hb; exact ⟨by rw [kk2]; exact t1, by rw [nn2]; exact w1⟩)
  have ir3 : IR (pI (pR S2 (ppd (sR S) b c) 1 (some (Pt (sR S) b 1 k))) (Pt (sR S) b 1 k) 2 (nI c)) := IR_w (S := pR S2 (ppd (sR S) b c) 1 (some (Pt (sR S) b 1 k))) (kd := 6) ir2 (by rw [sK_pR, kk2]; exact t1) (fun N e => nomatch (show (none : Option Nat) = some N from e))
  have rr3 : ∀ z, z ≠ ppd (sR S) b c → sR (pI (pR S2 (ppd (sR S) b c) 1 (some (Pt (sR S) b 1 k))) (Pt (sR S) b 1 k) 2 (nI c)) z = sR S z := fun z hz => by rw [sR_pI, sR_pR, up2_row hz]; exact rr2 z hz
  have rj3 : ∀ j, j ≠ 0 → j ≠ 1 → sR (pI (pR S2 (ppd (sR S) b c) 1 (some (Pt (sR S) b 1 k))) (Pt (sR S) b 1 k) 2 (nI c)) (ppd (sR S) b c) j = sR S (ppd (sR S) b c) j := fun j h0 h1 => by rw [sR_pI, sR_pR, up2_ne (fun z => h1 z.2)]; exact rj2 j h0
  have y0 : sR (pI (pR S2 (ppd (sR S) b c) 1 (some (Pt (sR S) b 1 k))) (Pt (sR S) b 1 k) 2 (nI c)) (ppd (sR S) b c) 0 = some (Pt (sR S) b 0 i) := by rw [sR_pI, sR_pR, up2_ne (by simp)]; exact z2
  have y1 : sR (pI (pR S2 (ppd (sR S) b c) 1 (some (Pt (sR S) b 1 k))) (Pt (sR S) b 1 k) 2 (nI c)) (ppd (sR S) b c) 1 = some (Pt (sR S) b 1 k) := by rw [sR_pI, sR_pR, up2_self]
  have i3 : sI (pI (pR S2 (ppd (sR S) b c) 1 (some (Pt (sR S) b 1 k))) (Pt (sR S) b 1 k) 2 (nI c)) = up2 (up2 (sI S) (Pt (sR S) b 0 i) 2 (nI c)) (Pt (sR S) b 1 k) 2 (nI c) := by rw [sI_pI, sI_pR, i2]
  have kk3 : sK (pI (pR S2 (ppd (sR S) b c) 1 (some (Pt (sR S) b 1 k))) (Pt (sR S) b 1 k) 2 (nI c)) = sK S := kk2
  have nn3 : sN (pI (pR S2 (ppd (sR S) b c) 1 (some (Pt (sR S) b 1 k))) (Pt (sR S) b 1 k) 2 (nI c)) = sN S := nn2
  have jj3 : sJ (pI (pR S2 (ppd (sR S) b c) 1 (some (Pt (sR S) b 1 k))) (Pt (sR S) b 1 k) 2 (nI c)) = sJ S := jj2
  generalize pI (pR S2 (ppd (sR S) b c) 1 (some (Pt (sR S) b 1 k))) (Pt (sR S) b 1 k) 2 (nI c) = S3 at hT3 ir3 rr3 rj3 y0 y1 i3 kk3 nn3 jj3
  exact c_tl90b (X := X) hL hc hT3 ir3 nx naC rr3 y0 y1 i3 rj3 kk3 nn3 jj3 g0 g1 g4 K
theorem c_plug {Q : Option Value → MM → Prop} {X : String → MM → Prop} {S : MM} {b : Nat} {v w u t : Int32} (hL : LY S b) (ir : IR S) (K1 : PGB v w u t → X eI S) (K2 : ∀ c i k, c < 8 → i < 8 → k < 8 → v = nI c → w = nI i → u = nI k → ¬ PGB v w u t → ¬ ((sI S (Pt (sR S) b 0 i) 2 = -1 ∨ sI S (Pt (sR S) b 0 i) 2 = nI c) ∧ (sI S (Pt (sR S) b 1 k) 2 = -1 ∨ sI S (Pt (sR S) b 1 k) 2 = nI c)) → X eS S) (K : ∀ c i k S1 S2, c < 8 → i < 8 → k < 8 → v = nI c → w = nI i → u = nI k → ¬ PGB v w u t → (sI S (Pt (sR S) b 0 i) 2 = -1 ∨ sI S (Pt (sR S) b 0 i) 2 = nI c) → (sI S (Pt (sR S) b 1 k) 2 = -1 ∨ sI S (Pt (sR S) b 1 k) 2 = nI c) → TY S1 → ((¬ plg (sR S) b c ∧ S1 = S) ∨ ∃ p0 p1, sR S (ppd (sR S) b c) 0 = some p0 ∧ sR S (ppd (sR S) b c) 1 = some p1 ∧ TKO S S1 b c p0 p1) → TY S2 → PIN S1 S2 b c i k t → ∀ G, G = f_X7_noteChange (f_X7_switchOn (sI S2) (sR S2) b c) (sR S2) b → IR (wI S2 G) → Q none (wI S2 G)) : wX7_plug [.ref b, .int v, .int w, .int u, .int t] S Q X := by
  have kx := hL.2
  have th : PGB v w u t → ∀ lv, wpn (kX7_plug Q X) 60 34 lv [] S 0 0 := fun h lv => u_X7_plug_34 (And.intro ⟨by decide, by decide⟩ (K1 h))
  refine Exists.intro 61 (u_X7_plug_0 ?_)
  unfold bX7_plug_0
  refine e_ldI rfl (And.intro ⟨by decide, by decide⟩ (z_isCable' (fun h => e_ifN (by decide) (fun _ => th (Or.inl h) _) (fun q => absurd rfl q)) (fun j hj ej => e_ifN (by decide) (fun q => absurd q (by decide)) (fun _ => ?_))))
  refine e_ldI rfl (And.intro ⟨by decide, by decide⟩ (z_isPort' (fun h => e_ifN (by decide) (fun _ => th (Or.inr (Or.inl h)) _) (fun q => absurd rfl q)) (fun i hi ei => e_ifN (by decide) (fun q => absurd q (by decide)) (fun _ => ?_))))
  refine e_ldI rfl (And.intro ⟨by decide, by decide⟩ (z_isPort' (fun h => e_ifN (by decide) (fun _ => th (Or.inr (Or.inr (Or.inl h))) _) (fun q => absurd rfl q)) (fun k hk ek => e_ifN (by decide) (fun q => absurd q (by decide)) (fun _ => ?_))))
  refine e_ldI rfl (e_cI ⟨fun h => th (Or.inr (Or.inr (Or.inr (Or.inl h)))) _, fun h1 => e_ldI rfl (e_cI ⟨fun h2 => u_X7_plug_44 ?_, fun h => th (Or.inr (Or.inr (Or.inr (Or.inr h)))) _⟩)⟩)
  have nb : ¬ PGB v w u t := fun q => by
    rcases q with q | q | q | q | q
    · exact nb8 hj (ej ▸ q)
    · exact nb8 hi (ei ▸ q)
    · exact nb8 hk (ek ▸ q)
    · exact h1 q
    · exact q h2
  have K2' := K2 j i k hj hi hk ej ei ek nb
  have K' := fun S1 S2 => K j i k S1 S2 hj hi hk ej ei ek nb
  subst ej ei ek
  have l0 := ly_pa hL (show 0 < 2 by decide)
  have l1 := ly_pa hL (show 1 < 2 by decide)
  have s0 := ly_P hL (show 0 < 2 by decide) hi
  have s1 := ly_P hL (show 1 < 2 by decide) hk
  have bad : ∀ f lv, ¬ ((sI S (Pt (sR S) b 0 i) 2 = -1 ∨ sI S (Pt (sR S) b 0 i) 2 = nI j) ∧ (sI S (Pt (sR S) b 1 k) 2 = -1 ∨ sI S (Pt (sR S) b 1 k) 2 = nI j)) → wpn (kX7_plug Q X) (f + 1) 80 lv [] S 0 0 := fun f lv h => u_X7_plug_80 (And.intro ⟨by decide, by decide⟩ (K2' h))
  unfold bX7_plug_44
  refine e_ldA rfl (e_gR kx (ly_ea hL).1 (e_cN 0 rfl (e_aR (N := 2) (ly_ea hL).2.1 (ly_ea hL).2.2 (by decide) (by decide) (ly_E hL (show 0 < 2 by decide)).1 (e_gR (ly_E hL (show 0 < 2 by decide)).2.1 l0.1 (e_ldI rfl (e_aR (N := 8) l0.2.1 l0.2.2 hi (by decide) s0.1 (e_ldI rfl (And.intro ⟨by decide, by decide⟩ (x_isTaken s0.2.1 (fun h0 => e_ifN (by decide) (fun _ => ?_) (fun q => absurd rfl q)) (fun h0 => e_ifN (by decide) (fun q => absurd q (by decide)) (fun _ => bad 58 _ (fun z => h0 z.1))))))))))))
  refine e_ldA rfl (e_gR kx (ly_ea hL).1 (e_cN 1 rfl (e_aR (N := 2) (ly_ea hL).2.1 (ly_ea hL).2.2 (by decide) (by decide) (ly_E hL (show 1 < 2 by decide)).1 (e_gR (ly_E hL (show 1 < 2 by decide)).2.1 l1.1 (e_ldI rfl (e_aR (N := 8) l1.2.1 l1.2.2 hk (by decide) s1.1 (e_ldI rfl (And.intro ⟨by decide, by decide⟩ (x_isTaken s1.2.1 (fun h1 => e_ifN (by decide) (fun _ => u_X7_plug_90 ?_) (fun q => absurd rfl q)) (fun h1 => e_ifN (by decide) (fun q => absurd q (by decide)) (fun _ => bad 58 _ (fun z => h1 z.2))))))))))))
  unfold bX7_plug_90
  refine e_ldA rfl (e_ldA rfl (e_gR kx (ly_ca hL).1 (e_ldI rfl (e_aR (N := 8) (ly_ca hL).2.1 (ly_ca hL).2.2 hj (by decide) (ly_C hL hj).1 (And.intro kx (And.intro ⟨by decide, by decide⟩ (c_takeOut hL hj ir (fun h => ?_) (fun p0 p1 S1 c0 c1 hT1 ir1 tk => ?_))))))))
  · exact c_tl90 (X := X) hL ir hj hi hk rfl rfl rfl rfl rfl (fun S' G t' pin => K' S S' h0 h1 hL.1 (Or.inl ⟨h, rfl⟩) t' pin G)
  · exact c_tl90 (X := X) (LY_ne hL tk.1 hT1) ir1 hj hi hk rfl rfl rfl rfl rfl (fun S' G t' pin => K' S1 S' h0 h1 hT1 (Or.inr ⟨p0, p1, c0, c1, tk⟩) t' pin G)
