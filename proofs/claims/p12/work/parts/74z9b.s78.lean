/-! SIMULATION 78: came as a pair of halves, with its answers -/
def CEK (S : MM) (A : Nat → Nat) (n : Nat → Nat) (g : Nat → Nat → Int32) : Prop := (∀ e, e < 2 → EKm (sI S) A e (n e, g e)) ∧ ∀ e, e < 2 → n e ≤ 100000
theorem ek_ng {S : MM} {x m out i : Nat} {A : Nat → Nat} (hP : GP S x m out A i) : ∃ n g, (∀ e, e < 2 → EKc (sI S) (sR S) x e (n e, g e)) ∧ CEK S A n g := by
  obtain ⟨s0, a0, b0, c0⟩ := hP.2.1.2.2 0 (by decide)
  obtain ⟨s1, a1, b1, c1⟩ := hP.2.1.2.2 1 (by decide)
  have q : ∀ e, e < 2 → e = 0 ∨ e = 1 := fun e he => by omega
  refine ⟨fun e => if e = 0 then s0.1 else s1.1, fun e => if e = 0 then s0.2 else s1.2, fun e he => ?_, fun e he => ?_, fun e he => ?_⟩
  · rcases q e he with rfl | rfl
    · exact a0
    · exact a1
  · rcases q e he with rfl | rfl
    · exact b0
    · exact b1
  · rcases q e he with rfl | rfl
    · exact c0
    · exact c1
theorem k_camex {Q : Option Value → MM → Prop} {S : MM} {x m out i : Nat} {A : Nat → Nat} {v w u : Int32} (hP : GP S x m out A i) (K0 : ∀ n g, CEK S A n g → CAB n v w → Q (some (.int (nI 1))) S) (KN : ∀ n g e k, CEK S A n g → CAG n v w e k → (u < 0 ∨ 4 ≤ u) → Q (some (.int (nI 0))) (pJ S out 0 (-1 : Int32).toInt64)) (KA : ∀ n g e k q, CEK S A n g → CAG n v w e k → q < 4 → u = nI q → Q (some (.int (nI 0))) (pJ S out 0 (g e (4 * ((n e - 1 - k) % 50) + q)).toInt64)) : wL_came [.ref x, .int v, .int w, .int u, .ref out] S Q := by
  have hG := hP.1
  obtain ⟨n, g, ec, ck⟩ := ek_ng hP
  refine Exists.intro 3 (And.intro hG.2.2.1 (And.intro ⟨by decide, by decide⟩ (w_X7_came (n := n) (g := g) hG.1 hG.2.1 hG.2.2.1 ec (fun cb q => ?_) (fun e k cg h4 => ?_) (fun e k q cg hq eq => ?_))))
  · rw [hd1_1]; exact K0 n g ck cb
  · exact And.intro hG.2.2.2.1 (And.intro (by show vp_in 0 (sN S out); rw [hG.2.2.2.2.1]; exact in_0 (by decide)) (KN n g e k ck cg h4))
  · exact And.intro hG.2.2.2.1 (And.intro (by show vp_in 0 (sN S out); rw [hG.2.2.2.2.1]; exact in_0 (by decide)) (KA n g e k q ck cg hq eq))
theorem p_came0 {Q : Option Value → MM → Prop} {S : MM} {x m out i : Nat} {A : Nat → Nat} {v w u : Int32} {n : Nat → Nat} {g : Nat → Nat → Int32} (hP : GP S x m out A i) (ck : CEK S A n g) (cb : CAB n v w) (K : ∀ r S2, GP S2 x m out A (i + 1) → sI S2 m 0 = 1 → Q (some (.int r)) S2) : wX8_came [.ref m, .int v, .int w, .int u] S Q :=
  w_f_came (n := n) (g := g) hP.1.2.2.2.2.2.1 ck.1 ck.2 (im_h hP.1 (GH_0 hP.1)) (fun _ r S2 e im e0 => K r S2 (p_same hP (GH_0 hP.1) rfl rfl e im) e0) (fun e k cg => absurd cb (cm_no cg)) (fun e k q cg => absurd cb (cm_no cg))
theorem p_cameN {Q : Option Value → MM → Prop} {S : MM} {x m out i e k : Nat} {A : Nat → Nat} {v w u : Int32} {z : Int64} {n : Nat → Nat} {g : Nat → Nat → Int32} (hP : GP S x m out A i) (ck : CEK S A n g) (cg : CAG n v w e k) (h4 : u < 0 ∨ 4 ≤ u) (K : ∀ S2, GP S2 x m out A (i + 1) → sI S2 m 0 = 0 → sJ S2 = sJ (pJ S out 0 z) → Q (some (.int (-1))) S2) : wX8_came [.ref m, .int v, .int w, .int u] (pJ S out 0 z) Q := by
  have hh : GH S (pJ S out 0 z) x m out A := GH_p (GH_0 hP.1)
  exact w_f_came (S0 := pJ S out 0 z) (n := n) (g := g) (MS_b hh) ck.1 ck.2 (im_h hP.1 hh) (fun cb => absurd cb (cm_no cg)) (fun _ _ _ _ S2 sm im e0 => K S2 (p_same hP hh rfl rfl sm im) e0 sm.2.2.2.1) (fun _ _ q _ hq eq => absurd h4 (by rw [eq]; exact c4_no hq))
theorem p_cameA {Q : Option Value → MM → Prop} {S : MM} {x m out i e k q : Nat} {A : Nat → Nat} {v w u : Int32} {z : Int64} {n : Nat → Nat} {g : Nat → Nat → Int32} (hP : GP S x m out A i) (ck : CEK S A n g) (cg : CAG n v w e k) (hq : q < 4) (eq : u = nI q) (K : ∀ S2, GP S2 x m out A (i + 1) → sI S2 m 0 = 0 → sJ S2 = sJ (pJ S out 0 z) → Q (some (.int (g e (4 * ((n e - 1 - k) % 50) + q)))) S2) : wX8_came [.ref m, .int v, .int w, .int u] (pJ S out 0 z) Q := by
  have hh : GH S (pJ S out 0 z) x m out A := GH_p (GH_0 hP.1)
  refine w_f_came (S0 := pJ S out 0 z) (n := n) (g := g) (MS_b hh) ck.1 ck.2 (im_h hP.1 hh) (fun cb => absurd cb (cm_no cg)) (fun _ _ _ h4 => absurd h4 (by rw [eq]; exact c4_no hq)) (fun e' k' q' cg' hq' eq' S2 sm im e0 => ?_)
  obtain ⟨he, ev, ew, hk⟩ := cg
  obtain ⟨he', ev', ew', hk'⟩ := cg'
  have m1 := mn_50 (n e)
  have m2 := mn_50 (n e')
  have e1 : e = e' := nI_inj (by omega) (by omega) (ev.symm.trans ev')
  have e2 : k = k' := nI_inj (by omega) (by omega) (ew.symm.trans ew')
  have e3 : q = q' := nI_inj (by omega) (by omega) (eq.symm.trans eq')
  subst e1 e2 e3
  exact K S2 (p_same hP hh rfl rfl sm im) e0 sm.2.2.2.1
